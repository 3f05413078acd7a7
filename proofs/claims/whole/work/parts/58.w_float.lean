section
variable {D : va_G} {ad : Nat → Nat → Nat} {cI cJ cF : ClassId}
set_option maxHeartbeats 4000000 in
set_option maxRecDepth 100000 in
theorem ok_Jxf58ca_isNaN_12338 (l : Launch) (hinj : hInj ad) (S : hS) (e0 t0 : Nat) (h1 : 1 ≤ e0) (h2 : e0 < 255) (h3 : t0 < 8388608) : hMi D ad cI cJ cF l yJxf58ca_isNaN_12338 cJxf58ca_isNaN_12338 1 (some .boolean) ({ frames := 0, cells := 0, slots := 0, locals := 0 } : Room) [.float (fE e0 t0)] S 0 S := by
  refine hOfF (S := S) l hinj (by decide +kernel) (Nat.le_of_ble_eq_true rfl) (fun p e s m args below meth c E => ?_)
  obtain ⟨hx, hb, hml, hown, hts, hK, hN, -, hr, hlk⟩ := id E
  intro H locs ls hh hl
  have hl : lv_has ls 1 [(0, .float (fE e0 t0))] := hl
  refine lv_fload_n hx hb dJxf58ca_isNaN_12338_0 rfl (lv_at hl 0 rfl) ?_
  refine lv_fload_n hx hb dJxf58ca_isNaN_12338_1 rfl (lv_at hl 0 rfl) ?_
  refine lv_fcmp hx hb dJxf58ca_isNaN_12338_2 ?_
  rw [fE_self h1 h2 h3]
  refine lv_if_eq (tgt := 10) hx hb dJxf58ca_isNaN_12338_3 (by decide) (fun _ => ?_) (fun q => absurd rfl q)
  refine iv_iconst hx hb dJxf58ca_isNaN_12338_10 ?_
  exact iv_bret E hh rfl (Or.inl rfl) rfl dJxf58ca_isNaN_12338_11
theorem raw_fE {e t : Nat} (he : e < 255) (ht : t < 8388608) : (fE e t).toInt32 = hI ((e * 8388608 + t : Nat) : Int) := by
  apply Int32.toBitVec_inj.mp
  apply BitVec.eq_of_toNat_eq
  rw [hI_bits (by omega)]
  exact fE_nat (by omega) ht
set_option maxHeartbeats 4000000 in
set_option maxRecDepth 100000 in
theorem ok_Jxf58ca_floatToIntBits_5c35a (l : Launch) (hinj : hInj ad) (S : hS) (e0 t0 : Nat) (h1 : 1 ≤ e0) (h2 : e0 < 255) (h3 : t0 < 8388608) : hMi D ad cI cJ cF l yJxf58ca_floatToIntBits_5c35a cJxf58ca_floatToIntBits_5c35a 1 (some .int) ({ frames := 1, cells := 0, slots := 0, locals := 20 } : Room) [.float (fE e0 t0)] S ((e0 * 8388608 + t0 : Nat) : Int) S := by
  refine hOfF (S := S) l hinj (by decide +kernel) (Nat.le_of_ble_eq_true rfl) (fun p e s m args below meth c E => ?_)
  obtain ⟨hx, hb, hml, hown, hts, hK, hN, -, hr, hlk⟩ := id E
  have hown : s.vm.findClass RJxf58ca = some m.cls := hown
  intro H locs ls hh hl
  have hl : lv_has ls 1 [(0, .float (fE e0 t0))] := hl
  refine lv_fload_n hx hb dJxf58ca_floatToIntBits_5c35a_0 rfl (lv_at hl 0 rfl) ?_
  refine iv_ki (iv_rS (As := [.float (fE e0 t0)]) (rest := []) E hh (ok_Jxf58ca_isNaN_12338 l hinj S e0 t0 h1 h2 h3) cb_Jxf58ca_isNaN_12338 q4_184 rfl rfl ⟨Nat.le_of_ble_eq_true rfl, Nat.le_of_ble_eq_true rfl⟩ rfl hl.1 rfl (Nat.le_of_ble_eq_true rfl) dJxf58ca_floatToIntBits_5c35a_1 ⟨Nat.zero_le _, Nat.zero_le _⟩) hh (fun hc1 H locs hh => ?_)
  refine lv_if_ne (tgt := 12) hx hb dJxf58ca_floatToIntBits_5c35a_4 (by decide) (fun q => absurd rfl q) (fun _ => ?_)
  refine lv_fload_n hx hb dJxf58ca_floatToIntBits_5c35a_7 rfl (lv_at hl 0 rfl) ?_
  refine vn_f2i (own := "java/lang/Float") hx hb (by rw [hml]; exact hl.1.symm) hown (hts _ q4_187) (hts _ q4_189) (hts _ q4_188) (hts _ q1_10) (Nat.le_of_ble_eq_true rfl) (Nat.le_of_ble_eq_true rfl) dJxf58ca_floatToIntBits_5c35a_8 ?_
  rw [raw_fE h2 h3]
  exact iv_iret E hh rfl ⟨by omega, by omega⟩ rfl dJxf58ca_floatToIntBits_5c35a_11
end

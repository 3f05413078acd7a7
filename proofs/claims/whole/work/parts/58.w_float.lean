section
variable {D : va_G} {ad : Nat → Nat → Nat} {cI cJ cF : ClassId}
set_option maxHeartbeats 4000000 in
set_option maxRecDepth 100000 in
theorem ok_Jxf58ca_isNaN_12338 (l : Launch) (hinj : hInj ad) (S : hS) (e0 t0 : Nat) (h1 : 1 ≤ e0) (h2 : e0 < 255) (h3 : t0 < 8388608) : hMi D ad cI cJ cF l yJxf58ca_isNaN_12338 cJxf58ca_isNaN_12338 1 (some .boolean) ({ frames := 0, cells := 0, slots := 0, locals := 0 } : Room) [.float (fE e0 t0)] S 0 S := by
  refine hOfF (S := S) l hinj (by decide +kernel) (Nat.le_of_ble_eq_true rfl) (fun p e s m args below meth c E => ?_)
  obtain ⟨hx, hb, hml, hown, hts, hK, hN, -, hr, hlk⟩ := id E
  intro H locs ls hh hl
  have hl : lv_has ls 1 [(0, .float (fE e0 t0))] := hl
  refine lv_fload_n hx hb dJxf58ca_isNaN_12338_0 rfl (lv_at hl 0 rfl) ?_
  refine lv_fload_n hx hb dJxf58ca_isNaN_12338_1 rfl (lv_at hl 0 rfl) ?_
  refine lv_fcmp hx hb dJxf58ca_isNaN_12338_2 ?_
  rw [fE_self h1 h2 h3]
  refine lv_if_eq (tgt := 10) hx hb dJxf58ca_isNaN_12338_3 (by decide) (fun _ => ?_) (fun q => absurd rfl q)
  refine iv_iconst hx hb dJxf58ca_isNaN_12338_10 ?_
  exact iv_bret E hh rfl (Or.inl rfl) rfl dJxf58ca_isNaN_12338_11
end

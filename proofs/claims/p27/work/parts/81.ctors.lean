/-! the seven constructors (laid by program) -/
section
variable (cI cJ cF : ClassId)
def kSheets (a : Nat → Nat) : va_W := [(a 0, .inr (4, [.int 0, .ref (a 1), .ref (a 2), .ref (a 3), .ref (a 4), .ref (a 5)])), (a 1, .inl (cI, 4, .inl (fun _ => 0))), (a 2, .inl (cI, 4, .inl (fun _ => 0))), (a 3, .inl (cI, 4, .inl (fun _ => 0))), (a 4, .inl (cI, 32, .inl (fun _ => 0))), (a 5, .inl (cJ, 32, .inr (.inl (fun _ => 0))))]
def kFont (a : Nat → Nat) : va_W := (a 0, .inr (1, [.int 0, .int 0, .int 20, .int 1, .ref (a 1), .ref (a 2), .ref (a 3), .ref (a 4), .ref (a 5), .ref (a 6), .ref (a 7)])) :: (a 1, .inl (cI, 8, .inl (fun _ => 0))) :: (a 2, .inl (cI, 8, .inl (fun _ => 0))) :: (a 3, .inl (cI, 48, .inl (fun _ => 0))) :: (a 4, .inl (cI, 48, .inl (fun _ => 0))) :: (a 5, .inl (cI, 48, .inl (fun _ => 0))) :: (a 6, .inl (cI, 3, .inl (fun _ => 0))) :: kSheets cI cJ (fun i => a (7 + i))
def kFit (a : Nat → Nat) : va_W := [(a 0, .inr (0, [.int 0, .int 0, .int 0, .long 0, .ref (a 1), .ref (a 2), .ref (a 3)])), (a 1, .inl (cI, 6, .inl (fun _ => 0))), (a 2, .inl (cI, 6, .inl (fun _ => 0))), (a 3, .inl (cI, 48, .inl (fun _ => 0)))]
def kOrders (a : Nat → Nat) : va_W := [(a 0, .inr (3, [.ref (a 1), .int 0, .ref (a 2), .int 0, .int 0, .int 0, .int 0, .int 0])), (a 1, .inl (cI, 60, .inl (fun _ => 0))), (a 2, .inl (cI, 3, .inl (fun _ => 0)))]
def kH5 (b : Nat → Nat → Nat) : Nat → Option Nat := va_up (va_up (va_up (va_up (va_up (fun _ => none) (Int32.toNatClampNeg 0) (some (b 0 0))) (Int32.toNatClampNeg 1) (some (b 1 0))) (Int32.toNatClampNeg 2) (some (b 2 0))) (Int32.toNatClampNeg 3) (some (b 3 0))) (Int32.toNatClampNeg 4) (some (b 4 0))
def kHist (a : Nat → Nat) (b : Nat → Nat → Nat) : va_W := (a 0, .inr (2, [.ref (a 1), .int 0, .int 0])) :: (a 1, .inl (cF, 5, .inr (.inr (.inr (.inr (kH5 b)))))) :: (kFont cI cJ (b 0) ++ (kFont cI cJ (b 1) ++ (kFont cI cJ (b 2) ++ (kFont cI cJ (b 3) ++ kFont cI cJ (b 4)))))
end
section
variable {D : va_G} {cI cJ cF : ClassId}
theorem kT0 : kTy RX0 TX0 7 0 tyX0 := ⟨inX0, tyX0_ok, nmX0, rfl⟩
theorem ky0 : yX0_init.cls = RX0 ∧ yX0_init.name = "<init>" ∧ yX0_init.cls ≠ "java/lang/invoke/MethodHandle" ∧ yX0_init.cls ≠ "java/lang/invoke/VarHandle" ∧ (parseMethodDescriptor yX0_init.desc).map (fun d => d.parameters.length) = some 0 := ⟨rfl, rfl, by decide +kernel, by decide +kernel, by decide +kernel⟩
theorem kT1 : kTy RX1 TX1 11 1 tyX1 := ⟨inX1, tyX1_ok, nmX1, rfl⟩
theorem ky1 : yX1_init.cls = RX1 ∧ yX1_init.name = "<init>" ∧ yX1_init.cls ≠ "java/lang/invoke/MethodHandle" ∧ yX1_init.cls ≠ "java/lang/invoke/VarHandle" ∧ (parseMethodDescriptor yX1_init.desc).map (fun d => d.parameters.length) = some 0 := ⟨rfl, rfl, by decide +kernel, by decide +kernel, by decide +kernel⟩
theorem kT2 : kTy RX2 TX2 3 2 tyX2 := ⟨inX2, tyX2_ok, nmX2, rfl⟩
theorem ky2 : yX2_init.cls = RX2 ∧ yX2_init.name = "<init>" ∧ yX2_init.cls ≠ "java/lang/invoke/MethodHandle" ∧ yX2_init.cls ≠ "java/lang/invoke/VarHandle" ∧ (parseMethodDescriptor yX2_init.desc).map (fun d => d.parameters.length) = some 0 := ⟨rfl, rfl, by decide +kernel, by decide +kernel, by decide +kernel⟩
theorem kT3 : kTy RX3 TX3 8 3 tyX3 := ⟨inX3, tyX3_ok, nmX3, rfl⟩
theorem ky3 : yX3_init.cls = RX3 ∧ yX3_init.name = "<init>" ∧ yX3_init.cls ≠ "java/lang/invoke/MethodHandle" ∧ yX3_init.cls ≠ "java/lang/invoke/VarHandle" ∧ (parseMethodDescriptor yX3_init.desc).map (fun d => d.parameters.length) = some 0 := ⟨rfl, rfl, by decide +kernel, by decide +kernel, by decide +kernel⟩
theorem kT4 : kTy RX4 TX4 6 4 tyX4 := ⟨inX4, tyX4_ok, nmX4, rfl⟩
theorem ky4 : yX4_init.cls = RX4 ∧ yX4_init.name = "<init>" ∧ yX4_init.cls ≠ "java/lang/invoke/MethodHandle" ∧ yX4_init.cls ≠ "java/lang/invoke/VarHandle" ∧ (parseMethodDescriptor yX4_init.desc).map (fun d => d.parameters.length) = some 0 := ⟨rfl, rfl, by decide +kernel, by decide +kernel, by decide +kernel⟩
theorem kT5 : kTy RX5 TX5 5 5 tyX5 := ⟨inX5, tyX5_ok, nmX5, rfl⟩
theorem ky5 : yX5_init.cls = RX5 ∧ yX5_init.name = "<init>" ∧ yX5_init.cls ≠ "java/lang/invoke/MethodHandle" ∧ yX5_init.cls ≠ "java/lang/invoke/VarHandle" ∧ (parseMethodDescriptor yX5_init.desc).map (fun d => d.parameters.length) = some 0 := ⟨rfl, rfl, by decide +kernel, by decide +kernel, by decide +kernel⟩
theorem kd0 : ∀ j, j < 7 → defaultValue (tyX0 j) = vp_V [.int 0, .int 0, .int 0, .long 0, .null, .null, .null] j := by
  intro j hj
  rcases (show j = 0 ∨ j = 1 ∨ j = 2 ∨ j = 3 ∨ j = 4 ∨ j = 5 ∨ j = 6 by omega) with rfl | rfl | rfl | rfl | rfl | rfl | rfl <;> rfl
theorem kd1 : ∀ j, j < 11 → defaultValue (tyX1 j) = vp_V [.int 0, .int 0, .int 0, .int 0, .null, .null, .null, .null, .null, .null, .null] j := by
  intro j hj
  rcases (show j = 0 ∨ j = 1 ∨ j = 2 ∨ j = 3 ∨ j = 4 ∨ j = 5 ∨ j = 6 ∨ j = 7 ∨ j = 8 ∨ j = 9 ∨ j = 10 by omega) with rfl | rfl | rfl | rfl | rfl | rfl | rfl | rfl | rfl | rfl | rfl <;> rfl
theorem kd2 : ∀ j, j < 3 → defaultValue (tyX2 j) = vp_V [.null, .int 0, .int 0] j := by
  intro j hj
  rcases (show j = 0 ∨ j = 1 ∨ j = 2 by omega) with rfl | rfl | rfl <;> rfl
theorem kd3 : ∀ j, j < 8 → defaultValue (tyX3 j) = vp_V [.null, .int 0, .null, .int 0, .int 0, .int 0, .int 0, .int 0] j := by
  intro j hj
  rcases (show j = 0 ∨ j = 1 ∨ j = 2 ∨ j = 3 ∨ j = 4 ∨ j = 5 ∨ j = 6 ∨ j = 7 by omega) with rfl | rfl | rfl | rfl | rfl | rfl | rfl | rfl <;> rfl
theorem kd4 : ∀ j, j < 6 → defaultValue (tyX4 j) = vp_V [.int 0, .null, .null, .null, .null, .null] j := by
  intro j hj
  rcases (show j = 0 ∨ j = 1 ∨ j = 2 ∨ j = 3 ∨ j = 4 ∨ j = 5 by omega) with rfl | rfl | rfl | rfl | rfl | rfl <;> rfl
theorem kd5 : ∀ j, j < 5 → defaultValue (tyX5 j) = vp_V [.null, .null, .null, .null, .null] j := by
  intro j hj
  rcases (show j = 0 ∨ j = 1 ∨ j = 2 ∨ j = 3 ∨ j = 4 by omega) with rfl | rfl | rfl | rfl | rfl <;> rfl
set_option maxHeartbeats 4000000 in
set_option maxRecDepth 100000 in
theorem k_X4 (l : Launch) : kMet D cI cJ cF l yX4_init cX4_init 1 ({ frames := 1, cells := 5, slots := 76, locals := 12 } : Room) 4 [.int 0, .null, .null, .null, .null, .null] 5 76 (fun h0 w => ∃ a : Nat → Nat, a 0 = h0 ∧ w = kSheets cI cJ a) := by
  refine kOf l (by decide +kernel) rfl (Nat.le_of_ble_eq_true rfl) q1_28 (Nat.le_of_ble_eq_true rfl) (Nat.le_of_ble_eq_true rfl) dX4_init_0 dX4_init_1 (fun p e s m args below meth c h0 A ls E hin hA hP hD hS hl fin => ?_)
  have hx := E.1; have hb := E.2.1
  refine lv_aload_n hx hb dX4_init_4 rfl (lv_at hl 0 rfl) ?_
  refine lv_iconst (v := 4) hx hb dX4_init_5 (by decide) ?_
  refine kv_newi E hP hD hS hA (N' := 4) (by decide) (by decide) (by decide) (Nat.le_of_ble_eq_true rfl) (Nat.le_of_ble_eq_true rfl) dX4_init_6 (fun q1 H hP hD hS => ?_)
  have hP : va_P D vwCl ((h0, .inr (4, [.int 0, .null, .null, .null, .null, .null])) :: ([(q1, .inl (cI, 4, .inl (fun _ => 0)))])) H := hP
  have hD : va_D A ((h0, .inr (4, [.int 0, .null, .null, .null, .null, .null])) :: ([(q1, .inl (cI, 4, .inl (fun _ => 0)))])) := hD
  refine kv_putF E hin kT4 hP hD hS 1 (by decide) q1_31 rfl rfl rfl rfl (Nat.le_of_ble_eq_true rfl) dX4_init_8 (fun H locs hP hD hS => ?_)
  have hP : va_P D vwCl ((h0, .inr (4, [.int 0, .ref q1, .null, .null, .null, .null])) :: ([(q1, .inl (cI, 4, .inl (fun _ => 0)))])) H := hP
  have hD : va_D A ((h0, .inr (4, [.int 0, .ref q1, .null, .null, .null, .null])) :: ([(q1, .inl (cI, 4, .inl (fun _ => 0)))])) := hD
  refine lv_aload_n hx hb dX4_init_11 rfl (lv_at hl 0 rfl) ?_
  refine lv_iconst (v := 4) hx hb dX4_init_12 (by decide) ?_
  refine kv_newi E hP hD hS hA (N' := 4) (by decide) (by decide) (by decide) (Nat.le_of_ble_eq_true rfl) (Nat.le_of_ble_eq_true rfl) dX4_init_13 (fun q2 H hP hD hS => ?_)
  have hP : va_P D vwCl ((h0, .inr (4, [.int 0, .ref q1, .null, .null, .null, .null])) :: ([(q1, .inl (cI, 4, .inl (fun _ => 0))), (q2, .inl (cI, 4, .inl (fun _ => 0)))])) H := hP
  have hD : va_D A ((h0, .inr (4, [.int 0, .ref q1, .null, .null, .null, .null])) :: ([(q1, .inl (cI, 4, .inl (fun _ => 0))), (q2, .inl (cI, 4, .inl (fun _ => 0)))])) := hD
  refine kv_putF E hin kT4 hP hD hS 2 (by decide) q1_32 rfl rfl rfl rfl (Nat.le_of_ble_eq_true rfl) dX4_init_15 (fun H locs hP hD hS => ?_)
  have hP : va_P D vwCl ((h0, .inr (4, [.int 0, .ref q1, .ref q2, .null, .null, .null])) :: ([(q1, .inl (cI, 4, .inl (fun _ => 0))), (q2, .inl (cI, 4, .inl (fun _ => 0)))])) H := hP
  have hD : va_D A ((h0, .inr (4, [.int 0, .ref q1, .ref q2, .null, .null, .null])) :: ([(q1, .inl (cI, 4, .inl (fun _ => 0))), (q2, .inl (cI, 4, .inl (fun _ => 0)))])) := hD
  refine lv_aload_n hx hb dX4_init_18 rfl (lv_at hl 0 rfl) ?_
  refine lv_iconst (v := 4) hx hb dX4_init_19 (by decide) ?_
  refine kv_newi E hP hD hS hA (N' := 4) (by decide) (by decide) (by decide) (Nat.le_of_ble_eq_true rfl) (Nat.le_of_ble_eq_true rfl) dX4_init_20 (fun q3 H hP hD hS => ?_)
  have hP : va_P D vwCl ((h0, .inr (4, [.int 0, .ref q1, .ref q2, .null, .null, .null])) :: ([(q1, .inl (cI, 4, .inl (fun _ => 0))), (q2, .inl (cI, 4, .inl (fun _ => 0))), (q3, .inl (cI, 4, .inl (fun _ => 0)))])) H := hP
  have hD : va_D A ((h0, .inr (4, [.int 0, .ref q1, .ref q2, .null, .null, .null])) :: ([(q1, .inl (cI, 4, .inl (fun _ => 0))), (q2, .inl (cI, 4, .inl (fun _ => 0))), (q3, .inl (cI, 4, .inl (fun _ => 0)))])) := hD
  refine kv_putF E hin kT4 hP hD hS 3 (by decide) q1_35 rfl rfl rfl rfl (Nat.le_of_ble_eq_true rfl) dX4_init_22 (fun H locs hP hD hS => ?_)
  have hP : va_P D vwCl ((h0, .inr (4, [.int 0, .ref q1, .ref q2, .ref q3, .null, .null])) :: ([(q1, .inl (cI, 4, .inl (fun _ => 0))), (q2, .inl (cI, 4, .inl (fun _ => 0))), (q3, .inl (cI, 4, .inl (fun _ => 0)))])) H := hP
  have hD : va_D A ((h0, .inr (4, [.int 0, .ref q1, .ref q2, .ref q3, .null, .null])) :: ([(q1, .inl (cI, 4, .inl (fun _ => 0))), (q2, .inl (cI, 4, .inl (fun _ => 0))), (q3, .inl (cI, 4, .inl (fun _ => 0)))])) := hD
  refine lv_aload_n hx hb dX4_init_25 rfl (lv_at hl 0 rfl) ?_
  refine lv_bipush (v := 32) hx hb dX4_init_26 (by decide) ?_
  refine kv_newi E hP hD hS hA (N' := 32) (by decide) (by decide) (by decide) (Nat.le_of_ble_eq_true rfl) (Nat.le_of_ble_eq_true rfl) dX4_init_28 (fun q4 H hP hD hS => ?_)
  have hP : va_P D vwCl ((h0, .inr (4, [.int 0, .ref q1, .ref q2, .ref q3, .null, .null])) :: ([(q1, .inl (cI, 4, .inl (fun _ => 0))), (q2, .inl (cI, 4, .inl (fun _ => 0))), (q3, .inl (cI, 4, .inl (fun _ => 0))), (q4, .inl (cI, 32, .inl (fun _ => 0)))])) H := hP
  have hD : va_D A ((h0, .inr (4, [.int 0, .ref q1, .ref q2, .ref q3, .null, .null])) :: ([(q1, .inl (cI, 4, .inl (fun _ => 0))), (q2, .inl (cI, 4, .inl (fun _ => 0))), (q3, .inl (cI, 4, .inl (fun _ => 0))), (q4, .inl (cI, 32, .inl (fun _ => 0)))])) := hD
  refine kv_putF E hin kT4 hP hD hS 4 (by decide) q1_38 rfl rfl rfl rfl (Nat.le_of_ble_eq_true rfl) dX4_init_30 (fun H locs hP hD hS => ?_)
  have hP : va_P D vwCl ((h0, .inr (4, [.int 0, .ref q1, .ref q2, .ref q3, .ref q4, .null])) :: ([(q1, .inl (cI, 4, .inl (fun _ => 0))), (q2, .inl (cI, 4, .inl (fun _ => 0))), (q3, .inl (cI, 4, .inl (fun _ => 0))), (q4, .inl (cI, 32, .inl (fun _ => 0)))])) H := hP
  have hD : va_D A ((h0, .inr (4, [.int 0, .ref q1, .ref q2, .ref q3, .ref q4, .null])) :: ([(q1, .inl (cI, 4, .inl (fun _ => 0))), (q2, .inl (cI, 4, .inl (fun _ => 0))), (q3, .inl (cI, 4, .inl (fun _ => 0))), (q4, .inl (cI, 32, .inl (fun _ => 0)))])) := hD
  refine lv_aload_n hx hb dX4_init_33 rfl (lv_at hl 0 rfl) ?_
  refine lv_bipush (v := 32) hx hb dX4_init_34 (by decide) ?_
  refine kv_newj E hP hD hS hA (N' := 32) (by decide) (by decide) (by decide) (Nat.le_of_ble_eq_true rfl) (Nat.le_of_ble_eq_true rfl) dX4_init_36 (fun q5 H hP hD hS => ?_)
  have hP : va_P D vwCl ((h0, .inr (4, [.int 0, .ref q1, .ref q2, .ref q3, .ref q4, .null])) :: ([(q1, .inl (cI, 4, .inl (fun _ => 0))), (q2, .inl (cI, 4, .inl (fun _ => 0))), (q3, .inl (cI, 4, .inl (fun _ => 0))), (q4, .inl (cI, 32, .inl (fun _ => 0))), (q5, .inl (cJ, 32, .inr (.inl (fun _ => 0))))])) H := hP
  have hD : va_D A ((h0, .inr (4, [.int 0, .ref q1, .ref q2, .ref q3, .ref q4, .null])) :: ([(q1, .inl (cI, 4, .inl (fun _ => 0))), (q2, .inl (cI, 4, .inl (fun _ => 0))), (q3, .inl (cI, 4, .inl (fun _ => 0))), (q4, .inl (cI, 32, .inl (fun _ => 0))), (q5, .inl (cJ, 32, .inr (.inl (fun _ => 0))))])) := hD
  refine kv_putF E hin kT4 hP hD hS 5 (by decide) q1_41 rfl rfl rfl rfl (Nat.le_of_ble_eq_true rfl) dX4_init_38 (fun H locs hP hD hS => ?_)
  have hP : va_P D vwCl ((h0, .inr (4, [.int 0, .ref q1, .ref q2, .ref q3, .ref q4, .ref q5])) :: ([(q1, .inl (cI, 4, .inl (fun _ => 0))), (q2, .inl (cI, 4, .inl (fun _ => 0))), (q3, .inl (cI, 4, .inl (fun _ => 0))), (q4, .inl (cI, 32, .inl (fun _ => 0))), (q5, .inl (cJ, 32, .inr (.inl (fun _ => 0))))])) H := hP
  have hD : va_D A ((h0, .inr (4, [.int 0, .ref q1, .ref q2, .ref q3, .ref q4, .ref q5])) :: ([(q1, .inl (cI, 4, .inl (fun _ => 0))), (q2, .inl (cI, 4, .inl (fun _ => 0))), (q3, .inl (cI, 4, .inl (fun _ => 0))), (q4, .inl (cI, 32, .inl (fun _ => 0))), (q5, .inl (cJ, 32, .inr (.inl (fun _ => 0))))])) := hD
  exact fin _ _ _ _ _ _ _ ⟨fun i => match i with | 0 => h0 | 1 => q1 | 2 => q2 | 3 => q3 | 4 => q4 | _ => q5, rfl, rfl⟩ hP hD hS (Nat.le_of_ble_eq_true rfl) (Nat.le_of_ble_eq_true rfl) dX4_init_41
set_option maxHeartbeats 4000000 in
set_option maxRecDepth 100000 in
theorem k_X0 (l : Launch) : kMet D cI cJ cF l yX0_init cX0_init 1 ({ frames := 1, cells := 3, slots := 60, locals := 12 } : Room) 0 [.int 0, .int 0, .int 0, .long 0, .null, .null, .null] 3 60 (fun h0 w => ∃ a : Nat → Nat, a 0 = h0 ∧ w = kFit cI a) := by
  refine kOf l (by decide +kernel) rfl (Nat.le_of_ble_eq_true rfl) q1_111 (Nat.le_of_ble_eq_true rfl) (Nat.le_of_ble_eq_true rfl) dX0_init_0 dX0_init_1 (fun p e s m args below meth c h0 A ls E hin hA hP hD hS hl fin => ?_)
  have hx := E.1; have hb := E.2.1
  refine lv_aload_n hx hb dX0_init_4 rfl (lv_at hl 0 rfl) ?_
  refine lv_bipush (v := 6) hx hb dX0_init_5 (by decide) ?_
  refine kv_newi E hP hD hS hA (N' := 6) (by decide) (by decide) (by decide) (Nat.le_of_ble_eq_true rfl) (Nat.le_of_ble_eq_true rfl) dX0_init_7 (fun q1 H hP hD hS => ?_)
  have hP : va_P D vwCl ((h0, .inr (0, [.int 0, .int 0, .int 0, .long 0, .null, .null, .null])) :: ([(q1, .inl (cI, 6, .inl (fun _ => 0)))])) H := hP
  have hD : va_D A ((h0, .inr (0, [.int 0, .int 0, .int 0, .long 0, .null, .null, .null])) :: ([(q1, .inl (cI, 6, .inl (fun _ => 0)))])) := hD
  refine kv_putF E hin kT0 hP hD hS 4 (by decide) q1_118 rfl rfl rfl rfl (Nat.le_of_ble_eq_true rfl) dX0_init_9 (fun H locs hP hD hS => ?_)
  have hP : va_P D vwCl ((h0, .inr (0, [.int 0, .int 0, .int 0, .long 0, .ref q1, .null, .null])) :: ([(q1, .inl (cI, 6, .inl (fun _ => 0)))])) H := hP
  have hD : va_D A ((h0, .inr (0, [.int 0, .int 0, .int 0, .long 0, .ref q1, .null, .null])) :: ([(q1, .inl (cI, 6, .inl (fun _ => 0)))])) := hD
  refine lv_aload_n hx hb dX0_init_12 rfl (lv_at hl 0 rfl) ?_
  refine lv_bipush (v := 6) hx hb dX0_init_13 (by decide) ?_
  refine kv_newi E hP hD hS hA (N' := 6) (by decide) (by decide) (by decide) (Nat.le_of_ble_eq_true rfl) (Nat.le_of_ble_eq_true rfl) dX0_init_15 (fun q2 H hP hD hS => ?_)
  have hP : va_P D vwCl ((h0, .inr (0, [.int 0, .int 0, .int 0, .long 0, .ref q1, .null, .null])) :: ([(q1, .inl (cI, 6, .inl (fun _ => 0))), (q2, .inl (cI, 6, .inl (fun _ => 0)))])) H := hP
  have hD : va_D A ((h0, .inr (0, [.int 0, .int 0, .int 0, .long 0, .ref q1, .null, .null])) :: ([(q1, .inl (cI, 6, .inl (fun _ => 0))), (q2, .inl (cI, 6, .inl (fun _ => 0)))])) := hD
  refine kv_putF E hin kT0 hP hD hS 5 (by decide) q1_119 rfl rfl rfl rfl (Nat.le_of_ble_eq_true rfl) dX0_init_17 (fun H locs hP hD hS => ?_)
  have hP : va_P D vwCl ((h0, .inr (0, [.int 0, .int 0, .int 0, .long 0, .ref q1, .ref q2, .null])) :: ([(q1, .inl (cI, 6, .inl (fun _ => 0))), (q2, .inl (cI, 6, .inl (fun _ => 0)))])) H := hP
  have hD : va_D A ((h0, .inr (0, [.int 0, .int 0, .int 0, .long 0, .ref q1, .ref q2, .null])) :: ([(q1, .inl (cI, 6, .inl (fun _ => 0))), (q2, .inl (cI, 6, .inl (fun _ => 0)))])) := hD
  refine lv_aload_n hx hb dX0_init_20 rfl (lv_at hl 0 rfl) ?_
  refine lv_bipush (v := 48) hx hb dX0_init_21 (by decide) ?_
  refine kv_newi E hP hD hS hA (N' := 48) (by decide) (by decide) (by decide) (Nat.le_of_ble_eq_true rfl) (Nat.le_of_ble_eq_true rfl) dX0_init_23 (fun q3 H hP hD hS => ?_)
  have hP : va_P D vwCl ((h0, .inr (0, [.int 0, .int 0, .int 0, .long 0, .ref q1, .ref q2, .null])) :: ([(q1, .inl (cI, 6, .inl (fun _ => 0))), (q2, .inl (cI, 6, .inl (fun _ => 0))), (q3, .inl (cI, 48, .inl (fun _ => 0)))])) H := hP
  have hD : va_D A ((h0, .inr (0, [.int 0, .int 0, .int 0, .long 0, .ref q1, .ref q2, .null])) :: ([(q1, .inl (cI, 6, .inl (fun _ => 0))), (q2, .inl (cI, 6, .inl (fun _ => 0))), (q3, .inl (cI, 48, .inl (fun _ => 0)))])) := hD
  refine kv_putF E hin kT0 hP hD hS 6 (by decide) q1_120 rfl rfl rfl rfl (Nat.le_of_ble_eq_true rfl) dX0_init_25 (fun H locs hP hD hS => ?_)
  have hP : va_P D vwCl ((h0, .inr (0, [.int 0, .int 0, .int 0, .long 0, .ref q1, .ref q2, .ref q3])) :: ([(q1, .inl (cI, 6, .inl (fun _ => 0))), (q2, .inl (cI, 6, .inl (fun _ => 0))), (q3, .inl (cI, 48, .inl (fun _ => 0)))])) H := hP
  have hD : va_D A ((h0, .inr (0, [.int 0, .int 0, .int 0, .long 0, .ref q1, .ref q2, .ref q3])) :: ([(q1, .inl (cI, 6, .inl (fun _ => 0))), (q2, .inl (cI, 6, .inl (fun _ => 0))), (q3, .inl (cI, 48, .inl (fun _ => 0)))])) := hD
  exact fin _ _ _ _ _ _ _ ⟨fun i => match i with | 0 => h0 | 1 => q1 | 2 => q2 | _ => q3, rfl, rfl⟩ hP hD hS (Nat.le_of_ble_eq_true rfl) (Nat.le_of_ble_eq_true rfl) dX0_init_28
set_option maxHeartbeats 4000000 in
set_option maxRecDepth 100000 in
theorem k_X3 (l : Launch) : kMet D cI cJ cF l yX3_init cX3_init 1 ({ frames := 1, cells := 2, slots := 63, locals := 12 } : Room) 3 [.null, .int 0, .null, .int 0, .int 0, .int 0, .int 0, .int 0] 2 63 (fun h0 w => ∃ a : Nat → Nat, a 0 = h0 ∧ w = kOrders cI a) := by
  refine kOf l (by decide +kernel) rfl (Nat.le_of_ble_eq_true rfl) q1_141 (Nat.le_of_ble_eq_true rfl) (Nat.le_of_ble_eq_true rfl) dX3_init_0 dX3_init_1 (fun p e s m args below meth c h0 A ls E hin hA hP hD hS hl fin => ?_)
  have hx := E.1; have hb := E.2.1
  refine lv_aload_n hx hb dX3_init_4 rfl (lv_at hl 0 rfl) ?_
  refine lv_bipush (v := 60) hx hb dX3_init_5 (by decide) ?_
  refine kv_newi E hP hD hS hA (N' := 60) (by decide) (by decide) (by decide) (Nat.le_of_ble_eq_true rfl) (Nat.le_of_ble_eq_true rfl) dX3_init_7 (fun q1 H hP hD hS => ?_)
  have hP : va_P D vwCl ((h0, .inr (3, [.null, .int 0, .null, .int 0, .int 0, .int 0, .int 0, .int 0])) :: ([(q1, .inl (cI, 60, .inl (fun _ => 0)))])) H := hP
  have hD : va_D A ((h0, .inr (3, [.null, .int 0, .null, .int 0, .int 0, .int 0, .int 0, .int 0])) :: ([(q1, .inl (cI, 60, .inl (fun _ => 0)))])) := hD
  refine kv_putF E hin kT3 hP hD hS 0 (by decide) q1_142 rfl rfl rfl rfl (Nat.le_of_ble_eq_true rfl) dX3_init_9 (fun H locs hP hD hS => ?_)
  have hP : va_P D vwCl ((h0, .inr (3, [.ref q1, .int 0, .null, .int 0, .int 0, .int 0, .int 0, .int 0])) :: ([(q1, .inl (cI, 60, .inl (fun _ => 0)))])) H := hP
  have hD : va_D A ((h0, .inr (3, [.ref q1, .int 0, .null, .int 0, .int 0, .int 0, .int 0, .int 0])) :: ([(q1, .inl (cI, 60, .inl (fun _ => 0)))])) := hD
  refine lv_aload_n hx hb dX3_init_12 rfl (lv_at hl 0 rfl) ?_
  refine lv_iconst (v := 3) hx hb dX3_init_13 (by decide) ?_
  refine kv_newi E hP hD hS hA (N' := 3) (by decide) (by decide) (by decide) (Nat.le_of_ble_eq_true rfl) (Nat.le_of_ble_eq_true rfl) dX3_init_14 (fun q2 H hP hD hS => ?_)
  have hP : va_P D vwCl ((h0, .inr (3, [.ref q1, .int 0, .null, .int 0, .int 0, .int 0, .int 0, .int 0])) :: ([(q1, .inl (cI, 60, .inl (fun _ => 0))), (q2, .inl (cI, 3, .inl (fun _ => 0)))])) H := hP
  have hD : va_D A ((h0, .inr (3, [.ref q1, .int 0, .null, .int 0, .int 0, .int 0, .int 0, .int 0])) :: ([(q1, .inl (cI, 60, .inl (fun _ => 0))), (q2, .inl (cI, 3, .inl (fun _ => 0)))])) := hD
  refine kv_putF E hin kT3 hP hD hS 2 (by decide) q1_144 rfl rfl rfl rfl (Nat.le_of_ble_eq_true rfl) dX3_init_16 (fun H locs hP hD hS => ?_)
  have hP : va_P D vwCl ((h0, .inr (3, [.ref q1, .int 0, .ref q2, .int 0, .int 0, .int 0, .int 0, .int 0])) :: ([(q1, .inl (cI, 60, .inl (fun _ => 0))), (q2, .inl (cI, 3, .inl (fun _ => 0)))])) H := hP
  have hD : va_D A ((h0, .inr (3, [.ref q1, .int 0, .ref q2, .int 0, .int 0, .int 0, .int 0, .int 0])) :: ([(q1, .inl (cI, 60, .inl (fun _ => 0))), (q2, .inl (cI, 3, .inl (fun _ => 0)))])) := hD
  exact fin _ _ _ _ _ _ _ ⟨fun i => match i with | 0 => h0 | 1 => q1 | _ => q2, rfl, rfl⟩ hP hD hS (Nat.le_of_ble_eq_true rfl) (Nat.le_of_ble_eq_true rfl) dX3_init_19
set_option maxHeartbeats 4000000 in
set_option maxRecDepth 100000 in
theorem k_X1 (l : Launch) : kMet D cI cJ cF l yX1_init cX1_init 1 ({ frames := 2, cells := 12, slots := 245, locals := 40 } : Room) 1 [.int 0, .int 0, .int 0, .int 0, .null, .null, .null, .null, .null, .null, .null] 12 245 (fun h0 w => ∃ a : Nat → Nat, a 0 = h0 ∧ w = kFont cI cJ a) := by
  refine kOf l (by decide +kernel) rfl (Nat.le_of_ble_eq_true rfl) q1_22 (Nat.le_of_ble_eq_true rfl) (Nat.le_of_ble_eq_true rfl) dX1_init_0 dX1_init_1 (fun p e s m args below meth c h0 A ls E hin hA hP hD hS hl fin => ?_)
  have hx := E.1; have hb := E.2.1
  refine lv_aload_n hx hb dX1_init_4 rfl (lv_at hl 0 rfl) ?_
  refine lv_bipush (v := 20) hx hb dX1_init_5 (by decide) ?_
  refine kv_put E kT1 hP hD hS 2 (by decide) q1_61 rfl rfl rfl (Nat.le_of_ble_eq_true rfl) dX1_init_7 (fun H locs hP hD hS => ?_)
  have hP : va_P D vwCl ((h0, .inr (1, [.int 0, .int 0, .int 20, .int 0, .null, .null, .null, .null, .null, .null, .null])) :: (([] : va_W))) H := hP
  have hD : va_D A ((h0, .inr (1, [.int 0, .int 0, .int 20, .int 0, .null, .null, .null, .null, .null, .null, .null])) :: (([] : va_W))) := hD
  refine lv_aload_n hx hb dX1_init_10 rfl (lv_at hl 0 rfl) ?_
  refine lv_iconst (v := 1) hx hb dX1_init_11 (by decide) ?_
  refine kv_put E kT1 hP hD hS 3 (by decide) q1_63 rfl rfl rfl (Nat.le_of_ble_eq_true rfl) dX1_init_12 (fun H locs hP hD hS => ?_)
  have hP : va_P D vwCl ((h0, .inr (1, [.int 0, .int 0, .int 20, .int 1, .null, .null, .null, .null, .null, .null, .null])) :: (([] : va_W))) H := hP
  have hD : va_D A ((h0, .inr (1, [.int 0, .int 0, .int 20, .int 1, .null, .null, .null, .null, .null, .null, .null])) :: (([] : va_W))) := hD
  refine lv_aload_n hx hb dX1_init_15 rfl (lv_at hl 0 rfl) ?_
  refine lv_bipush (v := 8) hx hb dX1_init_16 (by decide) ?_
  refine kv_newi E hP hD hS hA (N' := 8) (by decide) (by decide) (by decide) (Nat.le_of_ble_eq_true rfl) (Nat.le_of_ble_eq_true rfl) dX1_init_18 (fun q1 H hP hD hS => ?_)
  have hP : va_P D vwCl ((h0, .inr (1, [.int 0, .int 0, .int 20, .int 1, .null, .null, .null, .null, .null, .null, .null])) :: ([(q1, .inl (cI, 8, .inl (fun _ => 0)))])) H := hP
  have hD : va_D A ((h0, .inr (1, [.int 0, .int 0, .int 20, .int 1, .null, .null, .null, .null, .null, .null, .null])) :: ([(q1, .inl (cI, 8, .inl (fun _ => 0)))])) := hD
  refine kv_putF E hin kT1 hP hD hS 4 (by decide) q1_66 rfl rfl rfl rfl (Nat.le_of_ble_eq_true rfl) dX1_init_20 (fun H locs hP hD hS => ?_)
  have hP : va_P D vwCl ((h0, .inr (1, [.int 0, .int 0, .int 20, .int 1, .ref q1, .null, .null, .null, .null, .null, .null])) :: ([(q1, .inl (cI, 8, .inl (fun _ => 0)))])) H := hP
  have hD : va_D A ((h0, .inr (1, [.int 0, .int 0, .int 20, .int 1, .ref q1, .null, .null, .null, .null, .null, .null])) :: ([(q1, .inl (cI, 8, .inl (fun _ => 0)))])) := hD
  refine lv_aload_n hx hb dX1_init_23 rfl (lv_at hl 0 rfl) ?_
  refine lv_bipush (v := 8) hx hb dX1_init_24 (by decide) ?_
  refine kv_newi E hP hD hS hA (N' := 8) (by decide) (by decide) (by decide) (Nat.le_of_ble_eq_true rfl) (Nat.le_of_ble_eq_true rfl) dX1_init_26 (fun q2 H hP hD hS => ?_)
  have hP : va_P D vwCl ((h0, .inr (1, [.int 0, .int 0, .int 20, .int 1, .ref q1, .null, .null, .null, .null, .null, .null])) :: ([(q1, .inl (cI, 8, .inl (fun _ => 0))), (q2, .inl (cI, 8, .inl (fun _ => 0)))])) H := hP
  have hD : va_D A ((h0, .inr (1, [.int 0, .int 0, .int 20, .int 1, .ref q1, .null, .null, .null, .null, .null, .null])) :: ([(q1, .inl (cI, 8, .inl (fun _ => 0))), (q2, .inl (cI, 8, .inl (fun _ => 0)))])) := hD
  refine kv_putF E hin kT1 hP hD hS 5 (by decide) q1_68 rfl rfl rfl rfl (Nat.le_of_ble_eq_true rfl) dX1_init_28 (fun H locs hP hD hS => ?_)
  have hP : va_P D vwCl ((h0, .inr (1, [.int 0, .int 0, .int 20, .int 1, .ref q1, .ref q2, .null, .null, .null, .null, .null])) :: ([(q1, .inl (cI, 8, .inl (fun _ => 0))), (q2, .inl (cI, 8, .inl (fun _ => 0)))])) H := hP
  have hD : va_D A ((h0, .inr (1, [.int 0, .int 0, .int 20, .int 1, .ref q1, .ref q2, .null, .null, .null, .null, .null])) :: ([(q1, .inl (cI, 8, .inl (fun _ => 0))), (q2, .inl (cI, 8, .inl (fun _ => 0)))])) := hD
  refine lv_aload_n hx hb dX1_init_31 rfl (lv_at hl 0 rfl) ?_
  refine lv_bipush (v := 48) hx hb dX1_init_32 (by decide) ?_
  refine kv_newi E hP hD hS hA (N' := 48) (by decide) (by decide) (by decide) (Nat.le_of_ble_eq_true rfl) (Nat.le_of_ble_eq_true rfl) dX1_init_34 (fun q3 H hP hD hS => ?_)
  have hP : va_P D vwCl ((h0, .inr (1, [.int 0, .int 0, .int 20, .int 1, .ref q1, .ref q2, .null, .null, .null, .null, .null])) :: ([(q1, .inl (cI, 8, .inl (fun _ => 0))), (q2, .inl (cI, 8, .inl (fun _ => 0))), (q3, .inl (cI, 48, .inl (fun _ => 0)))])) H := hP
  have hD : va_D A ((h0, .inr (1, [.int 0, .int 0, .int 20, .int 1, .ref q1, .ref q2, .null, .null, .null, .null, .null])) :: ([(q1, .inl (cI, 8, .inl (fun _ => 0))), (q2, .inl (cI, 8, .inl (fun _ => 0))), (q3, .inl (cI, 48, .inl (fun _ => 0)))])) := hD
  refine kv_putF E hin kT1 hP hD hS 6 (by decide) q1_70 rfl rfl rfl rfl (Nat.le_of_ble_eq_true rfl) dX1_init_36 (fun H locs hP hD hS => ?_)
  have hP : va_P D vwCl ((h0, .inr (1, [.int 0, .int 0, .int 20, .int 1, .ref q1, .ref q2, .ref q3, .null, .null, .null, .null])) :: ([(q1, .inl (cI, 8, .inl (fun _ => 0))), (q2, .inl (cI, 8, .inl (fun _ => 0))), (q3, .inl (cI, 48, .inl (fun _ => 0)))])) H := hP
  have hD : va_D A ((h0, .inr (1, [.int 0, .int 0, .int 20, .int 1, .ref q1, .ref q2, .ref q3, .null, .null, .null, .null])) :: ([(q1, .inl (cI, 8, .inl (fun _ => 0))), (q2, .inl (cI, 8, .inl (fun _ => 0))), (q3, .inl (cI, 48, .inl (fun _ => 0)))])) := hD
  refine lv_aload_n hx hb dX1_init_39 rfl (lv_at hl 0 rfl) ?_
  refine lv_bipush (v := 48) hx hb dX1_init_40 (by decide) ?_
  refine kv_newi E hP hD hS hA (N' := 48) (by decide) (by decide) (by decide) (Nat.le_of_ble_eq_true rfl) (Nat.le_of_ble_eq_true rfl) dX1_init_42 (fun q4 H hP hD hS => ?_)
  have hP : va_P D vwCl ((h0, .inr (1, [.int 0, .int 0, .int 20, .int 1, .ref q1, .ref q2, .ref q3, .null, .null, .null, .null])) :: ([(q1, .inl (cI, 8, .inl (fun _ => 0))), (q2, .inl (cI, 8, .inl (fun _ => 0))), (q3, .inl (cI, 48, .inl (fun _ => 0))), (q4, .inl (cI, 48, .inl (fun _ => 0)))])) H := hP
  have hD : va_D A ((h0, .inr (1, [.int 0, .int 0, .int 20, .int 1, .ref q1, .ref q2, .ref q3, .null, .null, .null, .null])) :: ([(q1, .inl (cI, 8, .inl (fun _ => 0))), (q2, .inl (cI, 8, .inl (fun _ => 0))), (q3, .inl (cI, 48, .inl (fun _ => 0))), (q4, .inl (cI, 48, .inl (fun _ => 0)))])) := hD
  refine kv_putF E hin kT1 hP hD hS 7 (by decide) q1_73 rfl rfl rfl rfl (Nat.le_of_ble_eq_true rfl) dX1_init_44 (fun H locs hP hD hS => ?_)
  have hP : va_P D vwCl ((h0, .inr (1, [.int 0, .int 0, .int 20, .int 1, .ref q1, .ref q2, .ref q3, .ref q4, .null, .null, .null])) :: ([(q1, .inl (cI, 8, .inl (fun _ => 0))), (q2, .inl (cI, 8, .inl (fun _ => 0))), (q3, .inl (cI, 48, .inl (fun _ => 0))), (q4, .inl (cI, 48, .inl (fun _ => 0)))])) H := hP
  have hD : va_D A ((h0, .inr (1, [.int 0, .int 0, .int 20, .int 1, .ref q1, .ref q2, .ref q3, .ref q4, .null, .null, .null])) :: ([(q1, .inl (cI, 8, .inl (fun _ => 0))), (q2, .inl (cI, 8, .inl (fun _ => 0))), (q3, .inl (cI, 48, .inl (fun _ => 0))), (q4, .inl (cI, 48, .inl (fun _ => 0)))])) := hD
  refine lv_aload_n hx hb dX1_init_47 rfl (lv_at hl 0 rfl) ?_
  refine lv_bipush (v := 48) hx hb dX1_init_48 (by decide) ?_
  refine kv_newi E hP hD hS hA (N' := 48) (by decide) (by decide) (by decide) (Nat.le_of_ble_eq_true rfl) (Nat.le_of_ble_eq_true rfl) dX1_init_50 (fun q5 H hP hD hS => ?_)
  have hP : va_P D vwCl ((h0, .inr (1, [.int 0, .int 0, .int 20, .int 1, .ref q1, .ref q2, .ref q3, .ref q4, .null, .null, .null])) :: ([(q1, .inl (cI, 8, .inl (fun _ => 0))), (q2, .inl (cI, 8, .inl (fun _ => 0))), (q3, .inl (cI, 48, .inl (fun _ => 0))), (q4, .inl (cI, 48, .inl (fun _ => 0))), (q5, .inl (cI, 48, .inl (fun _ => 0)))])) H := hP
  have hD : va_D A ((h0, .inr (1, [.int 0, .int 0, .int 20, .int 1, .ref q1, .ref q2, .ref q3, .ref q4, .null, .null, .null])) :: ([(q1, .inl (cI, 8, .inl (fun _ => 0))), (q2, .inl (cI, 8, .inl (fun _ => 0))), (q3, .inl (cI, 48, .inl (fun _ => 0))), (q4, .inl (cI, 48, .inl (fun _ => 0))), (q5, .inl (cI, 48, .inl (fun _ => 0)))])) := hD
  refine kv_putF E hin kT1 hP hD hS 8 (by decide) q1_76 rfl rfl rfl rfl (Nat.le_of_ble_eq_true rfl) dX1_init_52 (fun H locs hP hD hS => ?_)
  have hP : va_P D vwCl ((h0, .inr (1, [.int 0, .int 0, .int 20, .int 1, .ref q1, .ref q2, .ref q3, .ref q4, .ref q5, .null, .null])) :: ([(q1, .inl (cI, 8, .inl (fun _ => 0))), (q2, .inl (cI, 8, .inl (fun _ => 0))), (q3, .inl (cI, 48, .inl (fun _ => 0))), (q4, .inl (cI, 48, .inl (fun _ => 0))), (q5, .inl (cI, 48, .inl (fun _ => 0)))])) H := hP
  have hD : va_D A ((h0, .inr (1, [.int 0, .int 0, .int 20, .int 1, .ref q1, .ref q2, .ref q3, .ref q4, .ref q5, .null, .null])) :: ([(q1, .inl (cI, 8, .inl (fun _ => 0))), (q2, .inl (cI, 8, .inl (fun _ => 0))), (q3, .inl (cI, 48, .inl (fun _ => 0))), (q4, .inl (cI, 48, .inl (fun _ => 0))), (q5, .inl (cI, 48, .inl (fun _ => 0)))])) := hD
  refine lv_aload_n hx hb dX1_init_55 rfl (lv_at hl 0 rfl) ?_
  refine lv_iconst (v := 3) hx hb dX1_init_56 (by decide) ?_
  refine kv_newi E hP hD hS hA (N' := 3) (by decide) (by decide) (by decide) (Nat.le_of_ble_eq_true rfl) (Nat.le_of_ble_eq_true rfl) dX1_init_57 (fun q6 H hP hD hS => ?_)
  have hP : va_P D vwCl ((h0, .inr (1, [.int 0, .int 0, .int 20, .int 1, .ref q1, .ref q2, .ref q3, .ref q4, .ref q5, .null, .null])) :: ([(q1, .inl (cI, 8, .inl (fun _ => 0))), (q2, .inl (cI, 8, .inl (fun _ => 0))), (q3, .inl (cI, 48, .inl (fun _ => 0))), (q4, .inl (cI, 48, .inl (fun _ => 0))), (q5, .inl (cI, 48, .inl (fun _ => 0))), (q6, .inl (cI, 3, .inl (fun _ => 0)))])) H := hP
  have hD : va_D A ((h0, .inr (1, [.int 0, .int 0, .int 20, .int 1, .ref q1, .ref q2, .ref q3, .ref q4, .ref q5, .null, .null])) :: ([(q1, .inl (cI, 8, .inl (fun _ => 0))), (q2, .inl (cI, 8, .inl (fun _ => 0))), (q3, .inl (cI, 48, .inl (fun _ => 0))), (q4, .inl (cI, 48, .inl (fun _ => 0))), (q5, .inl (cI, 48, .inl (fun _ => 0))), (q6, .inl (cI, 3, .inl (fun _ => 0)))])) := hD
  refine kv_putF E hin kT1 hP hD hS 9 (by decide) q1_79 rfl rfl rfl rfl (Nat.le_of_ble_eq_true rfl) dX1_init_59 (fun H locs hP hD hS => ?_)
  have hP : va_P D vwCl ((h0, .inr (1, [.int 0, .int 0, .int 20, .int 1, .ref q1, .ref q2, .ref q3, .ref q4, .ref q5, .ref q6, .null])) :: ([(q1, .inl (cI, 8, .inl (fun _ => 0))), (q2, .inl (cI, 8, .inl (fun _ => 0))), (q3, .inl (cI, 48, .inl (fun _ => 0))), (q4, .inl (cI, 48, .inl (fun _ => 0))), (q5, .inl (cI, 48, .inl (fun _ => 0))), (q6, .inl (cI, 3, .inl (fun _ => 0)))])) H := hP
  have hD : va_D A ((h0, .inr (1, [.int 0, .int 0, .int 20, .int 1, .ref q1, .ref q2, .ref q3, .ref q4, .ref q5, .ref q6, .null])) :: ([(q1, .inl (cI, 8, .inl (fun _ => 0))), (q2, .inl (cI, 8, .inl (fun _ => 0))), (q3, .inl (cI, 48, .inl (fun _ => 0))), (q4, .inl (cI, 48, .inl (fun _ => 0))), (q5, .inl (cI, 48, .inl (fun _ => 0))), (q6, .inl (cI, 3, .inl (fun _ => 0)))])) := hD
  refine lv_aload_n hx hb dX1_init_62 rfl (lv_at hl 0 rfl) ?_
  refine kv_ctorN E hP hD hS hA kT4 (k_X4 l) q1_23 q1_24 q1_3 ky4 q1_25 q1_26 q1_27 kd4 rfl rfl ⟨Nat.le_of_ble_eq_true rfl, Nat.le_of_ble_eq_true rfl⟩ hl.1 (Nat.le_of_ble_eq_true rfl) (Nat.le_of_ble_eq_true rfl) (Nat.le_of_ble_eq_true rfl) dX1_init_63 dX1_init_66 dX1_init_67 (fun q7 w1 H locs hB hP hD hS => ?_)
  obtain ⟨b, rfl, rfl⟩ := hB
  have hP : va_P D vwCl ((h0, .inr (1, [.int 0, .int 0, .int 20, .int 1, .ref q1, .ref q2, .ref q3, .ref q4, .ref q5, .ref q6, .null])) :: ([(q1, .inl (cI, 8, .inl (fun _ => 0))), (q2, .inl (cI, 8, .inl (fun _ => 0))), (q3, .inl (cI, 48, .inl (fun _ => 0))), (q4, .inl (cI, 48, .inl (fun _ => 0))), (q5, .inl (cI, 48, .inl (fun _ => 0))), (q6, .inl (cI, 3, .inl (fun _ => 0)))] ++ kSheets cI cJ b)) H := hP
  have hD : va_D A ((h0, .inr (1, [.int 0, .int 0, .int 20, .int 1, .ref q1, .ref q2, .ref q3, .ref q4, .ref q5, .ref q6, .null])) :: ([(q1, .inl (cI, 8, .inl (fun _ => 0))), (q2, .inl (cI, 8, .inl (fun _ => 0))), (q3, .inl (cI, 48, .inl (fun _ => 0))), (q4, .inl (cI, 48, .inl (fun _ => 0))), (q5, .inl (cI, 48, .inl (fun _ => 0))), (q6, .inl (cI, 3, .inl (fun _ => 0)))] ++ kSheets cI cJ b)) := hD
  refine kv_putF E hin kT1 hP hD hS 10 (by decide) q1_81 rfl rfl rfl rfl (Nat.le_of_ble_eq_true rfl) dX1_init_70 (fun H locs hP hD hS => ?_)
  have hP : va_P D vwCl ((h0, .inr (1, [.int 0, .int 0, .int 20, .int 1, .ref q1, .ref q2, .ref q3, .ref q4, .ref q5, .ref q6, .ref (b 0)])) :: ([(q1, .inl (cI, 8, .inl (fun _ => 0))), (q2, .inl (cI, 8, .inl (fun _ => 0))), (q3, .inl (cI, 48, .inl (fun _ => 0))), (q4, .inl (cI, 48, .inl (fun _ => 0))), (q5, .inl (cI, 48, .inl (fun _ => 0))), (q6, .inl (cI, 3, .inl (fun _ => 0)))] ++ kSheets cI cJ b)) H := hP
  have hD : va_D A ((h0, .inr (1, [.int 0, .int 0, .int 20, .int 1, .ref q1, .ref q2, .ref q3, .ref q4, .ref q5, .ref q6, .ref (b 0)])) :: ([(q1, .inl (cI, 8, .inl (fun _ => 0))), (q2, .inl (cI, 8, .inl (fun _ => 0))), (q3, .inl (cI, 48, .inl (fun _ => 0))), (q4, .inl (cI, 48, .inl (fun _ => 0))), (q5, .inl (cI, 48, .inl (fun _ => 0))), (q6, .inl (cI, 3, .inl (fun _ => 0)))] ++ kSheets cI cJ b)) := hD
  exact fin _ _ _ _ _ _ _ ⟨fun i => match i with | 0 => h0 | 1 => q1 | 2 => q2 | 3 => q3 | 4 => q4 | 5 => q5 | 6 => q6 | i => b (i - 7), rfl, rfl⟩ hP hD hS (Nat.le_of_ble_eq_true rfl) (Nat.le_of_ble_eq_true rfl) dX1_init_73
set_option maxHeartbeats 4000000 in
set_option maxRecDepth 100000 in
theorem k_X2 (l : Launch) : kMet D cI cJ cF l yX2_init cX2_init 2 ({ frames := 3, cells := 66, slots := 1285, locals := 80 } : Room) 2 [.null, .int 0, .int 0] 66 1285 (fun h0 w => ∃ (a : Nat → Nat) (b : Nat → Nat → Nat), a 0 = h0 ∧ w = kHist cI cJ cF a b) := by
  refine kOf l (by decide +kernel) rfl (Nat.le_of_ble_eq_true rfl) q1_167 (Nat.le_of_ble_eq_true rfl) (Nat.le_of_ble_eq_true rfl) dX2_init_0 dX2_init_1 (fun p e s m args below meth c h0 A ls E hin hA hP hD hS hl fin => ?_)
  have hx := E.1; have hb := E.2.1
  refine lv_aload_n hx hb dX2_init_4 rfl (lv_at hl 0 rfl) ?_
  refine lv_iconst (v := 5) hx hb dX2_init_5 (by decide) ?_
  obtain ⟨-, -, hml, hown, hts, hK, hNw, hO⟩ := id E
  refine va_newq (N' := 5) hx hb hown (hts _ q1_168) hO hK hP hD hS hA (by decide) (by decide) (by decide) (Nat.le_of_ble_eq_true rfl) (Nat.le_of_ble_eq_true rfl) dX2_init_6 (fun q1 cA H hK1 hP hD hS => ?_)
  have hcA : cA = cF := by
    obtain ⟨kA, comp, -, -, -, f1⟩ := (hK1.2 3 (cA, .object "HintedStems$Font") rfl).2
    obtain ⟨kA, comp, -, -, -, f2⟩ := (hK.2 2 (cF, .object "HintedStems$Font") rfl).2
    exact Option.some.inj (f1.symm.trans f2)
  subst hcA
  have hP : va_P D vwCl ((h0, .inr (2, [.null, .int 0, .int 0])) :: ([(q1, .inl (cA, 5, .inr (.inr (.inr (.inr (fun _ => none))))))])) H := hP
  have hD : va_D A ((h0, .inr (2, [.null, .int 0, .int 0])) :: ([(q1, .inl (cA, 5, .inr (.inr (.inr (.inr (fun _ => none))))))])) := hD
  refine kv_putF E hin kT2 hP hD hS 0 (by decide) q1_171 rfl rfl rfl rfl (Nat.le_of_ble_eq_true rfl) dX2_init_9 (fun H locs hP hD hS => ?_)
  have hP : va_P D vwCl ((h0, .inr (2, [.ref q1, .int 0, .int 0])) :: ([(q1, .inl (cA, 5, .inr (.inr (.inr (.inr (fun _ => none))))))])) H := hP
  have hD : va_D A ((h0, .inr (2, [.ref q1, .int 0, .int 0])) :: ([(q1, .inl (cA, 5, .inr (.inr (.inr (.inr (fun _ => none))))))])) := hD
  refine lv_iconst (v := 0) hx hb dX2_init_12 (by decide) ?_
  refine lv_istore_n (nL := 2) (lv' := [(1, .int 0), (0, .ref h0)]) hx hb dX2_init_13 rfl hl (by decide) rfl (fun ls hl => ?_)
  refine lv_iload_n hx hb dX2_init_14 rfl (lv_at hl 0 rfl) ?_
  refine lv_aload_n hx hb dX2_init_15 rfl (lv_at hl 1 rfl) ?_
  refine va_get (D := D) (ci := 2) (v := .ref q1) (C := RX2) (T := TX2) (N := 3) hx hb hts inX2 hown hK hP 0 rfl rfl 0 (by decide) (hts _ q1_171) (fun _ h9 => h9) rfl dX2_init_16 ?_
  refine va_alen (v := 5) hx hb hK hP 1 2 rfl rfl rfl dX2_init_19 ?_
  refine lv_icmp_ge (tgt := 42) hx hb dX2_init_20 (by decide) (fun cc0 => ?_) (fun cc0 => ?_)
  · exact absurd cc0 (by decide)
  refine lv_aload_n hx hb dX2_init_23 rfl (lv_at hl 1 rfl) ?_
  refine va_get (D := D) (ci := 2) (v := .ref q1) (C := RX2) (T := TX2) (N := 3) hx hb hts inX2 hown hK hP 0 rfl rfl 0 (by decide) (hts _ q1_171) (fun _ h9 => h9) rfl dX2_init_24 ?_
  refine lv_iload_n hx hb dX2_init_27 rfl (lv_at hl 0 rfl) ?_
  refine kv_ctorN E hP hD hS hA kT1 (k_X1 l) q1_168 q1_18 q1_2 ky1 q1_170 q1_20 q1_21 kd1 rfl rfl ⟨Nat.le_of_ble_eq_true rfl, Nat.le_of_ble_eq_true rfl⟩ hl.1 (Nat.le_of_ble_eq_true rfl) (Nat.le_of_ble_eq_true rfl) (Nat.le_of_ble_eq_true rfl) dX2_init_28 dX2_init_31 dX2_init_32 (fun qf w1 H locs hB hP hD hS => ?_)
  obtain ⟨b0, rfl, rfl⟩ := hB
  have hP : va_P D vwCl ((h0, .inr (2, [.ref q1, .int 0, .int 0])) :: ([(q1, .inl (cA, 5, .inr (.inr (.inr (.inr (fun _ => none))))))] ++ kFont cI cJ b0)) H := hP
  have hD : va_D A ((h0, .inr (2, [.ref q1, .int 0, .int 0])) :: ([(q1, .inl (cA, 5, .inr (.inr (.inr (.inr (fun _ => none))))))] ++ kFont cI cJ b0)) := hD
  refine va_astq hx hb hK hP hD hS 1 2 2 1 rfl rfl rfl rfl (i := 0) (by unfold vp_in; decide) dX2_init_35 (fun H locs hP hD hS => ?_)
  have hP : va_P D vwCl ((h0, .inr (2, [.ref q1, .int 0, .int 0])) :: ([(q1, .inl (cA, 5, .inr (.inr (.inr (.inr (va_up (fun _ => none) (Int32.toNatClampNeg 0) (some (b0 0))))))))] ++ kFont cI cJ b0)) H := hP
  have hD : va_D A ((h0, .inr (2, [.ref q1, .int 0, .int 0])) :: ([(q1, .inl (cA, 5, .inr (.inr (.inr (.inr (va_up (fun _ => none) (Int32.toNatClampNeg 0) (some (b0 0))))))))] ++ kFont cI cJ b0)) := hD
  refine lv_iinc (nL := 2) (k := 0) (v := 1) (lv' := [(1, .int 1), (0, .ref h0)]) hx hb dX2_init_36 hl rfl (by decide) (by decide) rfl (fun ls hl => ?_)
  refine lv_goto (tgt := 14) hx hb dX2_init_39 (by decide) ?_
  refine lv_iload_n hx hb dX2_init_14 rfl (lv_at hl 0 rfl) ?_
  refine lv_aload_n hx hb dX2_init_15 rfl (lv_at hl 1 rfl) ?_
  refine va_get (D := D) (ci := 2) (v := .ref q1) (C := RX2) (T := TX2) (N := 3) hx hb hts inX2 hown hK hP 0 rfl rfl 0 (by decide) (hts _ q1_171) (fun _ h9 => h9) rfl dX2_init_16 ?_
  refine va_alen (v := 5) hx hb hK hP 1 2 rfl rfl rfl dX2_init_19 ?_
  refine lv_icmp_ge (tgt := 42) hx hb dX2_init_20 (by decide) (fun cc1 => ?_) (fun cc1 => ?_)
  · exact absurd cc1 (by decide)
  refine lv_aload_n hx hb dX2_init_23 rfl (lv_at hl 1 rfl) ?_
  refine va_get (D := D) (ci := 2) (v := .ref q1) (C := RX2) (T := TX2) (N := 3) hx hb hts inX2 hown hK hP 0 rfl rfl 0 (by decide) (hts _ q1_171) (fun _ h9 => h9) rfl dX2_init_24 ?_
  refine lv_iload_n hx hb dX2_init_27 rfl (lv_at hl 0 rfl) ?_
  refine kv_ctorN E hP hD hS hA kT1 (k_X1 l) q1_168 q1_18 q1_2 ky1 q1_170 q1_20 q1_21 kd1 rfl rfl ⟨Nat.le_of_ble_eq_true rfl, Nat.le_of_ble_eq_true rfl⟩ hl.1 (Nat.le_of_ble_eq_true rfl) (Nat.le_of_ble_eq_true rfl) (Nat.le_of_ble_eq_true rfl) dX2_init_28 dX2_init_31 dX2_init_32 (fun qf w1 H locs hB hP hD hS => ?_)
  obtain ⟨b1, rfl, rfl⟩ := hB
  have hP : va_P D vwCl ((h0, .inr (2, [.ref q1, .int 0, .int 0])) :: ([(q1, .inl (cA, 5, .inr (.inr (.inr (.inr (va_up (fun _ => none) (Int32.toNatClampNeg 0) (some (b0 0))))))))] ++ kFont cI cJ b0 ++ kFont cI cJ b1)) H := hP
  have hD : va_D A ((h0, .inr (2, [.ref q1, .int 0, .int 0])) :: ([(q1, .inl (cA, 5, .inr (.inr (.inr (.inr (va_up (fun _ => none) (Int32.toNatClampNeg 0) (some (b0 0))))))))] ++ kFont cI cJ b0 ++ kFont cI cJ b1)) := hD
  refine va_astq hx hb hK hP hD hS 1 2 15 1 rfl rfl rfl rfl (i := 1) (by unfold vp_in; decide) dX2_init_35 (fun H locs hP hD hS => ?_)
  have hP : va_P D vwCl ((h0, .inr (2, [.ref q1, .int 0, .int 0])) :: ([(q1, .inl (cA, 5, .inr (.inr (.inr (.inr (va_up (va_up (fun _ => none) (Int32.toNatClampNeg 0) (some (b0 0))) (Int32.toNatClampNeg 1) (some (b1 0))))))))] ++ kFont cI cJ b0 ++ kFont cI cJ b1)) H := hP
  have hD : va_D A ((h0, .inr (2, [.ref q1, .int 0, .int 0])) :: ([(q1, .inl (cA, 5, .inr (.inr (.inr (.inr (va_up (va_up (fun _ => none) (Int32.toNatClampNeg 0) (some (b0 0))) (Int32.toNatClampNeg 1) (some (b1 0))))))))] ++ kFont cI cJ b0 ++ kFont cI cJ b1)) := hD
  refine lv_iinc (nL := 2) (k := 0) (v := 2) (lv' := [(1, .int 2), (0, .ref h0)]) hx hb dX2_init_36 hl rfl (by decide) (by decide) rfl (fun ls hl => ?_)
  refine lv_goto (tgt := 14) hx hb dX2_init_39 (by decide) ?_
  refine lv_iload_n hx hb dX2_init_14 rfl (lv_at hl 0 rfl) ?_
  refine lv_aload_n hx hb dX2_init_15 rfl (lv_at hl 1 rfl) ?_
  refine va_get (D := D) (ci := 2) (v := .ref q1) (C := RX2) (T := TX2) (N := 3) hx hb hts inX2 hown hK hP 0 rfl rfl 0 (by decide) (hts _ q1_171) (fun _ h9 => h9) rfl dX2_init_16 ?_
  refine va_alen (v := 5) hx hb hK hP 1 2 rfl rfl rfl dX2_init_19 ?_
  refine lv_icmp_ge (tgt := 42) hx hb dX2_init_20 (by decide) (fun cc2 => ?_) (fun cc2 => ?_)
  · exact absurd cc2 (by decide)
  refine lv_aload_n hx hb dX2_init_23 rfl (lv_at hl 1 rfl) ?_
  refine va_get (D := D) (ci := 2) (v := .ref q1) (C := RX2) (T := TX2) (N := 3) hx hb hts inX2 hown hK hP 0 rfl rfl 0 (by decide) (hts _ q1_171) (fun _ h9 => h9) rfl dX2_init_24 ?_
  refine lv_iload_n hx hb dX2_init_27 rfl (lv_at hl 0 rfl) ?_
  refine kv_ctorN E hP hD hS hA kT1 (k_X1 l) q1_168 q1_18 q1_2 ky1 q1_170 q1_20 q1_21 kd1 rfl rfl ⟨Nat.le_of_ble_eq_true rfl, Nat.le_of_ble_eq_true rfl⟩ hl.1 (Nat.le_of_ble_eq_true rfl) (Nat.le_of_ble_eq_true rfl) (Nat.le_of_ble_eq_true rfl) dX2_init_28 dX2_init_31 dX2_init_32 (fun qf w1 H locs hB hP hD hS => ?_)
  obtain ⟨b2, rfl, rfl⟩ := hB
  have hP : va_P D vwCl ((h0, .inr (2, [.ref q1, .int 0, .int 0])) :: ([(q1, .inl (cA, 5, .inr (.inr (.inr (.inr (va_up (va_up (fun _ => none) (Int32.toNatClampNeg 0) (some (b0 0))) (Int32.toNatClampNeg 1) (some (b1 0))))))))] ++ kFont cI cJ b0 ++ kFont cI cJ b1 ++ kFont cI cJ b2)) H := hP
  have hD : va_D A ((h0, .inr (2, [.ref q1, .int 0, .int 0])) :: ([(q1, .inl (cA, 5, .inr (.inr (.inr (.inr (va_up (va_up (fun _ => none) (Int32.toNatClampNeg 0) (some (b0 0))) (Int32.toNatClampNeg 1) (some (b1 0))))))))] ++ kFont cI cJ b0 ++ kFont cI cJ b1 ++ kFont cI cJ b2)) := hD
  refine va_astq hx hb hK hP hD hS 1 2 28 1 rfl rfl rfl rfl (i := 2) (by unfold vp_in; decide) dX2_init_35 (fun H locs hP hD hS => ?_)
  have hP : va_P D vwCl ((h0, .inr (2, [.ref q1, .int 0, .int 0])) :: ([(q1, .inl (cA, 5, .inr (.inr (.inr (.inr (va_up (va_up (va_up (fun _ => none) (Int32.toNatClampNeg 0) (some (b0 0))) (Int32.toNatClampNeg 1) (some (b1 0))) (Int32.toNatClampNeg 2) (some (b2 0))))))))] ++ kFont cI cJ b0 ++ kFont cI cJ b1 ++ kFont cI cJ b2)) H := hP
  have hD : va_D A ((h0, .inr (2, [.ref q1, .int 0, .int 0])) :: ([(q1, .inl (cA, 5, .inr (.inr (.inr (.inr (va_up (va_up (va_up (fun _ => none) (Int32.toNatClampNeg 0) (some (b0 0))) (Int32.toNatClampNeg 1) (some (b1 0))) (Int32.toNatClampNeg 2) (some (b2 0))))))))] ++ kFont cI cJ b0 ++ kFont cI cJ b1 ++ kFont cI cJ b2)) := hD
  refine lv_iinc (nL := 2) (k := 0) (v := 3) (lv' := [(1, .int 3), (0, .ref h0)]) hx hb dX2_init_36 hl rfl (by decide) (by decide) rfl (fun ls hl => ?_)
  refine lv_goto (tgt := 14) hx hb dX2_init_39 (by decide) ?_
  refine lv_iload_n hx hb dX2_init_14 rfl (lv_at hl 0 rfl) ?_
  refine lv_aload_n hx hb dX2_init_15 rfl (lv_at hl 1 rfl) ?_
  refine va_get (D := D) (ci := 2) (v := .ref q1) (C := RX2) (T := TX2) (N := 3) hx hb hts inX2 hown hK hP 0 rfl rfl 0 (by decide) (hts _ q1_171) (fun _ h9 => h9) rfl dX2_init_16 ?_
  refine va_alen (v := 5) hx hb hK hP 1 2 rfl rfl rfl dX2_init_19 ?_
  refine lv_icmp_ge (tgt := 42) hx hb dX2_init_20 (by decide) (fun cc3 => ?_) (fun cc3 => ?_)
  · exact absurd cc3 (by decide)
  refine lv_aload_n hx hb dX2_init_23 rfl (lv_at hl 1 rfl) ?_
  refine va_get (D := D) (ci := 2) (v := .ref q1) (C := RX2) (T := TX2) (N := 3) hx hb hts inX2 hown hK hP 0 rfl rfl 0 (by decide) (hts _ q1_171) (fun _ h9 => h9) rfl dX2_init_24 ?_
  refine lv_iload_n hx hb dX2_init_27 rfl (lv_at hl 0 rfl) ?_
  refine kv_ctorN E hP hD hS hA kT1 (k_X1 l) q1_168 q1_18 q1_2 ky1 q1_170 q1_20 q1_21 kd1 rfl rfl ⟨Nat.le_of_ble_eq_true rfl, Nat.le_of_ble_eq_true rfl⟩ hl.1 (Nat.le_of_ble_eq_true rfl) (Nat.le_of_ble_eq_true rfl) (Nat.le_of_ble_eq_true rfl) dX2_init_28 dX2_init_31 dX2_init_32 (fun qf w1 H locs hB hP hD hS => ?_)
  obtain ⟨b3, rfl, rfl⟩ := hB
  have hP : va_P D vwCl ((h0, .inr (2, [.ref q1, .int 0, .int 0])) :: ([(q1, .inl (cA, 5, .inr (.inr (.inr (.inr (va_up (va_up (va_up (fun _ => none) (Int32.toNatClampNeg 0) (some (b0 0))) (Int32.toNatClampNeg 1) (some (b1 0))) (Int32.toNatClampNeg 2) (some (b2 0))))))))] ++ kFont cI cJ b0 ++ kFont cI cJ b1 ++ kFont cI cJ b2 ++ kFont cI cJ b3)) H := hP
  have hD : va_D A ((h0, .inr (2, [.ref q1, .int 0, .int 0])) :: ([(q1, .inl (cA, 5, .inr (.inr (.inr (.inr (va_up (va_up (va_up (fun _ => none) (Int32.toNatClampNeg 0) (some (b0 0))) (Int32.toNatClampNeg 1) (some (b1 0))) (Int32.toNatClampNeg 2) (some (b2 0))))))))] ++ kFont cI cJ b0 ++ kFont cI cJ b1 ++ kFont cI cJ b2 ++ kFont cI cJ b3)) := hD
  refine va_astq hx hb hK hP hD hS 1 2 41 1 rfl rfl rfl rfl (i := 3) (by unfold vp_in; decide) dX2_init_35 (fun H locs hP hD hS => ?_)
  have hP : va_P D vwCl ((h0, .inr (2, [.ref q1, .int 0, .int 0])) :: ([(q1, .inl (cA, 5, .inr (.inr (.inr (.inr (va_up (va_up (va_up (va_up (fun _ => none) (Int32.toNatClampNeg 0) (some (b0 0))) (Int32.toNatClampNeg 1) (some (b1 0))) (Int32.toNatClampNeg 2) (some (b2 0))) (Int32.toNatClampNeg 3) (some (b3 0))))))))] ++ kFont cI cJ b0 ++ kFont cI cJ b1 ++ kFont cI cJ b2 ++ kFont cI cJ b3)) H := hP
  have hD : va_D A ((h0, .inr (2, [.ref q1, .int 0, .int 0])) :: ([(q1, .inl (cA, 5, .inr (.inr (.inr (.inr (va_up (va_up (va_up (va_up (fun _ => none) (Int32.toNatClampNeg 0) (some (b0 0))) (Int32.toNatClampNeg 1) (some (b1 0))) (Int32.toNatClampNeg 2) (some (b2 0))) (Int32.toNatClampNeg 3) (some (b3 0))))))))] ++ kFont cI cJ b0 ++ kFont cI cJ b1 ++ kFont cI cJ b2 ++ kFont cI cJ b3)) := hD
  refine lv_iinc (nL := 2) (k := 0) (v := 4) (lv' := [(1, .int 4), (0, .ref h0)]) hx hb dX2_init_36 hl rfl (by decide) (by decide) rfl (fun ls hl => ?_)
  refine lv_goto (tgt := 14) hx hb dX2_init_39 (by decide) ?_
  refine lv_iload_n hx hb dX2_init_14 rfl (lv_at hl 0 rfl) ?_
  refine lv_aload_n hx hb dX2_init_15 rfl (lv_at hl 1 rfl) ?_
  refine va_get (D := D) (ci := 2) (v := .ref q1) (C := RX2) (T := TX2) (N := 3) hx hb hts inX2 hown hK hP 0 rfl rfl 0 (by decide) (hts _ q1_171) (fun _ h9 => h9) rfl dX2_init_16 ?_
  refine va_alen (v := 5) hx hb hK hP 1 2 rfl rfl rfl dX2_init_19 ?_
  refine lv_icmp_ge (tgt := 42) hx hb dX2_init_20 (by decide) (fun cc4 => ?_) (fun cc4 => ?_)
  · exact absurd cc4 (by decide)
  refine lv_aload_n hx hb dX2_init_23 rfl (lv_at hl 1 rfl) ?_
  refine va_get (D := D) (ci := 2) (v := .ref q1) (C := RX2) (T := TX2) (N := 3) hx hb hts inX2 hown hK hP 0 rfl rfl 0 (by decide) (hts _ q1_171) (fun _ h9 => h9) rfl dX2_init_24 ?_
  refine lv_iload_n hx hb dX2_init_27 rfl (lv_at hl 0 rfl) ?_
  refine kv_ctorN E hP hD hS hA kT1 (k_X1 l) q1_168 q1_18 q1_2 ky1 q1_170 q1_20 q1_21 kd1 rfl rfl ⟨Nat.le_of_ble_eq_true rfl, Nat.le_of_ble_eq_true rfl⟩ hl.1 (Nat.le_of_ble_eq_true rfl) (Nat.le_of_ble_eq_true rfl) (Nat.le_of_ble_eq_true rfl) dX2_init_28 dX2_init_31 dX2_init_32 (fun qf w1 H locs hB hP hD hS => ?_)
  obtain ⟨b4, rfl, rfl⟩ := hB
  have hP : va_P D vwCl ((h0, .inr (2, [.ref q1, .int 0, .int 0])) :: ([(q1, .inl (cA, 5, .inr (.inr (.inr (.inr (va_up (va_up (va_up (va_up (fun _ => none) (Int32.toNatClampNeg 0) (some (b0 0))) (Int32.toNatClampNeg 1) (some (b1 0))) (Int32.toNatClampNeg 2) (some (b2 0))) (Int32.toNatClampNeg 3) (some (b3 0))))))))] ++ kFont cI cJ b0 ++ kFont cI cJ b1 ++ kFont cI cJ b2 ++ kFont cI cJ b3 ++ kFont cI cJ b4)) H := hP
  have hD : va_D A ((h0, .inr (2, [.ref q1, .int 0, .int 0])) :: ([(q1, .inl (cA, 5, .inr (.inr (.inr (.inr (va_up (va_up (va_up (va_up (fun _ => none) (Int32.toNatClampNeg 0) (some (b0 0))) (Int32.toNatClampNeg 1) (some (b1 0))) (Int32.toNatClampNeg 2) (some (b2 0))) (Int32.toNatClampNeg 3) (some (b3 0))))))))] ++ kFont cI cJ b0 ++ kFont cI cJ b1 ++ kFont cI cJ b2 ++ kFont cI cJ b3 ++ kFont cI cJ b4)) := hD
  refine va_astq hx hb hK hP hD hS 1 2 54 1 rfl rfl rfl rfl (i := 4) (by unfold vp_in; decide) dX2_init_35 (fun H locs hP hD hS => ?_)
  have hP : va_P D vwCl ((h0, .inr (2, [.ref q1, .int 0, .int 0])) :: ([(q1, .inl (cA, 5, .inr (.inr (.inr (.inr (va_up (va_up (va_up (va_up (va_up (fun _ => none) (Int32.toNatClampNeg 0) (some (b0 0))) (Int32.toNatClampNeg 1) (some (b1 0))) (Int32.toNatClampNeg 2) (some (b2 0))) (Int32.toNatClampNeg 3) (some (b3 0))) (Int32.toNatClampNeg 4) (some (b4 0))))))))] ++ kFont cI cJ b0 ++ kFont cI cJ b1 ++ kFont cI cJ b2 ++ kFont cI cJ b3 ++ kFont cI cJ b4)) H := hP
  have hD : va_D A ((h0, .inr (2, [.ref q1, .int 0, .int 0])) :: ([(q1, .inl (cA, 5, .inr (.inr (.inr (.inr (va_up (va_up (va_up (va_up (va_up (fun _ => none) (Int32.toNatClampNeg 0) (some (b0 0))) (Int32.toNatClampNeg 1) (some (b1 0))) (Int32.toNatClampNeg 2) (some (b2 0))) (Int32.toNatClampNeg 3) (some (b3 0))) (Int32.toNatClampNeg 4) (some (b4 0))))))))] ++ kFont cI cJ b0 ++ kFont cI cJ b1 ++ kFont cI cJ b2 ++ kFont cI cJ b3 ++ kFont cI cJ b4)) := hD
  refine lv_iinc (nL := 2) (k := 0) (v := 5) (lv' := [(1, .int 5), (0, .ref h0)]) hx hb dX2_init_36 hl rfl (by decide) (by decide) rfl (fun ls hl => ?_)
  refine lv_goto (tgt := 14) hx hb dX2_init_39 (by decide) ?_
  refine lv_iload_n hx hb dX2_init_14 rfl (lv_at hl 0 rfl) ?_
  refine lv_aload_n hx hb dX2_init_15 rfl (lv_at hl 1 rfl) ?_
  refine va_get (D := D) (ci := 2) (v := .ref q1) (C := RX2) (T := TX2) (N := 3) hx hb hts inX2 hown hK hP 0 rfl rfl 0 (by decide) (hts _ q1_171) (fun _ h9 => h9) rfl dX2_init_16 ?_
  refine va_alen (v := 5) hx hb hK hP 1 2 rfl rfl rfl dX2_init_19 ?_
  refine lv_icmp_ge (tgt := 42) hx hb dX2_init_20 (by decide) (fun cc5 => ?_) (fun cc5 => ?_)
  · refine fin _ _ _ _ _ _ (kHist cI cJ cA (fun i => match i with | 0 => h0 | _ => q1) (fun k => match k with | 0 => b0 | 1 => b1 | 2 => b2 | 3 => b3 | _ => b4)) ⟨_, _, rfl, rfl⟩ ?_ ?_ hS (Nat.le_of_ble_eq_true rfl) (Nat.le_of_ble_eq_true rfl) dX2_init_42
    · simpa only [kHist, kH5, List.append_assoc, List.cons_append, List.nil_append] using hP
    · simpa only [kHist, kH5, List.append_assoc, List.cons_append, List.nil_append] using hD
  · exact absurd (by decide) cc5
def kObj (cI cJ cF : ClassId) (h : Nat) (a0 a1 fi od hi : Nat → Nat) (b : Nat → Nat → Nat) : va_W := (h, .inr (5, [.ref (a0 0), .ref (a1 0), .ref (fi 0), .ref (od 0), .ref (hi 0)])) :: (kFont cI cJ a0 ++ (kFont cI cJ a1 ++ (kFit cI fi ++ (kOrders cI od ++ kHist cI cJ cF hi b))))
set_option maxHeartbeats 4000000 in
set_option maxRecDepth 100000 in
theorem k_X5 (l : Launch) : kMet D cI cJ cF l yX5_init cX5_init 1 ({ frames := 4, cells := 108, slots := 1945, locals := 120 } : Room) 5 [.null, .null, .null, .null, .null] 108 1945 (fun h0 w => ∃ (a0 a1 fi od hi : Nat → Nat) (b : Nat → Nat → Nat), w = kObj cI cJ cF h0 a0 a1 fi od hi b) := by
  refine kOf l (by decide +kernel) rfl (Nat.le_of_ble_eq_true rfl) q1_14 (Nat.le_of_ble_eq_true rfl) (Nat.le_of_ble_eq_true rfl) dX5_init_0 dX5_init_1 (fun p e s m args below meth c h0 A ls E hin hA hP hD hS hl fin => ?_)
  have hx := E.1; have hb := E.2.1
  refine lv_aload_n hx hb dX5_init_4 rfl (lv_at hl 0 rfl) ?_
  refine kv_ctorN E hP hD hS hA kT1 (k_X1 l) q1_17 q1_18 q1_2 ky1 q1_19 q1_20 q1_21 kd1 rfl rfl ⟨Nat.le_of_ble_eq_true rfl, Nat.le_of_ble_eq_true rfl⟩ hl.1 (Nat.le_of_ble_eq_true rfl) (Nat.le_of_ble_eq_true rfl) (Nat.le_of_ble_eq_true rfl) dX5_init_5 dX5_init_8 dX5_init_9 (fun qf w1 H locs hB hP hD hS => ?_)
  obtain ⟨a0, rfl, rfl⟩ := hB
  have hP : va_P D vwCl ((h0, .inr (5, [.null, .null, .null, .null, .null])) :: (kFont cI cJ a0)) H := hP
  have hD : va_D A ((h0, .inr (5, [.null, .null, .null, .null, .null])) :: (kFont cI cJ a0)) := hD
  refine kv_putF E hin kT5 hP hD hS 0 (by decide) q1_182 rfl rfl rfl rfl (Nat.le_of_ble_eq_true rfl) dX5_init_12 (fun H locs hP hD hS => ?_)
  have hP : va_P D vwCl ((h0, .inr (5, [.ref (a0 0), .null, .null, .null, .null])) :: (kFont cI cJ a0)) H := hP
  have hD : va_D A ((h0, .inr (5, [.ref (a0 0), .null, .null, .null, .null])) :: (kFont cI cJ a0)) := hD
  refine lv_aload_n hx hb dX5_init_15 rfl (lv_at hl 0 rfl) ?_
  refine kv_ctorN E hP hD hS hA kT1 (k_X1 l) q1_17 q1_18 q1_2 ky1 q1_19 q1_20 q1_21 kd1 rfl rfl ⟨Nat.le_of_ble_eq_true rfl, Nat.le_of_ble_eq_true rfl⟩ hl.1 (Nat.le_of_ble_eq_true rfl) (Nat.le_of_ble_eq_true rfl) (Nat.le_of_ble_eq_true rfl) dX5_init_16 dX5_init_19 dX5_init_20 (fun qf w1 H locs hB hP hD hS => ?_)
  obtain ⟨a1, rfl, rfl⟩ := hB
  have hP : va_P D vwCl ((h0, .inr (5, [.ref (a0 0), .null, .null, .null, .null])) :: (kFont cI cJ a0 ++ kFont cI cJ a1)) H := hP
  have hD : va_D A ((h0, .inr (5, [.ref (a0 0), .null, .null, .null, .null])) :: (kFont cI cJ a0 ++ kFont cI cJ a1)) := hD
  refine kv_putF E hin kT5 hP hD hS 1 (by decide) q1_183 rfl rfl rfl rfl (Nat.le_of_ble_eq_true rfl) dX5_init_23 (fun H locs hP hD hS => ?_)
  have hP : va_P D vwCl ((h0, .inr (5, [.ref (a0 0), .ref (a1 0), .null, .null, .null])) :: (kFont cI cJ a0 ++ kFont cI cJ a1)) H := hP
  have hD : va_D A ((h0, .inr (5, [.ref (a0 0), .ref (a1 0), .null, .null, .null])) :: (kFont cI cJ a0 ++ kFont cI cJ a1)) := hD
  refine lv_aload_n hx hb dX5_init_26 rfl (lv_at hl 0 rfl) ?_
  refine kv_ctorN E hP hD hS hA kT0 (k_X0 l) q1_106 q1_107 q1_4 ky0 q1_108 q1_109 q1_110 kd0 rfl rfl ⟨Nat.le_of_ble_eq_true rfl, Nat.le_of_ble_eq_true rfl⟩ hl.1 (Nat.le_of_ble_eq_true rfl) (Nat.le_of_ble_eq_true rfl) (Nat.le_of_ble_eq_true rfl) dX5_init_27 dX5_init_30 dX5_init_31 (fun qf w1 H locs hB hP hD hS => ?_)
  obtain ⟨fi, rfl, rfl⟩ := hB
  have hP : va_P D vwCl ((h0, .inr (5, [.ref (a0 0), .ref (a1 0), .null, .null, .null])) :: (kFont cI cJ a0 ++ kFont cI cJ a1 ++ kFit cI fi)) H := hP
  have hD : va_D A ((h0, .inr (5, [.ref (a0 0), .ref (a1 0), .null, .null, .null])) :: (kFont cI cJ a0 ++ kFont cI cJ a1 ++ kFit cI fi)) := hD
  refine kv_putF E hin kT5 hP hD hS 2 (by decide) q1_184 rfl rfl rfl rfl (Nat.le_of_ble_eq_true rfl) dX5_init_34 (fun H locs hP hD hS => ?_)
  have hP : va_P D vwCl ((h0, .inr (5, [.ref (a0 0), .ref (a1 0), .ref (fi 0), .null, .null])) :: (kFont cI cJ a0 ++ kFont cI cJ a1 ++ kFit cI fi)) H := hP
  have hD : va_D A ((h0, .inr (5, [.ref (a0 0), .ref (a1 0), .ref (fi 0), .null, .null])) :: (kFont cI cJ a0 ++ kFont cI cJ a1 ++ kFit cI fi)) := hD
  refine lv_aload_n hx hb dX5_init_37 rfl (lv_at hl 0 rfl) ?_
  refine kv_ctorN E hP hD hS hA kT3 (k_X3 l) q1_136 q1_137 q1_5 ky3 q1_138 q1_139 q1_140 kd3 rfl rfl ⟨Nat.le_of_ble_eq_true rfl, Nat.le_of_ble_eq_true rfl⟩ hl.1 (Nat.le_of_ble_eq_true rfl) (Nat.le_of_ble_eq_true rfl) (Nat.le_of_ble_eq_true rfl) dX5_init_38 dX5_init_41 dX5_init_42 (fun qf w1 H locs hB hP hD hS => ?_)
  obtain ⟨od, rfl, rfl⟩ := hB
  have hP : va_P D vwCl ((h0, .inr (5, [.ref (a0 0), .ref (a1 0), .ref (fi 0), .null, .null])) :: (kFont cI cJ a0 ++ kFont cI cJ a1 ++ kFit cI fi ++ kOrders cI od)) H := hP
  have hD : va_D A ((h0, .inr (5, [.ref (a0 0), .ref (a1 0), .ref (fi 0), .null, .null])) :: (kFont cI cJ a0 ++ kFont cI cJ a1 ++ kFit cI fi ++ kOrders cI od)) := hD
  refine kv_putF E hin kT5 hP hD hS 3 (by decide) q1_185 rfl rfl rfl rfl (Nat.le_of_ble_eq_true rfl) dX5_init_45 (fun H locs hP hD hS => ?_)
  have hP : va_P D vwCl ((h0, .inr (5, [.ref (a0 0), .ref (a1 0), .ref (fi 0), .ref (od 0), .null])) :: (kFont cI cJ a0 ++ kFont cI cJ a1 ++ kFit cI fi ++ kOrders cI od)) H := hP
  have hD : va_D A ((h0, .inr (5, [.ref (a0 0), .ref (a1 0), .ref (fi 0), .ref (od 0), .null])) :: (kFont cI cJ a0 ++ kFont cI cJ a1 ++ kFit cI fi ++ kOrders cI od)) := hD
  refine lv_aload_n hx hb dX5_init_48 rfl (lv_at hl 0 rfl) ?_
  refine kv_ctor E hP hD hS hA kT2 (k_X2 l) q1_162 q1_163 q1_6 ky2 q1_164 q1_165 q1_166 kd2 rfl rfl ⟨Nat.le_of_ble_eq_true rfl, Nat.le_of_ble_eq_true rfl⟩ hl.1 (Nat.le_of_ble_eq_true rfl) (Nat.le_of_ble_eq_true rfl) (Nat.le_of_ble_eq_true rfl) dX5_init_49 dX5_init_52 dX5_init_53 (fun qf w1 H locs hB hP hD hS => ?_)
  obtain ⟨hi, b, rfl, rfl⟩ := hB
  have hP : va_P D vwCl ((h0, .inr (5, [.ref (a0 0), .ref (a1 0), .ref (fi 0), .ref (od 0), .null])) :: (kFont cI cJ a0 ++ kFont cI cJ a1 ++ kFit cI fi ++ kOrders cI od ++ kHist cI cJ cF hi b)) H := hP
  have hD : va_D A ((h0, .inr (5, [.ref (a0 0), .ref (a1 0), .ref (fi 0), .ref (od 0), .null])) :: (kFont cI cJ a0 ++ kFont cI cJ a1 ++ kFit cI fi ++ kOrders cI od ++ kHist cI cJ cF hi b)) := hD
  refine kv_putF E hin kT5 hP hD hS 4 (by decide) q1_186 rfl rfl rfl rfl (Nat.le_of_ble_eq_true rfl) dX5_init_56 (fun H locs hP hD hS => ?_)
  have hP : va_P D vwCl ((h0, .inr (5, [.ref (a0 0), .ref (a1 0), .ref (fi 0), .ref (od 0), .ref (hi 0)])) :: (kFont cI cJ a0 ++ kFont cI cJ a1 ++ kFit cI fi ++ kOrders cI od ++ kHist cI cJ cF hi b)) H := hP
  have hD : va_D A ((h0, .inr (5, [.ref (a0 0), .ref (a1 0), .ref (fi 0), .ref (od 0), .ref (hi 0)])) :: (kFont cI cJ a0 ++ kFont cI cJ a1 ++ kFit cI fi ++ kOrders cI od ++ kHist cI cJ cF hi b)) := hD
  refine fin _ _ _ _ _ _ (kObj cI cJ cF h0 a0 a1 fi od hi b) ⟨_, _, _, _, _, _, rfl⟩ ?_ ?_ hS (Nat.le_of_ble_eq_true rfl) (Nat.le_of_ble_eq_true rfl) dX5_init_59
  · simpa only [kObj, List.append_assoc, List.cons_append, List.nil_append] using hP
  · simpa only [kObj, List.append_assoc, List.cons_append, List.nil_append] using hD
end

/-! the law's body: its two loops and its end (laid by program) -/
theorem rmK {K : Nat} (h : K ≤ 5000) : K + 0 ≤ room_1.cells ∧ 8 * K + 0 ≤ room_1.slots := ⟨by show K + 0 ≤ 600000; omega, by show 8 * K + 0 ≤ 7302250; omega⟩
theorem rmA {K mc : Nat} (h : K + mc ≤ 5000) : K + mc ≤ room_1.cells ∧ 8 * K + 8 * mc ≤ room_1.slots := ⟨by show K + mc ≤ 600000; omega, by show 8 * K + 8 * mc ≤ 7302250; omega⟩
theorem in_bad (S : hS) {z g c : Int} (h : ¬ (6 ≤ z ∧ z ≤ 48) ∨ ¬ (0 ≤ g ∧ g ≤ 7) ∨ ¬ (0 ≤ c ∧ c ≤ 63)) : p_X5_inSheet S z g c ∧ v_X5_inSheet S z g c = -1000001 := by
  unfold p_X5_inSheet v_X5_inSheet
  by_cases c1 : v_X5_isSize z = 0
  · rw [if_pos c1]
    exact ⟨⟨fun _ => trivial, fun y => absurd c1 y⟩, rfl⟩
  · rw [if_neg c1]
    by_cases c2 : v_X5_within g 0 7 = 0
    · rw [if_pos c2]
      exact ⟨⟨fun _ => trivial, fun _ => ⟨fun _ => trivial, fun y => absurd c2 y⟩⟩, rfl⟩
    · rw [if_neg c2]
      have c3 : v_X5_within c 0 63 = 0 := within_0.mpr (fun y => by
        have z1 : 6 ≤ z ∧ z ≤ 48 := Decidable.byContradiction (fun q => c1 (within_0.mpr q))
        have g1 : 0 ≤ g ∧ g ≤ 7 := Decidable.byContradiction (fun q => c2 (within_0.mpr q))
        rcases h with h | h | h
        · exact h z1
        · exact h g1
        · exact h y)
      rw [if_pos c3]
      exact ⟨⟨fun _ => trivial, fun _ => ⟨fun _ => trivial, fun _ => ⟨fun _ => trivial, fun y => absurd c3 y⟩⟩⟩, rfl⟩
section
variable {D : va_G} {ad : Nat → Nat → Nat} {cI cJ cF : ClassId}
variable {p : Program} {l : Launch} {e : Env} {s : State} {m : MethodId} {args : Array Value} {below : List Frame} {meth : Method} {c : Code} {Q : State → Prop} {b L : Nat} {xs : Nat → Int32}
def lwC (D : va_G) (ad : Nat → Nat → Nat) (cI cJ cF : ClassId) (p : Program) (s : State) (m : MethodId) (args : Array Value) (meth : Method) (c : Code) (b L : Nat) (xs : Nat → Int32) : Prop :=
  hE D ad cI cJ cF p s m args meth c "HintedStemsLaw" code 17 ret ∧ va_X b L xs s s.heap ∧ b < s.heap.size ∧ ¬ hAd ad b ∧ L ≤ 260 ∧ ad 99 1 = 0
theorem law_end (X : lwC D ad cI cJ cF p s m args meth c b L xs) (fin : ∀ (K : Nat), K ≤ 5000 → ∀ (H : Heap) (locs : List Loc) (ls : Array Slot), va_S (hAd ad) s.heap H locs → W p l e room_1 s m args below meth c H locs K (8 * K) Q (F0 m 433 ls [.int (hI 1)])) {S : hS} {K : Nat} {H : Heap} {locs : List Loc} {ls : Array Slot} {x14 x15 : Int32} (hv : Lp S 100) (hK5 : K ≤ 5000) (hh : hH D ad cI cJ cF S s H locs) (hl : lv_has ls 17 [(15, .int x15), (14, .int x14), (13, .int (hI 1)), (12, .ref (ad 10 11)), (11, .ref (ad 10 10)), (10, .ref (ad 10 9)), (9, .ref (ad 10 8)), (8, .ref (ad 10 7)), (7, .ref (ad 10 6)), (6, .ref (ad 10 5)), (5, .ref (ad 10 4)), (4, .ref (ad 10 3)), (3, .ref (ad 10 2)), (2, .ref (ad 10 1)), (1, .ref (ad 11 0)), (0, .ref b)]) : W p l e room_1 s m args below meth c H locs K (8 * K) Q (F0 m 361 ls []) := by
  obtain ⟨E, hX, hbl, hbA, hL, hf⟩ := X
  obtain ⟨hx, hb, hml, hown, hts, hK, hN, hinj, hr, hlk, hz⟩ := id E
  refine lv_iload hx hb dL_law_361 (lv_at hl 2 rfl) ?_
  refine iv_if_eq (tgt := 432) hx hb ⟨by decide, by decide⟩ dL_law_363 (by decide) (fun c1 => absurd c1 (by decide)) (fun _ => ?_)
  refine lv_aload_n hx hb dL_law_366 rfl (lv_at hl 14 rfl) ?_
  refine lv_bipush (v := hI 19) hx hb dL_law_367 (by decide) ?_
  refine iv_ki (iv_rV (As := [.int (hI 19)]) (rest := []) E hh (ok_X5_count l hinj S 19 ⟨by decide, by decide⟩ (ct_p hv.1 19)) cb_X5_count q1_229 rfl rfl ⟨Nat.le_of_ble_eq_true rfl, Nat.le_of_ble_eq_true rfl⟩ (ob_X) rfl rfl rfl hl.1 rfl (Nat.le_of_ble_eq_true rfl) dL_law_369 (rmK hK5)) hh (fun hc19 H locs hh => ?_)
  rw [ct_same (w := 19) (by decide)] at hh
  refine iv_ldc (n := (-1000001)) hx hb (by decide) hown (hts _ q2_153) dL_law_372 ?_
  refine iv_icmp_ne (tgt := 432) hx hb hc19 ⟨by decide, by decide⟩ dL_law_374 (by decide) (fun c1 => absurd (show v_X5_count S 19 = -1000001 from rfl) c1) (fun _ => ?_)
  refine lv_aload_n hx hb dL_law_377 rfl (lv_at hl 14 rfl) ?_
  refine lv_bipush (v := hI 22) hx hb dL_law_378 (by decide) ?_
  refine iv_ki (iv_rV (As := [.int (hI 22)]) (rest := []) E hh (ok_X5_count l hinj S 22 ⟨by decide, by decide⟩ (ct_p hv.1 22)) cb_X5_count q1_229 rfl rfl ⟨Nat.le_of_ble_eq_true rfl, Nat.le_of_ble_eq_true rfl⟩ (ob_X) rfl rfl rfl hl.1 rfl (Nat.le_of_ble_eq_true rfl) dL_law_380 (rmK hK5)) hh (fun hc22 H locs hh => ?_)
  rw [ct_same (w := 22) (by decide)] at hh
  refine iv_ldc (n := (-1000001)) hx hb (by decide) hown (hts _ q2_153) dL_law_383 ?_
  refine iv_icmp_ne (tgt := 432) hx hb hc22 ⟨by decide, by decide⟩ dL_law_385 (by decide) (fun c1 => absurd (show v_X5_count S 22 = -1000001 from rfl) c1) (fun _ => ?_)
  have in0 := in_bad S (z := 5) (g := 0) (c := 0) (Or.inl (by decide))
  refine lv_aload_n hx hb dL_law_388 rfl (lv_at hl 14 rfl) ?_
  refine iv_iconst hx hb dL_law_389 ?_
  refine iv_iconst hx hb dL_law_390 ?_
  refine iv_iconst hx hb dL_law_391 ?_
  refine iv_ki (iv_rV (As := [.int (hI 5), .int (hI 0), .int (hI 0)]) (rest := []) E hh (ok_X5_inSheet l hinj S 5 0 0 ⟨by decide, by decide⟩ ⟨by decide, by decide⟩ ⟨by decide, by decide⟩ in0.1) cb_X5_inSheet q1_198 rfl rfl ⟨Nat.le_of_ble_eq_true rfl, Nat.le_of_ble_eq_true rfl⟩ (ob_X) rfl rfl rfl hl.1 rfl (Nat.le_of_ble_eq_true rfl) dL_law_392 (rmK hK5)) hh (fun hi0 H locs hh => ?_)
  refine iv_ldc (n := (-1000001)) hx hb (by decide) hown (hts _ q2_153) dL_law_395 ?_
  refine iv_icmp_ne (tgt := 432) hx hb hi0 ⟨by decide, by decide⟩ dL_law_397 (by decide) (fun c1 => absurd in0.2 c1) (fun _ => ?_)
  have in1 := in_bad S (z := 6) (g := 8) (c := 0) (Or.inr (Or.inl (by decide)))
  refine lv_aload_n hx hb dL_law_400 rfl (lv_at hl 14 rfl) ?_
  refine lv_bipush (v := hI 6) hx hb dL_law_401 (by decide) ?_
  refine lv_bipush (v := hI 8) hx hb dL_law_403 (by decide) ?_
  refine iv_iconst hx hb dL_law_405 ?_
  refine iv_ki (iv_rV (As := [.int (hI 6), .int (hI 8), .int (hI 0)]) (rest := []) E hh (ok_X5_inSheet l hinj S 6 8 0 ⟨by decide, by decide⟩ ⟨by decide, by decide⟩ ⟨by decide, by decide⟩ in1.1) cb_X5_inSheet q1_198 rfl rfl ⟨Nat.le_of_ble_eq_true rfl, Nat.le_of_ble_eq_true rfl⟩ (ob_X) rfl rfl rfl hl.1 rfl (Nat.le_of_ble_eq_true rfl) dL_law_406 (rmK hK5)) hh (fun hi1 H locs hh => ?_)
  refine iv_ldc (n := (-1000001)) hx hb (by decide) hown (hts _ q2_153) dL_law_409 ?_
  refine iv_icmp_ne (tgt := 432) hx hb hi1 ⟨by decide, by decide⟩ dL_law_411 (by decide) (fun c1 => absurd in1.2 c1) (fun _ => ?_)
  have in2 := in_bad S (z := 6) (g := 0) (c := 64) (Or.inr (Or.inr (by decide)))
  refine lv_aload_n hx hb dL_law_414 rfl (lv_at hl 14 rfl) ?_
  refine lv_bipush (v := hI 6) hx hb dL_law_415 (by decide) ?_
  refine iv_iconst hx hb dL_law_417 ?_
  refine lv_bipush (v := hI 64) hx hb dL_law_418 (by decide) ?_
  refine iv_ki (iv_rV (As := [.int (hI 6), .int (hI 0), .int (hI 64)]) (rest := []) E hh (ok_X5_inSheet l hinj S 6 0 64 ⟨by decide, by decide⟩ ⟨by decide, by decide⟩ ⟨by decide, by decide⟩ in2.1) cb_X5_inSheet q1_198 rfl rfl ⟨Nat.le_of_ble_eq_true rfl, Nat.le_of_ble_eq_true rfl⟩ (ob_X) rfl rfl rfl hl.1 rfl (Nat.le_of_ble_eq_true rfl) dL_law_420 (rmK hK5)) hh (fun hi2 H locs hh => ?_)
  refine iv_ldc (n := (-1000001)) hx hb (by decide) hown (hts _ q2_153) dL_law_423 ?_
  refine iv_icmp_ne (tgt := 432) hx hb hi2 ⟨by decide, by decide⟩ dL_law_425 (by decide) (fun c1 => absurd in2.2 c1) (fun _ => ?_)
  refine iv_iconst hx hb dL_law_428 ?_
  refine lv_goto (tgt := 433) hx hb dL_law_429 (by decide) ?_
  exact fin K hK5 H locs ls hh.2.2
theorem law_turns (X : lwC D ad cI cJ cF p s m args meth c b L xs) (fin : ∀ (K : Nat), K ≤ 5000 → ∀ (H : Heap) (locs : List Loc) (ls : Array Slot), va_S (hAd ad) s.heap H locs → W p l e room_1 s m args below meth c H locs K (8 * K) Q (F0 m 433 ls [.int (hI 1)])) {T : Int} (T1 : T ≤ 57) : ∀ (n : Nat) (k : Int) (S : hS) (K : Nat) (H : Heap) (locs : List Loc) (ls : Array Slot), 0 ≤ k → T - k = n → K + 40 * n ≤ 5000 → Lp S (8 + k) → hH D ad cI cJ cF S s H locs → lv_has ls 17 [(15, .int (hI k)), (14, .int (hI T)), (13, .int (hI 1)), (12, .ref (ad 10 11)), (11, .ref (ad 10 10)), (10, .ref (ad 10 9)), (9, .ref (ad 10 8)), (8, .ref (ad 10 7)), (7, .ref (ad 10 6)), (6, .ref (ad 10 5)), (5, .ref (ad 10 4)), (4, .ref (ad 10 3)), (3, .ref (ad 10 2)), (2, .ref (ad 10 1)), (1, .ref (ad 11 0)), (0, .ref b)] → W p l e room_1 s m args below meth c H locs K (8 * K) Q (F0 m 252 ls []) := by
  have X0 := X
  obtain ⟨E, hX, hbl, hbA, hL, hf⟩ := X
  obtain ⟨hx, hb, hml, hown, hts, hK, hN, hinj, hr, hlk, hz⟩ := id E
  intro n
  induction n with
  | zero =>
    intro k S K H locs ls k0 kT hK5 hv hh hl
    refine lv_iload hx hb dL_law_252 (lv_at hl 0 rfl) ?_
    refine lv_iload hx hb dL_law_254 (lv_at hl 1 rfl) ?_
    refine iv_icmp_ge (tgt := 361) hx hb ⟨by omega, by omega⟩ ⟨by omega, by omega⟩ dL_law_256 (by decide) (fun _ => ?_) (fun c1 => absurd c1 (by omega))
    exact law_end X0 fin ⟨hv.1, hv.2.1, hv.2.2.1, hv.2.2.2.1, by have := hv.2.2.2.2; omega⟩ (by omega) hh hl
  | succ n ih =>
    intro k S K H locs ls k0 kT hK5 hv hh hl
    refine lv_iload hx hb dL_law_252 (lv_at hl 0 rfl) ?_
    refine lv_iload hx hb dL_law_254 (lv_at hl 1 rfl) ?_
    refine iv_icmp_ge (tgt := 361) hx hb ⟨by omega, by omega⟩ ⟨by omega, by omega⟩ dL_law_256 (by decide) (fun c1 => absurd c1 (by omega)) (fun _ => ?_)
    refine lv_iload hx hb dL_law_259 (lv_at hl 2 rfl) ?_
    refine iv_if_eq (tgt := 361) hx hb ⟨by decide, by decide⟩ dL_law_261 (by decide) (fun c1 => absurd c1 (by decide)) (fun _ => ?_)
    refine lv_aload_n hx hb dL_law_264 rfl (lv_at hl 15 rfl) ?_
    refine lv_bipush (v := hI 9) hx hb dL_law_265 (by decide) ?_
    refine lv_iload hx hb dL_law_267 (lv_at hl 0 rfl) ?_
    refine iv_iadd hx hb dL_law_269 ?_
    refine iv_cell (k := 9 + k) (rest := []) E hh hX hbl hbA hL (by omega) (by omega) ⟨Nat.le_of_ble_eq_true rfl, Nat.le_of_ble_eq_true rfl⟩ (Nat.le_of_ble_eq_true rfl) hl.1 (Nat.le_of_ble_eq_true rfl) dL_law_270 (rmK (by omega)) (fun hcv H locs hh => ?_)
    refine lv_sipush (v := hI 7919) hx hb dL_law_273 (by decide) ?_
    refine lv_iload hx hb dL_law_276 (lv_at hl 0 rfl) ?_
    refine iv_imul hx hb dL_law_278 ?_
    refine iv_ixor hx hb dL_law_279 ?_
    have hV : hIn (iXor (cellV xs L (9 + k)) (7919 * k)) := hIn_toInt _
    generalize iXor (cellV xs L (9 + k)) (7919 * k) = V at hV ⊢
    refine lv_istore (lv' := [(16, .int (hI V)), (15, .int (hI k)), (14, .int (hI T)), (13, .int (hI 1)), (12, .ref (ad 10 11)), (11, .ref (ad 10 10)), (10, .ref (ad 10 9)), (9, .ref (ad 10 8)), (8, .ref (ad 10 7)), (7, .ref (ad 10 6)), (6, .ref (ad 10 5)), (5, .ref (ad 10 4)), (4, .ref (ad 10 3)), (3, .ref (ad 10 2)), (2, .ref (ad 10 1)), (1, .ref (ad 11 0)), (0, .ref b)]) hx hb dL_law_280 hl (by decide) rfl (fun ls hl => ?_)
    refine lv_aload_n hx hb dL_law_282 rfl (lv_at hl 15 rfl) ?_
    refine lv_aload_n hx hb dL_law_283 rfl (lv_at hl 14 rfl) ?_
    refine lv_aload_n hx hb dL_law_284 rfl (lv_at hl 13 rfl) ?_
    refine lv_aload hx hb dL_law_285 (lv_at hl 12 rfl) ?_
    refine lv_aload hx hb dL_law_287 (lv_at hl 11 rfl) ?_
    refine lv_aload hx hb dL_law_289 (lv_at hl 10 rfl) ?_
    refine lv_aload hx hb dL_law_291 (lv_at hl 9 rfl) ?_
    refine lv_aload hx hb dL_law_293 (lv_at hl 8 rfl) ?_
    refine lv_aload hx hb dL_law_295 (lv_at hl 7 rfl) ?_
    refine lv_aload hx hb dL_law_297 (lv_at hl 6 rfl) ?_
    refine lv_aload hx hb dL_law_299 (lv_at hl 5 rfl) ?_
    refine lv_aload hx hb dL_law_301 (lv_at hl 4 rfl) ?_
    refine lv_iload hx hb dL_law_303 (lv_at hl 0 rfl) ?_
    refine iv_kxC (iv_rSC (mc := 8) (As := [.ref (ad 11 0), .ref (ad 10 1), .ref (ad 10 2), .ref (ad 10 3), .ref (ad 10 4), .ref (ad 10 5), .ref (ad 10 6), .ref (ad 10 7), .ref (ad 10 8), .ref (ad 10 9), .ref (ad 10 10), .ref (ad 10 11), .int (hI (V))]) (rest := []) E hh (ok_L_acts l hinj S hf (V) (hV) (Lp_inv hv (by omega))) cb_L_acts q2_80 rfl rfl ⟨Nat.le_of_ble_eq_true rfl, Nat.le_of_ble_eq_true rfl⟩ rfl hl.1 rfl (Nat.le_of_ble_eq_true rfl) dL_law_305 (rmA (mc := 8) (by omega))) hh (fun S1 S1q H locs hh => ?_)
    have v1 := Lp_nxt hv S1q
    refine iv_if_eq (tgt := 352) hx hb ⟨by decide, by decide⟩ dL_law_308 (by decide) (fun c1 => absurd c1 (by decide)) (fun _ => ?_)
    refine lv_aload_n hx hb dL_law_311 rfl (lv_at hl 15 rfl) ?_
    refine lv_aload_n hx hb dL_law_312 rfl (lv_at hl 14 rfl) ?_
    refine lv_aload_n hx hb dL_law_313 rfl (lv_at hl 13 rfl) ?_
    refine lv_aload hx hb dL_law_314 (lv_at hl 12 rfl) ?_
    refine lv_aload hx hb dL_law_316 (lv_at hl 11 rfl) ?_
    refine lv_aload hx hb dL_law_318 (lv_at hl 10 rfl) ?_
    refine lv_aload hx hb dL_law_320 (lv_at hl 9 rfl) ?_
    refine lv_aload hx hb dL_law_322 (lv_at hl 8 rfl) ?_
    refine lv_aload hx hb dL_law_324 (lv_at hl 7 rfl) ?_
    refine lv_aload hx hb dL_law_326 (lv_at hl 6 rfl) ?_
    refine lv_aload hx hb dL_law_328 (lv_at hl 5 rfl) ?_
    refine lv_aload hx hb dL_law_330 (lv_at hl 4 rfl) ?_
    refine lv_iload hx hb dL_law_332 (lv_at hl 0 rfl) ?_
    refine lv_bipush (v := hI 7) hx hb dL_law_334 (by decide) ?_
    refine iv_ishr hx hb dL_law_336 ?_
    refine iv_ldc (n := 100000) hx hb (by decide) hown (hts _ q3_72) dL_law_337 ?_
    have lo := low_p (v := iShr V 7) (n := 100000) (by decide) (by decide)
    refine iv_ki (iv_rS16 (As := [.int (hI (iShr V 7)), .int (hI 100000)]) (rest := [.ref (ad 10 11), .ref (ad 10 10), .ref (ad 10 9), .ref (ad 10 8), .ref (ad 10 7), .ref (ad 10 6), .ref (ad 10 5), .ref (ad 10 4), .ref (ad 10 3), .ref (ad 10 2), .ref (ad 10 1), .ref (ad 11 0)]) E hh (ok_L_low l hinj S1 (iShr V 7) 100000 (hIn_toInt _) ⟨by decide, by decide⟩ lo.1) cb_L_low q2_76 rfl rfl ⟨Nat.le_of_ble_eq_true rfl, Nat.le_of_ble_eq_true rfl⟩ (Nat.le_of_ble_eq_true rfl) rfl hl.1 rfl (Nat.le_of_ble_eq_true rfl) dL_law_339 (rmK (by omega))) hh (fun hlo H locs hh => ?_)
    refine iv_kxC (iv_rSC (mc := 32) (As := [.ref (ad 11 0), .ref (ad 10 1), .ref (ad 10 2), .ref (ad 10 3), .ref (ad 10 4), .ref (ad 10 5), .ref (ad 10 6), .ref (ad 10 7), .ref (ad 10 8), .ref (ad 10 9), .ref (ad 10 10), .ref (ad 10 11), .int (hI (v_L_low (iShr V 7) 100000))]) (rest := []) E hh (ok_L_isSo l hinj S1 hf (v_L_low (iShr V 7) 100000) (hlo) (⟨Lp_inv v1 (by omega), lo.2.1⟩)) cb_L_isSo q3_21 rfl rfl ⟨Nat.le_of_ble_eq_true rfl, Nat.le_of_ble_eq_true rfl⟩ rfl hl.1 rfl (Nat.le_of_ble_eq_true rfl) dL_law_342 (rmA (mc := 32) (by omega))) hh (fun S2 S2q H locs hh => ?_)
    have v2 := Lp_sam v1 S2q
    refine iv_if_eq (tgt := 352) hx hb ⟨by decide, by decide⟩ dL_law_345 (by decide) (fun c1 => absurd c1 (by decide)) (fun _ => ?_)
    refine iv_iconst hx hb dL_law_348 ?_
    refine lv_goto (tgt := 353) hx hb dL_law_349 (by decide) ?_
    refine lv_istore (lv' := [(13, .int (hI 1)), (16, .int (hI V)), (15, .int (hI k)), (14, .int (hI T)), (12, .ref (ad 10 11)), (11, .ref (ad 10 10)), (10, .ref (ad 10 9)), (9, .ref (ad 10 8)), (8, .ref (ad 10 7)), (7, .ref (ad 10 6)), (6, .ref (ad 10 5)), (5, .ref (ad 10 4)), (4, .ref (ad 10 3)), (3, .ref (ad 10 2)), (2, .ref (ad 10 1)), (1, .ref (ad 11 0)), (0, .ref b)]) hx hb dL_law_353 hl (by decide) rfl (fun ls hl => ?_)
    refine iv_iinc (nL := 17) (k := 2) (a := k) (v := k + 1) (lv' := [(15, .int (hI (k + 1))), (13, .int (hI 1)), (16, .int (hI V)), (14, .int (hI T)), (12, .ref (ad 10 11)), (11, .ref (ad 10 10)), (10, .ref (ad 10 9)), (9, .ref (ad 10 8)), (8, .ref (ad 10 7)), (7, .ref (ad 10 6)), (6, .ref (ad 10 5)), (5, .ref (ad 10 4)), (4, .ref (ad 10 3)), (3, .ref (ad 10 2)), (2, .ref (ad 10 1)), (1, .ref (ad 11 0)), (0, .ref b)]) hx hb dL_law_355 hl rfl (by omega) (by decide) rfl (fun ls hl => ?_)
    refine lv_goto (tgt := 252) hx hb dL_law_358 (by decide) ?_
    refine ih (k + 1) S2 (K + 8 + 32) H locs ls (by omega) (by omega) (by omega) ?_ hh (lv_sub hl [0, 3, 1, 4, 5, 6, 7, 8, 9, 10, 11, 12, 13, 14, 15, 16] rfl)
    rw [show 8 + (k + 1) = 8 + k + 1 by omega]
    exact v2
theorem law_mid (X : lwC D ad cI cJ cF p s m args meth c b L xs) (fin : ∀ (K : Nat), K ≤ 5000 → ∀ (H : Heap) (locs : List Loc) (ls : Array Slot), va_S (hAd ad) s.heap H locs → W p l e room_1 s m args below meth c H locs K (8 * K) Q (F0 m 433 ls [.int (hI 1)])) {S : hS} {K : Nat} {H : Heap} {locs : List Loc} {ls : Array Slot} {x14 : Int32} (hv : Lp S 8) (hK5 : K ≤ 1500) (hh : hH D ad cI cJ cF S s H locs) (hl : lv_has ls 17 [(14, .int x14), (13, .int (hI 1)), (12, .ref (ad 10 11)), (11, .ref (ad 10 10)), (10, .ref (ad 10 9)), (9, .ref (ad 10 8)), (8, .ref (ad 10 7)), (7, .ref (ad 10 6)), (6, .ref (ad 10 5)), (5, .ref (ad 10 4)), (4, .ref (ad 10 3)), (3, .ref (ad 10 2)), (2, .ref (ad 10 1)), (1, .ref (ad 11 0)), (0, .ref b)]) : W p l e room_1 s m args below meth c H locs K (8 * K) Q (F0 m 194 ls []) := by
  have X0 := X
  obtain ⟨E, hX, hbl, hbA, hL, hf⟩ := X
  obtain ⟨hx, hb, hml, hown, hts, hK, hN, hinj, hr, hlk, hz⟩ := id E
  refine lv_iload hx hb dL_law_194 (lv_at hl 1 rfl) ?_
  refine iv_if_eq (tgt := 231) hx hb ⟨by decide, by decide⟩ dL_law_196 (by decide) (fun c1 => absurd c1 (by decide)) (fun _ => ?_)
  refine lv_aload_n hx hb dL_law_199 rfl (lv_at hl 13 rfl) ?_
  refine lv_aload_n hx hb dL_law_200 rfl (lv_at hl 12 rfl) ?_
  refine lv_aload_n hx hb dL_law_201 rfl (lv_at hl 11 rfl) ?_
  refine lv_aload hx hb dL_law_202 (lv_at hl 10 rfl) ?_
  refine lv_aload hx hb dL_law_204 (lv_at hl 9 rfl) ?_
  refine lv_aload hx hb dL_law_206 (lv_at hl 8 rfl) ?_
  refine lv_aload hx hb dL_law_208 (lv_at hl 7 rfl) ?_
  refine lv_aload hx hb dL_law_210 (lv_at hl 6 rfl) ?_
  refine lv_aload hx hb dL_law_212 (lv_at hl 5 rfl) ?_
  refine lv_aload hx hb dL_law_214 (lv_at hl 4 rfl) ?_
  refine lv_aload hx hb dL_law_216 (lv_at hl 3 rfl) ?_
  refine lv_aload hx hb dL_law_218 (lv_at hl 2 rfl) ?_
  refine iv_iconst hx hb dL_law_220 ?_
  refine iv_kxC (iv_rSC (mc := 32) (As := [.ref (ad 11 0), .ref (ad 10 1), .ref (ad 10 2), .ref (ad 10 3), .ref (ad 10 4), .ref (ad 10 5), .ref (ad 10 6), .ref (ad 10 7), .ref (ad 10 8), .ref (ad 10 9), .ref (ad 10 10), .ref (ad 10 11), .int (hI (0))]) (rest := []) E hh (ok_L_isSo l hinj S hf (0) (⟨by decide, by decide⟩) (⟨Lp_inv hv (by decide), by decide⟩)) cb_L_isSo q3_21 rfl rfl ⟨Nat.le_of_ble_eq_true rfl, Nat.le_of_ble_eq_true rfl⟩ rfl hl.1 rfl (Nat.le_of_ble_eq_true rfl) dL_law_221 (rmA (mc := 32) (by omega))) hh (fun S1 S1q H locs hh => ?_)
  have v1 := Lp_sam hv S1q
  refine iv_if_eq (tgt := 231) hx hb ⟨by decide, by decide⟩ dL_law_224 (by decide) (fun c1 => absurd c1 (by decide)) (fun _ => ?_)
  refine iv_iconst hx hb dL_law_227 ?_
  refine lv_goto (tgt := 232) hx hb dL_law_228 (by decide) ?_
  refine lv_istore (lv' := [(13, .int (hI 1)), (14, .int x14), (12, .ref (ad 10 11)), (11, .ref (ad 10 10)), (10, .ref (ad 10 9)), (9, .ref (ad 10 8)), (8, .ref (ad 10 7)), (7, .ref (ad 10 6)), (6, .ref (ad 10 5)), (5, .ref (ad 10 4)), (4, .ref (ad 10 3)), (3, .ref (ad 10 2)), (2, .ref (ad 10 1)), (1, .ref (ad 11 0)), (0, .ref b)]) hx hb dL_law_232 hl (by decide) rfl (fun ls hl => ?_)
  refine lv_bipush (v := hI 12) hx hb dL_law_234 (by decide) ?_
  refine lv_aload_n hx hb dL_law_236 rfl (lv_at hl 14 rfl) ?_
  refine iv_iconst hx hb dL_law_237 ?_
  refine iv_cell (k := 0) (rest := [.int (hI 12)]) E hh hX hbl hbA hL (by decide) (by decide) ⟨Nat.le_of_ble_eq_true rfl, Nat.le_of_ble_eq_true rfl⟩ (Nat.le_of_ble_eq_true rfl) hl.1 (Nat.le_of_ble_eq_true rfl) dL_law_238 (rmK (by omega)) (fun hcv H locs hh => ?_)
  refine lv_bipush (v := hI 46) hx hb dL_law_241 (by decide) ?_
  have lo := low_p (v := cellV xs L 0) (n := 46) (by decide) (by decide)
  refine iv_ki (iv_rS16 (As := [.int (hI (cellV xs L 0)), .int (hI 46)]) (rest := [.int (hI 12)]) E hh (ok_L_low l hinj S1 (cellV xs L 0) 46 hcv ⟨by decide, by decide⟩ lo.1) cb_L_low q2_76 rfl rfl ⟨Nat.le_of_ble_eq_true rfl, Nat.le_of_ble_eq_true rfl⟩ (Nat.le_of_ble_eq_true rfl) rfl hl.1 rfl (Nat.le_of_ble_eq_true rfl) dL_law_243 (rmK (by omega))) hh (fun hlo H locs hh => ?_)
  refine iv_iadd hx hb dL_law_246 ?_
  generalize hT : 12 + v_L_low (cellV xs L 0) 46 = T
  refine lv_istore (lv' := [(14, .int (hI T)), (13, .int (hI 1)), (12, .ref (ad 10 11)), (11, .ref (ad 10 10)), (10, .ref (ad 10 9)), (9, .ref (ad 10 8)), (8, .ref (ad 10 7)), (7, .ref (ad 10 6)), (6, .ref (ad 10 5)), (5, .ref (ad 10 4)), (4, .ref (ad 10 3)), (3, .ref (ad 10 2)), (2, .ref (ad 10 1)), (1, .ref (ad 11 0)), (0, .ref b)]) hx hb dL_law_247 hl (by decide) rfl (fun ls hl => ?_)
  refine iv_iconst hx hb dL_law_249 ?_
  refine lv_istore (lv' := [(15, .int (hI 0)), (14, .int (hI T)), (13, .int (hI 1)), (12, .ref (ad 10 11)), (11, .ref (ad 10 10)), (10, .ref (ad 10 9)), (9, .ref (ad 10 8)), (8, .ref (ad 10 7)), (7, .ref (ad 10 6)), (6, .ref (ad 10 5)), (5, .ref (ad 10 4)), (4, .ref (ad 10 3)), (3, .ref (ad 10 2)), (2, .ref (ad 10 1)), (1, .ref (ad 11 0)), (0, .ref b)]) hx hb dL_law_250 hl (by decide) rfl (fun ls hl => ?_)
  exact law_turns X0 fin (T := T) (by omega) T.toNat 0 S1 (K + 32) H locs ls (by decide) (by omega) (by omega) v1 hh (lv_sub hl [0, 1, 2, 3, 4, 5, 6, 7, 8, 9, 10, 11, 12, 13, 14, 15] rfl)
theorem law_first (X : lwC D ad cI cJ cF p s m args meth c b L xs) (fin : ∀ (K : Nat), K ≤ 5000 → ∀ (H : Heap) (locs : List Loc) (ls : Array Slot), va_S (hAd ad) s.heap H locs → W p l e room_1 s m args below meth c H locs K (8 * K) Q (F0 m 433 ls [.int (hI 1)])) : ∀ (n : Nat) (k : Int) (S : hS) (K : Nat) (H : Heap) (locs : List Loc) (ls : Array Slot), 0 ≤ k → 8 - k = n → K + 8 * n ≤ 1500 → Lp S k → hH D ad cI cJ cF S s H locs → lv_has ls 17 [(14, .int (hI k)), (13, .int (hI 1)), (12, .ref (ad 10 11)), (11, .ref (ad 10 10)), (10, .ref (ad 10 9)), (9, .ref (ad 10 8)), (8, .ref (ad 10 7)), (7, .ref (ad 10 6)), (6, .ref (ad 10 5)), (5, .ref (ad 10 4)), (4, .ref (ad 10 3)), (3, .ref (ad 10 2)), (2, .ref (ad 10 1)), (1, .ref (ad 11 0)), (0, .ref b)] → W p l e room_1 s m args below meth c H locs K (8 * K) Q (F0 m 95 ls []) := by
  have X0 := X
  obtain ⟨E, hX, hbl, hbA, hL, hf⟩ := X
  obtain ⟨hx, hb, hml, hown, hts, hK, hN, hinj, hr, hlk, hz⟩ := id E
  intro n
  induction n with
  | zero =>
    intro k S K H locs ls k0 kT hK5 hv hh hl
    have e8 : k = 8 := by omega
    subst e8
    refine lv_iload hx hb dL_law_95 (lv_at hl 0 rfl) ?_
    refine lv_bipush (v := hI 8) hx hb dL_law_97 (by decide) ?_
    refine iv_icmp_ge (tgt := 194) hx hb ⟨by decide, by decide⟩ ⟨by decide, by decide⟩ dL_law_99 (by decide) (fun _ => ?_) (fun c1 => absurd c1 (by decide))
    exact law_mid X0 fin hv (by omega) hh hl
  | succ n ih =>
    intro k S K H locs ls k0 kT hK5 hv hh hl
    refine lv_iload hx hb dL_law_95 (lv_at hl 0 rfl) ?_
    refine lv_bipush (v := hI 8) hx hb dL_law_97 (by decide) ?_
    refine iv_icmp_ge (tgt := 194) hx hb ⟨by omega, by omega⟩ ⟨by decide, by decide⟩ dL_law_99 (by decide) (fun c1 => absurd c1 (by omega)) (fun _ => ?_)
    refine lv_iload hx hb dL_law_102 (lv_at hl 1 rfl) ?_
    refine iv_if_eq (tgt := 194) hx hb ⟨by decide, by decide⟩ dL_law_104 (by decide) (fun c1 => absurd c1 (by decide)) (fun _ => ?_)
    refine lv_aload_n hx hb dL_law_107 rfl (lv_at hl 13 rfl) ?_
    refine lv_aload_n hx hb dL_law_108 rfl (lv_at hl 12 rfl) ?_
    refine lv_aload_n hx hb dL_law_109 rfl (lv_at hl 11 rfl) ?_
    refine lv_aload hx hb dL_law_110 (lv_at hl 10 rfl) ?_
    refine lv_aload hx hb dL_law_112 (lv_at hl 9 rfl) ?_
    refine lv_aload hx hb dL_law_114 (lv_at hl 8 rfl) ?_
    refine lv_aload hx hb dL_law_116 (lv_at hl 7 rfl) ?_
    refine lv_aload hx hb dL_law_118 (lv_at hl 6 rfl) ?_
    refine lv_aload hx hb dL_law_120 (lv_at hl 5 rfl) ?_
    refine lv_aload hx hb dL_law_122 (lv_at hl 4 rfl) ?_
    refine lv_aload hx hb dL_law_124 (lv_at hl 3 rfl) ?_
    refine lv_aload hx hb dL_law_126 (lv_at hl 2 rfl) ?_
    refine lv_aload_n hx hb dL_law_128 rfl (lv_at hl 14 rfl) ?_
    refine iv_iconst hx hb dL_law_129 ?_
    refine lv_iload hx hb dL_law_130 (lv_at hl 0 rfl) ?_
    refine iv_iadd hx hb dL_law_132 ?_
    refine iv_cell (k := 1 + k) (rest := [.ref (ad 10 11), .ref (ad 10 10), .ref (ad 10 9), .ref (ad 10 8), .ref (ad 10 7), .ref (ad 10 6), .ref (ad 10 5), .ref (ad 10 4), .ref (ad 10 3), .ref (ad 10 2), .ref (ad 10 1), .ref (ad 11 0)]) E hh hX hbl hbA hL (by omega) (by omega) ⟨Nat.le_of_ble_eq_true rfl, Nat.le_of_ble_eq_true rfl⟩ (Nat.le_of_ble_eq_true rfl) hl.1 (Nat.le_of_ble_eq_true rfl) dL_law_133 (rmK (by omega)) (fun hcv H locs hh => ?_)
    refine iv_ldc (n := 2147483647) hx hb (by decide) hown (hts _ q2_79) dL_law_136 ?_
    refine iv_iand hx hb dL_law_138 ?_
    have ha0 := iAnd_31 (cellV xs L (1 + k))
    have ha1 : hIn (iAnd (cellV xs L (1 + k)) 2147483647) := hIn_toInt _
    generalize iAnd (cellV xs L (1 + k)) 2147483647 = V at ha0 ha1 ⊢
    have ha2 := ha1.2
    refine lv_sipush (v := hI 192) hx hb dL_law_139 (by decide) ?_
    refine iv_idiv hx hb ha1 ha0 ⟨by decide, by decide⟩ (by decide) dL_law_142 ?_
    refine lv_sipush (v := hI 192) hx hb dL_law_143 (by decide) ?_
    refine iv_imul hx hb dL_law_146 ?_
    have h182 : ∀ x : Int, 0 ≤ x → x ≤ 28 → W p l e room_1 s m args below meth c H locs K (8 * K) Q (F0 m 182 ls (.int (hI x) :: .int (hI (V / 192 * 192)) :: [.ref (ad 10 11), .ref (ad 10 10), .ref (ad 10 9), .ref (ad 10 8), .ref (ad 10 7), .ref (ad 10 6), .ref (ad 10 5), .ref (ad 10 4), .ref (ad 10 3), .ref (ad 10 2), .ref (ad 10 1), .ref (ad 11 0)])) := by
      intro x x0 x28
      refine iv_iadd hx hb dL_law_182 ?_
      refine iv_kxC (iv_rSC (mc := 8) (As := [.ref (ad 11 0), .ref (ad 10 1), .ref (ad 10 2), .ref (ad 10 3), .ref (ad 10 4), .ref (ad 10 5), .ref (ad 10 6), .ref (ad 10 7), .ref (ad 10 8), .ref (ad 10 9), .ref (ad 10 10), .ref (ad 10 11), .int (hI (V / 192 * 192 + x))]) (rest := []) E hh (ok_L_acts l hinj S hf (V / 192 * 192 + x) (⟨by omega, by omega⟩) (Lp_inv hv (by omega))) cb_L_acts q2_80 rfl rfl ⟨Nat.le_of_ble_eq_true rfl, Nat.le_of_ble_eq_true rfl⟩ rfl hl.1 rfl (Nat.le_of_ble_eq_true rfl) dL_law_183 (rmA (mc := 8) (by omega))) hh (fun S1 S1q H locs hh => ?_)
      refine lv_istore (lv' := [(13, .int (hI 1)), (14, .int (hI k)), (12, .ref (ad 10 11)), (11, .ref (ad 10 10)), (10, .ref (ad 10 9)), (9, .ref (ad 10 8)), (8, .ref (ad 10 7)), (7, .ref (ad 10 6)), (6, .ref (ad 10 5)), (5, .ref (ad 10 4)), (4, .ref (ad 10 3)), (3, .ref (ad 10 2)), (2, .ref (ad 10 1)), (1, .ref (ad 11 0)), (0, .ref b)]) hx hb dL_law_186 hl (by decide) rfl (fun ls hl => ?_)
      refine iv_iinc (nL := 17) (k := 1) (a := k) (v := k + 1) (lv' := [(14, .int (hI (k + 1))), (13, .int (hI 1)), (12, .ref (ad 10 11)), (11, .ref (ad 10 10)), (10, .ref (ad 10 9)), (9, .ref (ad 10 8)), (8, .ref (ad 10 7)), (7, .ref (ad 10 6)), (6, .ref (ad 10 5)), (5, .ref (ad 10 4)), (4, .ref (ad 10 3)), (3, .ref (ad 10 2)), (2, .ref (ad 10 1)), (1, .ref (ad 11 0)), (0, .ref b)]) hx hb dL_law_188 hl rfl (by omega) (by decide) rfl (fun ls hl => ?_)
      refine lv_goto (tgt := 95) hx hb dL_law_191 (by decide) ?_
      exact ih (k + 1) S1 (K + 8) H locs ls (by omega) (by omega) (by omega) (Lp_nxt hv S1q) hh (lv_sub hl [0, 1, 2, 3, 4, 5, 6, 7, 8, 9, 10, 11, 12, 13, 14] rfl)
    refine lv_iload hx hb dL_law_147 (lv_at hl 0 rfl) ?_
    refine iv_iconst hx hb dL_law_149 ?_
    refine iv_icmp_ge (tgt := 157) hx hb ⟨by omega, by omega⟩ ⟨by decide, by decide⟩ dL_law_150 (by decide) (fun _ => ?_) (fun _ => ?_)
    · skip
      refine lv_iload hx hb dL_law_157 (lv_at hl 0 rfl) ?_
      refine lv_bipush (v := hI 6) hx hb dL_law_159 (by decide) ?_
      refine iv_icmp_ge (tgt := 168) hx hb ⟨by omega, by omega⟩ ⟨by decide, by decide⟩ dL_law_161 (by decide) (fun _ => ?_) (fun _ => ?_)
      · skip
        refine lv_iload hx hb dL_law_168 (lv_at hl 0 rfl) ?_
        refine lv_bipush (v := hI 6) hx hb dL_law_170 (by decide) ?_
        refine iv_icmp_ne (tgt := 180) hx hb ⟨by omega, by omega⟩ ⟨by decide, by decide⟩ dL_law_172 (by decide) (fun _ => ?_) (fun _ => ?_)
        · skip
          refine lv_bipush (v := hI 28) hx hb dL_law_180 (by decide) ?_
          exact h182 28 (by decide) (by decide)
        · skip
          refine lv_bipush (v := hI 22) hx hb dL_law_175 (by decide) ?_
          exact lv_goto (tgt := 182) hx hb dL_law_177 (by decide) (h182 22 (by decide) (by decide))
      · skip
        refine iv_iconst hx hb dL_law_164 ?_
        exact lv_goto (tgt := 182) hx hb dL_law_165 (by decide) (h182 4 (by decide) (by decide))
    · skip
      refine iv_iconst hx hb dL_law_153 ?_
      exact lv_goto (tgt := 182) hx hb dL_law_154 (by decide) (h182 0 (by decide) (by decide))
end

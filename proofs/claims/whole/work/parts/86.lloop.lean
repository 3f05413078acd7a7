/-! the law's loop -/
section
variable {D : va_G} {ad : Nat → Nat → Nat} {cI cJ cF : ClassId}
variable {p : Program} {l : Launch} {e : Env} {s : State} {m : MethodId} {args : Array Value} {below : List Frame} {meth : Method} {c : Code} {Q : State → Prop} {b L : Nat} {xs : Nat → Int32}
theorem lw_loop (E : hE D ad cI cJ cF p s m args meth c "HintedStemsLaw" code 4 ret) (hX : va_X b L xs s s.heap) (hbl : b < s.heap.size) (hbA : ¬ hAd ad b) (hL : L ≤ 2560)
    (fin : ∀ (H : Heap) (locs : List Loc) (ls : Array Slot), va_S (hAd ad) s.heap H locs → W p l e room_1 s m args below meth c H locs 600000 7302250 Q (F0 m 863 ls [.int 1])) :
    ∀ (n : Nat) (k : Int) (S : hS) (H : Heap) (locs : List Loc) (ls : Array Slot), 0 ≤ k → 5 * k ≤ L → (L : Int) < 5 * k + 5 * n → hH D ad cI cJ cF S s H locs → Inv S k → lv_has ls 4 [(3, .int (hI (5 * k))), (2, .ref (ad 10 0)), (1, .ref (ad 11 0)), (0, .ref b)] → W p l e room_1 s m args below meth c H locs 600000 7302250 Q (F0 m 18 ls []) := by
  obtain ⟨hx, hb, -⟩ := id E
  intro n
  induction n with
  | zero =>
    intro k S H locs ls k0 k1 k2 hh hv hl
    omega
  | succ n ih =>
    intro k S H locs ls k0 k1 k2 hh hv hl
    refine lv_iload_n hx hb dL_18 rfl (lv_at hl 0 rfl) ?_
    refine lv_aload_n hx hb dL_19 rfl (lv_at hl 3 rfl) ?_
    refine va_slen hx hb hX hbl hbA hh.2.2 dL_20 ?_
    refine iv_iconst hx hb dL_21 ?_
    have eL : Int32.ofNat L = hI (L : Int) := rfl
    rw [eL]
    refine iv_isub hx hb dL_22 ?_
    refine iv_icmp_gt (tgt := 862) hx hb ⟨by omega, by omega⟩ ⟨by omega, by omega⟩ dL_23 (by decide) (fun c1 => ?_) (fun c1 => ?_)
    · exact lv_iconst (v := 1) hx hb dL_862 (by decide) (fin H locs ls hh.2.2)
    · have X : lwC D ad cI cJ cF p s m args meth c b L xs ls (5 * k) := ⟨E, hX, hbl, hbA, ⟨by omega, by omega⟩, hL, hl⟩
      refine lv_aload_n hx hb dL_26 rfl (lv_at hl 3 rfl) ?_
      refine lv_iload_n hx hb dL_27 rfl (lv_at hl 0 rfl) ?_
      obtain ⟨h1, h2⟩ := hI_ix (k := 5 * k) (n := L) (by omega) (by omega)
      refine va_sld hx hb hX hbl hbA hh.2.2 h1 dL_28 ?_
      refine lv_bipush (v := 31) hx hb dL_29 (by decide) ?_
      refine lv_iand hx hb dL_31 ?_
      refine lw_switch X hh hv (by omega) _ (fun S1 H1 locs1 hh1 hv1 => ?_)
      refine iv_iinc (nL := 4) (k := 0) (a := 5 * k) (v := 5 * (k + 1)) hx hb dL_856 hl rfl (by omega) (by decide) rfl (fun ls' hl' => ?_)
      refine lv_goto (tgt := 18) hx hb dL_859 (by decide) ?_
      exact ih (k + 1) S1 H1 locs1 ls' (by omega) (by omega) (by omega) hh1 hv1 hl'
/-- what the tables say of the machine at the law's entry -/
theorem lw_known (hts : ∀ w ∈ lw_tbl, w.before args s = true) : ∃ (D : va_G) (cI cJ cF : ClassId), va_K D vwCl (hTys cI cJ cF) s ∧ hNW s ∧ va_AO "HintedStems$Font" s := by
  have htw : ∀ w ∈ hWall, w.before args s = true := fun w hw => hts w (hWall_good w hw).1
  obtain ⟨c0, i0, k0⟩ := u_known htw inX0 (htw _ q1_110)
  obtain ⟨c1, i1, k1⟩ := u_known htw inX1 (htw _ q1_20)
  obtain ⟨c2, i2, k2⟩ := u_known htw inX2 (htw _ q1_182)
  obtain ⟨c3, i3, k3⟩ := u_known htw inX3 (htw _ q1_146)
  obtain ⟨c4, i4, k4⟩ := u_known htw inX4 (htw _ q1_26)
  obtain ⟨c5, i5, k5⟩ := u_known htw inX5 (htw _ q1_12)
  obtain ⟨c6, i6, k6⟩ := u_known htw inX6 (htw _ q3_155)
  obtain ⟨cI, kI, coI, a1, a2, a3⟩ := Cond.arrayClass_spec (htw _ q1_57)
  obtain ⟨cJ, kJ, coJ, b1, b2, b3⟩ := Cond.arrayClass_spec (htw _ q1_58)
  obtain ⟨coF, cF, kF, d1, d2, d3, d4, d5⟩ := Cond.arrayOver_spec (hts _ q1_188)
  refine ⟨(fun k => match k with | 0 => c0 | 1 => c1 | 2 => c2 | 3 => c3 | 4 => c4 | 5 => c5 | _ => c6, fun k => match k with | 0 => i0 | 1 => i1 | 2 => i2 | 3 => i3 | 4 => i4 | 5 => i5 | _ => i6), cI, cJ, cF, ⟨fun k q hq => ?_, fun k q hq => ?_⟩, ?_, va_AO.of (hts _ q1_188)⟩
  · have hk : k < 7 := (List.getElem?_eq_some_iff.mp hq).1
    rcases (show k = 0 ∨ k = 1 ∨ k = 2 ∨ k = 3 ∨ k = 4 ∨ k = 5 ∨ k = 6 by omega) with rfl | rfl | rfl | rfl | rfl | rfl | rfl <;> cases hq <;> assumption
  · have hk : k < 3 := (List.getElem?_eq_some_iff.mp hq).1
    rcases (show k = 0 ∨ k = 1 ∨ k = 2 by omega) with rfl | rfl | rfl <;> cases hq
    · exact ⟨fun n z => ⟨(fun k h => by cases h), kI, a2, coI, a3⟩, a1⟩
    · exact ⟨fun n z => ⟨(fun k h => by cases h), kJ, b2, coJ, b3⟩, b1⟩
    · exact ⟨fun n z => ⟨(fun k h => by cases h), kF, d3, coF, d4⟩, kF, coF, d3, d4, d1, d5⟩
  · intro w hw
    have h1 := hts w (List.mem_filter.mp hw).1
    have h2 : hNest w = true := (List.mem_filter.mp hw).2
    cases w <;> first | exact va_Nw.of rfl h1 | cases h2
end

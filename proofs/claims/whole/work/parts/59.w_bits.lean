section
variable {p : Program} {l : Launch} {e : Env} {R : Room} {s : State} {m : MethodId} {args : Array Value} {below : List Frame} {meth : Method} {c : Code} {H : Heap} {locs : List Loc} {cells slots : Nat} {Q : State → Prop}
variable {cc : ByteArray} {pc nL : Nat} {ls : Array Slot} {rest : List Value}
theorem iv_ldcwF (hexec : p.tables.exec = Jvm.exec) (hb : c.code = cc) {own : String} {index : Nat} {v : UInt32} (hown : s.vm.findClass own = some m.cls) (hconst : (Jvm.Cond.constantFloat own index v).before args s = true) (hdg : decode cc pc = .ok (.ldc_w index, 3)) (k : W p l e R s m args below meth c H locs cells slots Q (F0 m (pc + 3) ls (.float v :: rest))) : W p l e R s m args below meth c H locs cells slots Q (F0 m pc ls rest) := by
  intro T hT X
  obtain ⟨t, a, b⟩ := k T hT X
  refine ⟨t, ?_, b⟩
  obtain ⟨k1, cf, hk, hcf, hcp⟩ := Cond.constantFloat_spec hown hconst
  obtain ⟨k', hk', he⟩ := X.warmed.alike.2.2 _ _ hk
  jvm_step X.here [hexec, hb, hdg, Op.ldc_w.wp_float (s := T) (f := F0 m pc ls rest) X.here.top hk' (by rw [he]; exact hcf) hcp]
  exact a
end
theorem n32_sub {t : Nat} (ht : t < 8388608) : vf_n32 (FP.fsub (fE 127 t) FP.fconst1) ∧ vf_n32 (FP.fmul (FP.fsub (fE 127 t) FP.fconst1) 0x4b000000) := by
  rcases Nat.eq_zero_or_pos t with h | h
  · subst h
    unfold vf_n32
    exact ⟨by decide +kernel, by decide +kernel⟩
  · have a := (Nat.log2_eq_iff (n := t) (k := t.log2) (by omega)).mp rfl
    have hl : t.log2 < 23 := (Nat.log2_lt (by omega)).mpr (by omega)
    have b := less1_fE a.1 a.2 (by omega)
    have c := whole_fE (l := t.log2) (t := t * 2 ^ (23 - t.log2) - 8388608) (s := t) (by omega) (by omega) (by omega)
    rw [b.1, c.1]
    exact ⟨n32_fE (by omega) (by omega), n32_fE (by omega) (by omega)⟩
theorem cmp2_nl {e t : Nat} (h1 : 128 ≤ e) (h2 : e < 255) (ht : t < 8388608) : ¬ Op.cmpValue (FP.fcmp (fE e t) FP.fconst2) .l < 0 := by
  have q := cmp2_ge h1 h2 ht
  generalize FP.fcmp (fE e t) FP.fconst2 = o at q
  rcases o with _ | o
  · exact absurd rfl q.2
  · cases o with
    | lt => exact absurd rfl q.1
    | eq => decide
    | gt => decide
section
variable {D : va_G} {ad : Nat → Nat → Nat} {cI cJ cF : ClassId}
set_option maxHeartbeats 4000000 in
set_option maxRecDepth 100000 in
theorem ok_X5_bitsOf (l : Launch) (hinj : hInj ad) (S : hS) (e0 t0 : Nat) (h1 : 127 ≤ e0) (h2 : e0 < 250) (h3 : t0 < 8388608) : hMi D ad cI cJ cF l yX5_bitsOf cX5_bitsOf 3 (some .int) ({ frames := 0, cells := 0, slots := 0, locals := 0 } : Room) [.float (fE e0 t0)] S ((e0 * 8388608 + t0 : Nat) : Int) S := by
  refine hOf (S := S) l hinj (by decide +kernel) (Nat.le_of_ble_eq_true rfl) (fun p e s m args below meth c E => ?_)
  obtain ⟨hx, hb, hml, hown, hts, hK, hN, -, hr, hlk⟩ := id E
  have hown : s.vm.findClass RX5 = some m.cls := hown
  have key : ∀ k : Nat, k ≤ e0 - 127 → hAt D ad cI cJ cF p l e ({ frames := 0, cells := 0, slots := 0, locals := 0 } : Room) s m args below meth c (MQ below (hQi D ad cI cJ cF ((e0 * 8388608 + t0 : Nat) : Int) S) args s 0 0 (hAd ad)) 3 5 [(1, .float (fE (127 + k) t0)), (2, .int (hI ((e0 - k : Nat) : Int)))] S := by
    intro k
    induction k with
    | zero =>
      intro hk H locs ls hh hl
      refine lv_fload_n hx hb dX5_bitsOf_5 rfl (lv_at hl 0 rfl) ?_
      refine lv_fconst2 hx hb dX5_bitsOf_6 ?_
      refine lv_fcmp hx hb dX5_bitsOf_7 ?_
      rw [show 127 + 0 = 127 from rfl, cmp2_lt h3]
      refine lv_if_lt (tgt := 28) hx hb dX5_bitsOf_8 (by decide) (fun _ => ?_) (fun q => absurd (by decide) q)
      refine lv_iload_n hx hb dX5_bitsOf_28 rfl (lv_at hl 1 rfl) ?_
      refine lv_bipush (v := hI 23) hx hb dX5_bitsOf_29 (by decide) ?_
      refine iv_ishl hx hb dX5_bitsOf_31 ?_
      refine lv_fload_n hx hb dX5_bitsOf_32 rfl (lv_at hl 0 rfl) ?_
      refine lv_fconst1 hx hb dX5_bitsOf_33 ?_
      refine lv_fsub hx hb dX5_bitsOf_34 (n32_sub h3).1 ?_
      refine iv_ldcwF (v := 0x4b000000) hx hb hown (hts _ q3_70) dX5_bitsOf_35 ?_
      refine lv_fmul hx hb dX5_bitsOf_38 (n32_sub h3).2 ?_
      refine lv_f2i hx hb dX5_bitsOf_39 ?_
      rw [sig_fE h3]
      refine iv_ior hx hb dX5_bitsOf_40 ?_
      exact iv_iret E hh (by rw [Nat.sub_zero, iShl_23 e0 (by omega), iOr_add (by omega) h3]) ⟨by omega, by omega⟩ rfl dX5_bitsOf_41
    | succ k ih =>
      intro hk H locs ls hh hl
      refine lv_fload_n hx hb dX5_bitsOf_5 rfl (lv_at hl 0 rfl) ?_
      refine lv_fconst2 hx hb dX5_bitsOf_6 ?_
      refine lv_fcmp hx hb dX5_bitsOf_7 ?_
      refine lv_if_lt (tgt := 28) hx hb dX5_bitsOf_8 (by decide) (fun q => absurd q (cmp2_nl (by omega) (by omega) h3)) (fun _ => ?_)
      refine lv_iload_n hx hb dX5_bitsOf_11 rfl (lv_at hl 1 rfl) ?_
      refine lv_sipush (v := hI 254) hx hb dX5_bitsOf_12 (by decide) ?_
      refine iv_icmp_ge (tgt := 28) hx hb ⟨by omega, by omega⟩ ⟨by decide, by decide⟩ dX5_bitsOf_15 (by decide) (fun c1 => by omega) (fun _ => ?_)
      refine lv_fload_n hx hb dX5_bitsOf_18 rfl (lv_at hl 0 rfl) ?_
      refine lv_fconst2 hx hb dX5_bitsOf_19 ?_
      have hf : FP.fdiv (fE (127 + (k + 1)) t0) FP.fconst2 = fE (127 + k) t0 := half_fE (by omega) (by omega) h3
      refine lv_fdiv hx hb dX5_bitsOf_20 (by rw [hf]; exact n32_fE (by omega) h3) ?_
      rw [hf]
      refine lv_fstore_n (lv' := [(1, .float (fE (127 + k) t0)), (2, .int (hI ((e0 - (k + 1) : Nat) : Int)))]) hx hb dX5_bitsOf_21 rfl hl (by decide) rfl (fun ls hl => ?_)
      have ev : ((e0 - (k + 1) : Nat) : Int) + 1 = ((e0 - k : Nat) : Int) := by omega
      refine iv_iinc (lv' := [(2, .int (hI (((e0 - (k + 1) : Nat) : Int) + 1))), (1, .float (fE (127 + k) t0))]) hx hb dX5_bitsOf_22 hl (k := 1) rfl (v := (((e0 - (k + 1) : Nat) : Int) + 1)) rfl (by decide) rfl (fun ls hl => ?_)
      rw [ev] at hl
      refine lv_goto (tgt := 5) hx hb dX5_bitsOf_25 (by decide) ?_
      exact ih (by omega) H _ ls hh (lv_sub hl [1, 0] rfl)
  intro H locs ls hh hl
  have hl : lv_has ls 3 [(0, .float (fE e0 t0))] := hl
  refine lv_fload_n hx hb dX5_bitsOf_0 rfl (lv_at hl 0 rfl) ?_
  refine lv_fstore_n (lv' := [(1, .float (fE e0 t0)), (0, .float (fE e0 t0))]) hx hb dX5_bitsOf_1 rfl hl (by decide) rfl (fun ls hl => ?_)
  refine lv_bipush (v := hI 127) hx hb dX5_bitsOf_2 (by decide) ?_
  refine lv_istore_n (lv' := [(2, .int (hI 127)), (1, .float (fE e0 t0)), (0, .float (fE e0 t0))]) hx hb dX5_bitsOf_4 rfl hl (by decide) rfl (fun ls hl => ?_)
  have h := key (e0 - 127) (by omega)
  rw [show 127 + (e0 - 127) = e0 by omega, show e0 - (e0 - 127) = 127 by omega] at h
  exact h H _ ls hh (lv_sub hl [1, 0] rfl)
end

section
variable {args : Array Value} {s : State}
/-- what the tables say of the machine at the law's entry -/
theorem lw_known (hts : ∀ w ∈ lw_tbl, w.before args s = true) : ∃ (D : va_G) (cI cJ cF : ClassId), va_K D vwCl (hTys cI cJ cF) s ∧ hNW s ∧ va_AO "HintedStems$Font" s := by
  have htw : ∀ w ∈ hWall, w.before args s = true := fun w hw => hts w (hWall_good w hw).1
  obtain ⟨c0, i0, k0⟩ := u_known htw inX0 (htw _ q1_107)
  obtain ⟨c1, i1, k1⟩ := u_known htw inX1 (htw _ q1_18)
  obtain ⟨c2, i2, k2⟩ := u_known htw inX2 (htw _ q1_163)
  obtain ⟨c3, i3, k3⟩ := u_known htw inX3 (htw _ q1_137)
  obtain ⟨c4, i4, k4⟩ := u_known htw inX4 (htw _ q1_24)
  obtain ⟨c5, i5, k5⟩ := u_known htw inX5 (htw _ q1_10)
  obtain ⟨cI, kI, coI, a1, a2, a3⟩ := Cond.arrayClass_spec (htw _ q1_55)
  obtain ⟨cJ, kJ, coJ, b1, b2, b3⟩ := Cond.arrayClass_spec (htw _ q1_56)
  obtain ⟨coF, cF, kF, d1, d2, d3, d4, d5⟩ := Cond.arrayOver_spec (hts _ q1_169)
  refine ⟨(fun k => match k with | 0 => c0 | 1 => c1 | 2 => c2 | 3 => c3 | 4 => c4 | _ => c5, fun k => match k with | 0 => i0 | 1 => i1 | 2 => i2 | 3 => i3 | 4 => i4 | _ => i5), cI, cJ, cF, ⟨fun k q hq => ?_, fun k q hq => ?_⟩, ?_, va_AO.of (hts _ q1_169)⟩
  · have hk : k < 6 := (List.getElem?_eq_some_iff.mp hq).1
    rcases (show k = 0 ∨ k = 1 ∨ k = 2 ∨ k = 3 ∨ k = 4 ∨ k = 5 by omega) with rfl | rfl | rfl | rfl | rfl | rfl <;> cases hq <;> assumption
  · have hk : k < 3 := (List.getElem?_eq_some_iff.mp hq).1
    rcases (show k = 0 ∨ k = 1 ∨ k = 2 by omega) with rfl | rfl | rfl <;> cases hq
    · exact ⟨fun n z => ⟨(fun k h => by cases h), kI, a2, coI, a3⟩, a1⟩
    · exact ⟨fun n z => ⟨(fun k h => by cases h), kJ, b2, coJ, b3⟩, b1⟩
    · exact ⟨fun n z => ⟨(fun k h => by cases h), kF, d3, coF, d4⟩, kF, coF, d3, d4, d1, d5⟩
  · intro w hw
    have h1 := hts w (List.mem_filter.mp hw).1
    have h2 : hNest w = true := (List.mem_filter.mp hw).2
    cases w <;> first | exact va_Nw.of rfl h1 | cases h2
end
/-! THE CLAIM OUT OF ONE WALK OF THE LAW'S BODY. Your part is whole_start (and what it stands on); all else here is the same for every law, but numbers. -/
def R_law : String := "HintedStemsLaw"
def lw_P (b : Addr) (xs : List Int32) (args : Array Value) (s : State) : Prop := args = #[.ref b] ∧ s.IntsAt b xs ∧ xs.length ≤ 260 ∧ (Jvm.Cond.and given_1 narrow_1).before args s = true
def lw_Q (_ : Array Value) (s : State) (o : Outcome) (t : State) : Prop := o = .returned (some (.int 1)) ∧ Framed s o t [] 600000 7302250
def lw_Z (below : List Frame) (a : Array Value) (s : State) : State → Prop := fun t => ∃ o, t.status = .running ∧ Ended t below o ∧ lw_Q a s o t
/-- the law's own end, with 1 on the stack, nothing written that was there before, its room as the claim has it -/
theorem lw_ret {p : Program} {l : Launch} {e : Env} {s : State} {m : MethodId} {below : List Frame} {meth : Method} {c : Code} {b : Nat} (hx : p.tables.exec = Jvm.exec) (hb : c.code = code) (hr : meth.sig.returnType = ret) (hlocks : meth.locks = false) {pc : Nat} {H : Heap} {ls : Array Slot} (hdg : decode code pc = .ok (.ireturn, 1)) : W p l e room_1 s m #[Value.ref b] below meth c H [] 600000 7302250 (lw_Z below #[Value.ref b] s) (F0 m pc ls [.int 1]) := by
  intro T hT X
  obtain ⟨fs, hret, hrun, hended, hW, hframe⟩ := X.leave (v := some (.int 1)) (hlocks := hlocks) (fun h => by rw [hr] at h; cases h)
  have hmeth' : T.vm.method? m = some meth := X.method'
  refine ⟨T.setFrames fs, ?_, .returned (some (.int 1)), hrun, hended, rfl, ⟨_, rfl⟩, hW, hframe⟩
  jvm_step X.here [X.here.top, hx, hb, hdg, hmeth', hr, ret, narrow_b1]
  (try refine ⟨rfl, ?_⟩); (try refine ⟨rfl, ?_⟩)
  first | (intro acts; rw [hret _ acts rfl rfl rfl]) | rw [hret _ _ rfl rfl rfl]
  exact Steps.refl _
/-- what holds at the law's entry: the machine, the code, the tables' words (any of lw_tbl by 'hts w (by decide +kernel)'), the script of L ints xs at the cell b, what the Statement gives of the start (any of its parts by flat_of_before) -/
def lw_At (p : Program) (s : State) (m : MethodId) (meth : Method) (c : Code) (b L : Nat) (xs : Nat → Int32) : Prop :=
  p.tables.exec = Jvm.exec ∧ c.code = code ∧ meth.sig.returnType = ret ∧ c.maxLocals = 17 ∧ s.vm.findClass R_law = some m.cls ∧ (∀ w ∈ lw_tbl, w.before #[Value.ref b] s = true) ∧ va_X b L xs s s.heap ∧ b < s.heap.size ∧ meth.locks = false ∧ (Jvm.Cond.and given_1 narrow_1).before #[Value.ref b] s = true
-- ===== YOUR PART BEGINS =====
set_option maxHeartbeats 4000000 in
set_option maxRecDepth 100000 in
/-- YOUR PART: from the entry, for every script of at most 260 ints, the law comes to its end with true ('hflags': the launch's flags, for a law that throws: no stack traces) -/
theorem whole_start {p : Program} {e : Env} {s : State} {m : MethodId} {below : List Frame} {meth : Method} {c : Code} (l : Launch) (hflags : l.flags = flags0) {b L : Nat} {xs : Nat → Int32} (hL : L ≤ 260) (C0 : lw_At p s m meth c b L xs) : W p l e room_1 s m #[Value.ref b] below meth c s.heap [] 0 0 (lw_Z below #[Value.ref b] s) (entryFrame m ([Value.ref b] : List Value).toArray 17) := by
  obtain ⟨hx, hb, hr, hml, hown0, hts, hX, hbl, hlk, hpre⟩ := C0
  have hown : s.vm.findClass "HintedStemsLaw" = some m.cls := hown0
  obtain ⟨D, cI, cJ, cF, hK, hN, hO⟩ := lw_known hts
  have htw : ∀ w ∈ hWall, w.before #[Value.ref b] s = true := fun w hw => hts w (hWall_good w hw).1
  have E1 : kE D cI cJ cF p s m #[Value.ref b] meth c "HintedStemsLaw" code 17 := ⟨hx, hb, hml, hown, htw, hK, hN, hO⟩
  have hl := lv_entry ([.ref b]) (n := 17) (show (lg_sl ([.ref b])).length ≤ 17 from Nat.le_of_ble_eq_true rfl)
  rw [lg_entry_eq]
  generalize (lg_sl ([.ref b]) ++ List.replicate (17 - (lg_sl ([.ref b])).length) Slot.unset).toArray = ls at hl ⊢
  have hl : lv_has ls 17 [(0, .ref b)] := hl
  have hA : ∀ q, s.heap.size ≤ q → (fun q : Nat => s.heap.size ≤ q) q := fun q h => h
  have hP : va_P D vwCl [] s.heap := fun k q h => by cases h
  have hD : va_D (fun q : Nat => s.heap.size ≤ q) [] := ⟨fun i j p1 q1 h => (by cases h), fun k q h => (by cases h)⟩
  have hS : va_S (fun q : Nat => s.heap.size ≤ q) s.heap s.heap [] := va_S.rf
  refine kv_ctor E1 hP hD hS hA kT5 (k_X5 l) q1_9 q1_10 q1_1 ky5 q1_11 q1_12 q1_13 kd5 rfl rfl ⟨Nat.le_of_ble_eq_true rfl, Nat.le_of_ble_eq_true rfl⟩ hl.1 (Nat.le_of_ble_eq_true rfl) (Nat.le_of_ble_eq_true rfl) (Nat.le_of_ble_eq_true rfl) dL_law_0 dL_law_3 dL_law_4 (fun h0 w1 H locs hB hP hD hS => ?_)
  obtain ⟨a0, a1, fi, od, hi, bb, rfl⟩ := hB
  have hP : va_P D vwCl (kObj cI cJ cF h0 a0 a1 fi od hi bb) H := hP
  have hD : va_D (fun q : Nat => s.heap.size ≤ q) (kObj cI cJ cF h0 a0 a1 fi od hi bb) := hD
  refine lv_astore_n (nL := 17) (lv' := [(1, .ref h0), (0, .ref b)]) hx hb dL_law_7 rfl hl (by decide) rfl (fun ls hl => ?_)
  refine lv_iconst (v := 4) hx hb dL_law_8 (by decide) ?_
  refine kv_newi E1 hP hD hS hA (N' := 4) (by decide) (by decide) (by decide) (Nat.le_of_ble_eq_true rfl) (Nat.le_of_ble_eq_true rfl) dL_law_9 (fun x1 H hP hD hS => ?_)
  refine lv_astore_n (nL := 17) (lv' := [(2, .ref x1), (1, .ref h0), (0, .ref b)]) hx hb dL_law_11 rfl hl (by decide) rfl (fun ls hl => ?_)
  refine lv_bipush (v := 8) hx hb dL_law_12 (by decide) ?_
  refine kv_newi E1 hP hD hS hA (N' := 8) (by decide) (by decide) (by decide) (Nat.le_of_ble_eq_true rfl) (Nat.le_of_ble_eq_true rfl) dL_law_14 (fun x2 H hP hD hS => ?_)
  have hP : va_P D vwCl (kObj cI cJ cF h0 a0 a1 fi od hi bb ++ [(x1, .inl (cI, 4, .inl (fun _ => 0))), (x2, .inl (cI, 8, .inl (fun _ => 0)))]) H := by simpa only [List.append_assoc, List.cons_append, List.nil_append] using hP
  have hD : va_D (fun q : Nat => s.heap.size ≤ q) (kObj cI cJ cF h0 a0 a1 fi od hi bb ++ [(x1, .inl (cI, 4, .inl (fun _ => 0))), (x2, .inl (cI, 8, .inl (fun _ => 0)))]) := by simpa only [List.append_assoc, List.cons_append, List.nil_append] using hD
  refine lv_astore_n (nL := 17) (lv' := [(3, .ref x2), (2, .ref x1), (1, .ref h0), (0, .ref b)]) hx hb dL_law_16 rfl hl (by decide) rfl (fun ls hl => ?_)
  refine lv_bipush (v := 8) hx hb dL_law_17 (by decide) ?_
  refine kv_newi E1 hP hD hS hA (N' := 8) (by decide) (by decide) (by decide) (Nat.le_of_ble_eq_true rfl) (Nat.le_of_ble_eq_true rfl) dL_law_19 (fun x3 H hP hD hS => ?_)
  have hP : va_P D vwCl (kObj cI cJ cF h0 a0 a1 fi od hi bb ++ [(x1, .inl (cI, 4, .inl (fun _ => 0))), (x2, .inl (cI, 8, .inl (fun _ => 0))), (x3, .inl (cI, 8, .inl (fun _ => 0)))]) H := by simpa only [List.append_assoc, List.cons_append, List.nil_append] using hP
  have hD : va_D (fun q : Nat => s.heap.size ≤ q) (kObj cI cJ cF h0 a0 a1 fi od hi bb ++ [(x1, .inl (cI, 4, .inl (fun _ => 0))), (x2, .inl (cI, 8, .inl (fun _ => 0))), (x3, .inl (cI, 8, .inl (fun _ => 0)))]) := by simpa only [List.append_assoc, List.cons_append, List.nil_append] using hD
  refine lv_astore (nL := 17) (lv' := [(4, .ref x3), (3, .ref x2), (2, .ref x1), (1, .ref h0), (0, .ref b)]) hx hb dL_law_21 hl (by decide) rfl (fun ls hl => ?_)
  refine lv_bipush (v := 49) hx hb dL_law_23 (by decide) ?_
  refine kv_newi E1 hP hD hS hA (N' := 49) (by decide) (by decide) (by decide) (Nat.le_of_ble_eq_true rfl) (Nat.le_of_ble_eq_true rfl) dL_law_25 (fun x4 H hP hD hS => ?_)
  have hP : va_P D vwCl (kObj cI cJ cF h0 a0 a1 fi od hi bb ++ [(x1, .inl (cI, 4, .inl (fun _ => 0))), (x2, .inl (cI, 8, .inl (fun _ => 0))), (x3, .inl (cI, 8, .inl (fun _ => 0))), (x4, .inl (cI, 49, .inl (fun _ => 0)))]) H := by simpa only [List.append_assoc, List.cons_append, List.nil_append] using hP
  have hD : va_D (fun q : Nat => s.heap.size ≤ q) (kObj cI cJ cF h0 a0 a1 fi od hi bb ++ [(x1, .inl (cI, 4, .inl (fun _ => 0))), (x2, .inl (cI, 8, .inl (fun _ => 0))), (x3, .inl (cI, 8, .inl (fun _ => 0))), (x4, .inl (cI, 49, .inl (fun _ => 0)))]) := by simpa only [List.append_assoc, List.cons_append, List.nil_append] using hD
  refine lv_astore (nL := 17) (lv' := [(5, .ref x4), (4, .ref x3), (3, .ref x2), (2, .ref x1), (1, .ref h0), (0, .ref b)]) hx hb dL_law_27 hl (by decide) rfl (fun ls hl => ?_)
  refine lv_bipush (v := 49) hx hb dL_law_29 (by decide) ?_
  refine kv_newi E1 hP hD hS hA (N' := 49) (by decide) (by decide) (by decide) (Nat.le_of_ble_eq_true rfl) (Nat.le_of_ble_eq_true rfl) dL_law_31 (fun x5 H hP hD hS => ?_)
  have hP : va_P D vwCl (kObj cI cJ cF h0 a0 a1 fi od hi bb ++ [(x1, .inl (cI, 4, .inl (fun _ => 0))), (x2, .inl (cI, 8, .inl (fun _ => 0))), (x3, .inl (cI, 8, .inl (fun _ => 0))), (x4, .inl (cI, 49, .inl (fun _ => 0))), (x5, .inl (cI, 49, .inl (fun _ => 0)))]) H := by simpa only [List.append_assoc, List.cons_append, List.nil_append] using hP
  have hD : va_D (fun q : Nat => s.heap.size ≤ q) (kObj cI cJ cF h0 a0 a1 fi od hi bb ++ [(x1, .inl (cI, 4, .inl (fun _ => 0))), (x2, .inl (cI, 8, .inl (fun _ => 0))), (x3, .inl (cI, 8, .inl (fun _ => 0))), (x4, .inl (cI, 49, .inl (fun _ => 0))), (x5, .inl (cI, 49, .inl (fun _ => 0)))]) := by simpa only [List.append_assoc, List.cons_append, List.nil_append] using hD
  refine lv_astore (nL := 17) (lv' := [(6, .ref x5), (5, .ref x4), (4, .ref x3), (3, .ref x2), (2, .ref x1), (1, .ref h0), (0, .ref b)]) hx hb dL_law_33 hl (by decide) rfl (fun ls hl => ?_)
  refine lv_bipush (v := 49) hx hb dL_law_35 (by decide) ?_
  refine kv_newi E1 hP hD hS hA (N' := 49) (by decide) (by decide) (by decide) (Nat.le_of_ble_eq_true rfl) (Nat.le_of_ble_eq_true rfl) dL_law_37 (fun x6 H hP hD hS => ?_)
  have hP : va_P D vwCl (kObj cI cJ cF h0 a0 a1 fi od hi bb ++ [(x1, .inl (cI, 4, .inl (fun _ => 0))), (x2, .inl (cI, 8, .inl (fun _ => 0))), (x3, .inl (cI, 8, .inl (fun _ => 0))), (x4, .inl (cI, 49, .inl (fun _ => 0))), (x5, .inl (cI, 49, .inl (fun _ => 0))), (x6, .inl (cI, 49, .inl (fun _ => 0)))]) H := by simpa only [List.append_assoc, List.cons_append, List.nil_append] using hP
  have hD : va_D (fun q : Nat => s.heap.size ≤ q) (kObj cI cJ cF h0 a0 a1 fi od hi bb ++ [(x1, .inl (cI, 4, .inl (fun _ => 0))), (x2, .inl (cI, 8, .inl (fun _ => 0))), (x3, .inl (cI, 8, .inl (fun _ => 0))), (x4, .inl (cI, 49, .inl (fun _ => 0))), (x5, .inl (cI, 49, .inl (fun _ => 0))), (x6, .inl (cI, 49, .inl (fun _ => 0)))]) := by simpa only [List.append_assoc, List.cons_append, List.nil_append] using hD
  refine lv_astore (nL := 17) (lv' := [(7, .ref x6), (6, .ref x5), (5, .ref x4), (4, .ref x3), (3, .ref x2), (2, .ref x1), (1, .ref h0), (0, .ref b)]) hx hb dL_law_39 hl (by decide) rfl (fun ls hl => ?_)
  refine lv_iconst (v := 3) hx hb dL_law_41 (by decide) ?_
  refine kv_newi E1 hP hD hS hA (N' := 3) (by decide) (by decide) (by decide) (Nat.le_of_ble_eq_true rfl) (Nat.le_of_ble_eq_true rfl) dL_law_42 (fun x7 H hP hD hS => ?_)
  have hP : va_P D vwCl (kObj cI cJ cF h0 a0 a1 fi od hi bb ++ [(x1, .inl (cI, 4, .inl (fun _ => 0))), (x2, .inl (cI, 8, .inl (fun _ => 0))), (x3, .inl (cI, 8, .inl (fun _ => 0))), (x4, .inl (cI, 49, .inl (fun _ => 0))), (x5, .inl (cI, 49, .inl (fun _ => 0))), (x6, .inl (cI, 49, .inl (fun _ => 0))), (x7, .inl (cI, 3, .inl (fun _ => 0)))]) H := by simpa only [List.append_assoc, List.cons_append, List.nil_append] using hP
  have hD : va_D (fun q : Nat => s.heap.size ≤ q) (kObj cI cJ cF h0 a0 a1 fi od hi bb ++ [(x1, .inl (cI, 4, .inl (fun _ => 0))), (x2, .inl (cI, 8, .inl (fun _ => 0))), (x3, .inl (cI, 8, .inl (fun _ => 0))), (x4, .inl (cI, 49, .inl (fun _ => 0))), (x5, .inl (cI, 49, .inl (fun _ => 0))), (x6, .inl (cI, 49, .inl (fun _ => 0))), (x7, .inl (cI, 3, .inl (fun _ => 0)))]) := by simpa only [List.append_assoc, List.cons_append, List.nil_append] using hD
  refine lv_astore (nL := 17) (lv' := [(8, .ref x7), (7, .ref x6), (6, .ref x5), (5, .ref x4), (4, .ref x3), (3, .ref x2), (2, .ref x1), (1, .ref h0), (0, .ref b)]) hx hb dL_law_44 hl (by decide) rfl (fun ls hl => ?_)
  refine lv_iconst (v := 4) hx hb dL_law_46 (by decide) ?_
  refine kv_newi E1 hP hD hS hA (N' := 4) (by decide) (by decide) (by decide) (Nat.le_of_ble_eq_true rfl) (Nat.le_of_ble_eq_true rfl) dL_law_47 (fun x8 H hP hD hS => ?_)
  have hP : va_P D vwCl (kObj cI cJ cF h0 a0 a1 fi od hi bb ++ [(x1, .inl (cI, 4, .inl (fun _ => 0))), (x2, .inl (cI, 8, .inl (fun _ => 0))), (x3, .inl (cI, 8, .inl (fun _ => 0))), (x4, .inl (cI, 49, .inl (fun _ => 0))), (x5, .inl (cI, 49, .inl (fun _ => 0))), (x6, .inl (cI, 49, .inl (fun _ => 0))), (x7, .inl (cI, 3, .inl (fun _ => 0))), (x8, .inl (cI, 4, .inl (fun _ => 0)))]) H := by simpa only [List.append_assoc, List.cons_append, List.nil_append] using hP
  have hD : va_D (fun q : Nat => s.heap.size ≤ q) (kObj cI cJ cF h0 a0 a1 fi od hi bb ++ [(x1, .inl (cI, 4, .inl (fun _ => 0))), (x2, .inl (cI, 8, .inl (fun _ => 0))), (x3, .inl (cI, 8, .inl (fun _ => 0))), (x4, .inl (cI, 49, .inl (fun _ => 0))), (x5, .inl (cI, 49, .inl (fun _ => 0))), (x6, .inl (cI, 49, .inl (fun _ => 0))), (x7, .inl (cI, 3, .inl (fun _ => 0))), (x8, .inl (cI, 4, .inl (fun _ => 0)))]) := by simpa only [List.append_assoc, List.cons_append, List.nil_append] using hD
  refine lv_astore (nL := 17) (lv' := [(9, .ref x8), (8, .ref x7), (7, .ref x6), (6, .ref x5), (5, .ref x4), (4, .ref x3), (3, .ref x2), (2, .ref x1), (1, .ref h0), (0, .ref b)]) hx hb dL_law_49 hl (by decide) rfl (fun ls hl => ?_)
  refine lv_iconst (v := 4) hx hb dL_law_51 (by decide) ?_
  refine kv_newi E1 hP hD hS hA (N' := 4) (by decide) (by decide) (by decide) (Nat.le_of_ble_eq_true rfl) (Nat.le_of_ble_eq_true rfl) dL_law_52 (fun x9 H hP hD hS => ?_)
  have hP : va_P D vwCl (kObj cI cJ cF h0 a0 a1 fi od hi bb ++ [(x1, .inl (cI, 4, .inl (fun _ => 0))), (x2, .inl (cI, 8, .inl (fun _ => 0))), (x3, .inl (cI, 8, .inl (fun _ => 0))), (x4, .inl (cI, 49, .inl (fun _ => 0))), (x5, .inl (cI, 49, .inl (fun _ => 0))), (x6, .inl (cI, 49, .inl (fun _ => 0))), (x7, .inl (cI, 3, .inl (fun _ => 0))), (x8, .inl (cI, 4, .inl (fun _ => 0))), (x9, .inl (cI, 4, .inl (fun _ => 0)))]) H := by simpa only [List.append_assoc, List.cons_append, List.nil_append] using hP
  have hD : va_D (fun q : Nat => s.heap.size ≤ q) (kObj cI cJ cF h0 a0 a1 fi od hi bb ++ [(x1, .inl (cI, 4, .inl (fun _ => 0))), (x2, .inl (cI, 8, .inl (fun _ => 0))), (x3, .inl (cI, 8, .inl (fun _ => 0))), (x4, .inl (cI, 49, .inl (fun _ => 0))), (x5, .inl (cI, 49, .inl (fun _ => 0))), (x6, .inl (cI, 49, .inl (fun _ => 0))), (x7, .inl (cI, 3, .inl (fun _ => 0))), (x8, .inl (cI, 4, .inl (fun _ => 0))), (x9, .inl (cI, 4, .inl (fun _ => 0)))]) := by simpa only [List.append_assoc, List.cons_append, List.nil_append] using hD
  refine lv_astore (nL := 17) (lv' := [(10, .ref x9), (9, .ref x8), (8, .ref x7), (7, .ref x6), (6, .ref x5), (5, .ref x4), (4, .ref x3), (3, .ref x2), (2, .ref x1), (1, .ref h0), (0, .ref b)]) hx hb dL_law_54 hl (by decide) rfl (fun ls hl => ?_)
  refine lv_bipush (v := 32) hx hb dL_law_56 (by decide) ?_
  refine kv_newi E1 hP hD hS hA (N' := 32) (by decide) (by decide) (by decide) (Nat.le_of_ble_eq_true rfl) (Nat.le_of_ble_eq_true rfl) dL_law_58 (fun x10 H hP hD hS => ?_)
  have hP : va_P D vwCl (kObj cI cJ cF h0 a0 a1 fi od hi bb ++ [(x1, .inl (cI, 4, .inl (fun _ => 0))), (x2, .inl (cI, 8, .inl (fun _ => 0))), (x3, .inl (cI, 8, .inl (fun _ => 0))), (x4, .inl (cI, 49, .inl (fun _ => 0))), (x5, .inl (cI, 49, .inl (fun _ => 0))), (x6, .inl (cI, 49, .inl (fun _ => 0))), (x7, .inl (cI, 3, .inl (fun _ => 0))), (x8, .inl (cI, 4, .inl (fun _ => 0))), (x9, .inl (cI, 4, .inl (fun _ => 0))), (x10, .inl (cI, 32, .inl (fun _ => 0)))]) H := by simpa only [List.append_assoc, List.cons_append, List.nil_append] using hP
  have hD : va_D (fun q : Nat => s.heap.size ≤ q) (kObj cI cJ cF h0 a0 a1 fi od hi bb ++ [(x1, .inl (cI, 4, .inl (fun _ => 0))), (x2, .inl (cI, 8, .inl (fun _ => 0))), (x3, .inl (cI, 8, .inl (fun _ => 0))), (x4, .inl (cI, 49, .inl (fun _ => 0))), (x5, .inl (cI, 49, .inl (fun _ => 0))), (x6, .inl (cI, 49, .inl (fun _ => 0))), (x7, .inl (cI, 3, .inl (fun _ => 0))), (x8, .inl (cI, 4, .inl (fun _ => 0))), (x9, .inl (cI, 4, .inl (fun _ => 0))), (x10, .inl (cI, 32, .inl (fun _ => 0)))]) := by simpa only [List.append_assoc, List.cons_append, List.nil_append] using hD
  refine lv_astore (nL := 17) (lv' := [(11, .ref x10), (10, .ref x9), (9, .ref x8), (8, .ref x7), (7, .ref x6), (6, .ref x5), (5, .ref x4), (4, .ref x3), (3, .ref x2), (2, .ref x1), (1, .ref h0), (0, .ref b)]) hx hb dL_law_60 hl (by decide) rfl (fun ls hl => ?_)
  refine lv_bipush (v := 32) hx hb dL_law_62 (by decide) ?_
  refine kv_newj E1 hP hD hS hA (N' := 32) (by decide) (by decide) (by decide) (Nat.le_of_ble_eq_true rfl) (Nat.le_of_ble_eq_true rfl) dL_law_64 (fun x11 H hP hD hS => ?_)
  have hP : va_P D vwCl (kObj cI cJ cF h0 a0 a1 fi od hi bb ++ [(x1, .inl (cI, 4, .inl (fun _ => 0))), (x2, .inl (cI, 8, .inl (fun _ => 0))), (x3, .inl (cI, 8, .inl (fun _ => 0))), (x4, .inl (cI, 49, .inl (fun _ => 0))), (x5, .inl (cI, 49, .inl (fun _ => 0))), (x6, .inl (cI, 49, .inl (fun _ => 0))), (x7, .inl (cI, 3, .inl (fun _ => 0))), (x8, .inl (cI, 4, .inl (fun _ => 0))), (x9, .inl (cI, 4, .inl (fun _ => 0))), (x10, .inl (cI, 32, .inl (fun _ => 0))), (x11, .inl (cJ, 32, .inr (.inl (fun _ => 0))))]) H := by simpa only [List.append_assoc, List.cons_append, List.nil_append] using hP
  have hD : va_D (fun q : Nat => s.heap.size ≤ q) (kObj cI cJ cF h0 a0 a1 fi od hi bb ++ [(x1, .inl (cI, 4, .inl (fun _ => 0))), (x2, .inl (cI, 8, .inl (fun _ => 0))), (x3, .inl (cI, 8, .inl (fun _ => 0))), (x4, .inl (cI, 49, .inl (fun _ => 0))), (x5, .inl (cI, 49, .inl (fun _ => 0))), (x6, .inl (cI, 49, .inl (fun _ => 0))), (x7, .inl (cI, 3, .inl (fun _ => 0))), (x8, .inl (cI, 4, .inl (fun _ => 0))), (x9, .inl (cI, 4, .inl (fun _ => 0))), (x10, .inl (cI, 32, .inl (fun _ => 0))), (x11, .inl (cJ, 32, .inr (.inl (fun _ => 0))))]) := by simpa only [List.append_assoc, List.cons_append, List.nil_append] using hD
  refine lv_astore (nL := 17) (lv' := [(12, .ref x11), (11, .ref x10), (10, .ref x9), (9, .ref x8), (8, .ref x7), (7, .ref x6), (6, .ref x5), (5, .ref x4), (4, .ref x3), (3, .ref x2), (2, .ref x1), (1, .ref h0), (0, .ref b)]) hx hb dL_law_66 hl (by decide) rfl (fun ls hl => ?_)
  refine lv_aload_n hx hb dL_law_68 rfl (lv_at hl 10 rfl) ?_
  refine lv_iconst (v := 1) hx hb dL_law_69 (by decide) ?_
  refine lv_bipush (v := 20) hx hb dL_law_70 (by decide) ?_
  refine va_iast hx hb hK hP hD hS 101 0 rfl rfl (by unfold vp_in; decide) dL_law_72 (fun H locs hP hD hS => ?_)
  have hP : va_P D vwCl (kObj cI cJ cF h0 a0 a1 fi od hi bb ++ [(x1, .inl (cI, 4, .inl (upd (fun _ => 0) (Int32.toNatClampNeg 1) 20))), (x2, .inl (cI, 8, .inl (fun _ => 0))), (x3, .inl (cI, 8, .inl (fun _ => 0))), (x4, .inl (cI, 49, .inl (fun _ => 0))), (x5, .inl (cI, 49, .inl (fun _ => 0))), (x6, .inl (cI, 49, .inl (fun _ => 0))), (x7, .inl (cI, 3, .inl (fun _ => 0))), (x8, .inl (cI, 4, .inl (fun _ => 0))), (x9, .inl (cI, 4, .inl (fun _ => 0))), (x10, .inl (cI, 32, .inl (fun _ => 0))), (x11, .inl (cJ, 32, .inr (.inl (fun _ => 0))))]) H := hP
  have hD : va_D (fun q : Nat => s.heap.size ≤ q) (kObj cI cJ cF h0 a0 a1 fi od hi bb ++ [(x1, .inl (cI, 4, .inl (upd (fun _ => 0) (Int32.toNatClampNeg 1) 20))), (x2, .inl (cI, 8, .inl (fun _ => 0))), (x3, .inl (cI, 8, .inl (fun _ => 0))), (x4, .inl (cI, 49, .inl (fun _ => 0))), (x5, .inl (cI, 49, .inl (fun _ => 0))), (x6, .inl (cI, 49, .inl (fun _ => 0))), (x7, .inl (cI, 3, .inl (fun _ => 0))), (x8, .inl (cI, 4, .inl (fun _ => 0))), (x9, .inl (cI, 4, .inl (fun _ => 0))), (x10, .inl (cI, 32, .inl (fun _ => 0))), (x11, .inl (cJ, 32, .inr (.inl (fun _ => 0))))]) := hD
  refine lv_aload_n hx hb dL_law_73 rfl (lv_at hl 10 rfl) ?_
  refine lv_iconst (v := 2) hx hb dL_law_74 (by decide) ?_
  refine lv_iconst (v := 1) hx hb dL_law_75 (by decide) ?_
  refine va_iast hx hb hK hP hD hS 101 0 rfl rfl (by unfold vp_in; decide) dL_law_76 (fun H locs hP hD hS => ?_)
  have hP : va_P D vwCl (kObj cI cJ cF h0 a0 a1 fi od hi bb ++ [(x1, .inl (cI, 4, .inl (upd (upd (fun _ => 0) (Int32.toNatClampNeg 1) 20) (Int32.toNatClampNeg 2) 1))), (x2, .inl (cI, 8, .inl (fun _ => 0))), (x3, .inl (cI, 8, .inl (fun _ => 0))), (x4, .inl (cI, 49, .inl (fun _ => 0))), (x5, .inl (cI, 49, .inl (fun _ => 0))), (x6, .inl (cI, 49, .inl (fun _ => 0))), (x7, .inl (cI, 3, .inl (fun _ => 0))), (x8, .inl (cI, 4, .inl (fun _ => 0))), (x9, .inl (cI, 4, .inl (fun _ => 0))), (x10, .inl (cI, 32, .inl (fun _ => 0))), (x11, .inl (cJ, 32, .inr (.inl (fun _ => 0))))]) H := hP
  have hD : va_D (fun q : Nat => s.heap.size ≤ q) (kObj cI cJ cF h0 a0 a1 fi od hi bb ++ [(x1, .inl (cI, 4, .inl (upd (upd (fun _ => 0) (Int32.toNatClampNeg 1) 20) (Int32.toNatClampNeg 2) 1))), (x2, .inl (cI, 8, .inl (fun _ => 0))), (x3, .inl (cI, 8, .inl (fun _ => 0))), (x4, .inl (cI, 49, .inl (fun _ => 0))), (x5, .inl (cI, 49, .inl (fun _ => 0))), (x6, .inl (cI, 49, .inl (fun _ => 0))), (x7, .inl (cI, 3, .inl (fun _ => 0))), (x8, .inl (cI, 4, .inl (fun _ => 0))), (x9, .inl (cI, 4, .inl (fun _ => 0))), (x10, .inl (cI, 32, .inl (fun _ => 0))), (x11, .inl (cJ, 32, .inr (.inl (fun _ => 0))))]) := hD
  have hP : va_P D vwCl (kAll cI cJ cF h0 a0 a1 fi od hi bb (fun i => match i with | 1 => x1 | 2 => x2 | 3 => x3 | 4 => x4 | 5 => x5 | 6 => x6 | 7 => x7 | 8 => x8 | 9 => x9 | 10 => x10 | _ => x11)) H := hP
  have hD : va_D (fun q : Nat => s.heap.size ≤ q) (kAll cI cJ cF h0 a0 a1 fi od hi bb (fun i => match i with | 1 => x1 | 2 => x2 | 3 => x3 | 4 => x4 | 5 => x5 | 6 => x6 | 7 => x7 | 8 => x8 | 9 => x9 | 10 => x10 | _ => x11)) := hD
  have hinj := kAll_inj hD
  have hh : hH D (kAd h0 s.heap.size a0 a1 fi od hi bb (fun i => match i with | 1 => x1 | 2 => x2 | 3 => x3 | 4 => x4 | 5 => x5 | 6 => x6 | 7 => x7 | 8 => x8 | 9 => x9 | 10 => x10 | _ => x11)) cI cJ cF kS0 s H locs := ⟨kAll_P hP, kS0_R, hS⟩
  have E : hE D (kAd h0 s.heap.size a0 a1 fi od hi bb (fun i => match i with | 1 => x1 | 2 => x2 | 3 => x3 | 4 => x4 | 5 => x5 | 6 => x6 | 7 => x7 | 8 => x8 | 9 => x9 | 10 => x10 | _ => x11)) cI cJ cF p s m #[Value.ref b] meth c "HintedStemsLaw" code 17 ret := ⟨hx, hb, hml, hown, htw, hK, hN, hinj, hr, hlk, Nat.le_refl _⟩
  have hl : lv_has ls 17 [(12, .ref ((kAd h0 s.heap.size a0 a1 fi od hi bb (fun i => match i with | 1 => x1 | 2 => x2 | 3 => x3 | 4 => x4 | 5 => x5 | 6 => x6 | 7 => x7 | 8 => x8 | 9 => x9 | 10 => x10 | _ => x11)) 10 11)), (11, .ref ((kAd h0 s.heap.size a0 a1 fi od hi bb (fun i => match i with | 1 => x1 | 2 => x2 | 3 => x3 | 4 => x4 | 5 => x5 | 6 => x6 | 7 => x7 | 8 => x8 | 9 => x9 | 10 => x10 | _ => x11)) 10 10)), (10, .ref ((kAd h0 s.heap.size a0 a1 fi od hi bb (fun i => match i with | 1 => x1 | 2 => x2 | 3 => x3 | 4 => x4 | 5 => x5 | 6 => x6 | 7 => x7 | 8 => x8 | 9 => x9 | 10 => x10 | _ => x11)) 10 9)), (9, .ref ((kAd h0 s.heap.size a0 a1 fi od hi bb (fun i => match i with | 1 => x1 | 2 => x2 | 3 => x3 | 4 => x4 | 5 => x5 | 6 => x6 | 7 => x7 | 8 => x8 | 9 => x9 | 10 => x10 | _ => x11)) 10 8)), (8, .ref ((kAd h0 s.heap.size a0 a1 fi od hi bb (fun i => match i with | 1 => x1 | 2 => x2 | 3 => x3 | 4 => x4 | 5 => x5 | 6 => x6 | 7 => x7 | 8 => x8 | 9 => x9 | 10 => x10 | _ => x11)) 10 7)), (7, .ref ((kAd h0 s.heap.size a0 a1 fi od hi bb (fun i => match i with | 1 => x1 | 2 => x2 | 3 => x3 | 4 => x4 | 5 => x5 | 6 => x6 | 7 => x7 | 8 => x8 | 9 => x9 | 10 => x10 | _ => x11)) 10 6)), (6, .ref ((kAd h0 s.heap.size a0 a1 fi od hi bb (fun i => match i with | 1 => x1 | 2 => x2 | 3 => x3 | 4 => x4 | 5 => x5 | 6 => x6 | 7 => x7 | 8 => x8 | 9 => x9 | 10 => x10 | _ => x11)) 10 5)), (5, .ref ((kAd h0 s.heap.size a0 a1 fi od hi bb (fun i => match i with | 1 => x1 | 2 => x2 | 3 => x3 | 4 => x4 | 5 => x5 | 6 => x6 | 7 => x7 | 8 => x8 | 9 => x9 | 10 => x10 | _ => x11)) 10 4)), (4, .ref ((kAd h0 s.heap.size a0 a1 fi od hi bb (fun i => match i with | 1 => x1 | 2 => x2 | 3 => x3 | 4 => x4 | 5 => x5 | 6 => x6 | 7 => x7 | 8 => x8 | 9 => x9 | 10 => x10 | _ => x11)) 10 3)), (3, .ref ((kAd h0 s.heap.size a0 a1 fi od hi bb (fun i => match i with | 1 => x1 | 2 => x2 | 3 => x3 | 4 => x4 | 5 => x5 | 6 => x6 | 7 => x7 | 8 => x8 | 9 => x9 | 10 => x10 | _ => x11)) 10 2)), (2, .ref ((kAd h0 s.heap.size a0 a1 fi od hi bb (fun i => match i with | 1 => x1 | 2 => x2 | 3 => x3 | 4 => x4 | 5 => x5 | 6 => x6 | 7 => x7 | 8 => x8 | 9 => x9 | 10 => x10 | _ => x11)) 10 1)), (1, .ref ((kAd h0 s.heap.size a0 a1 fi od hi bb (fun i => match i with | 1 => x1 | 2 => x2 | 3 => x3 | 4 => x4 | 5 => x5 | 6 => x6 | 7 => x7 | 8 => x8 | 9 => x9 | 10 => x10 | _ => x11)) 11 0)), (0, .ref b)] := hl
  have hf : (kAd h0 s.heap.size a0 a1 fi od hi bb (fun i => match i with | 1 => x1 | 2 => x2 | 3 => x3 | 4 => x4 | 5 => x5 | 6 => x6 | 7 => x7 | 8 => x8 | 9 => x9 | 10 => x10 | _ => x11)) 99 1 = 0 := rfl
  have hA1 : ∀ q, hAd (kAd h0 s.heap.size a0 a1 fi od hi bb (fun i => match i with | 1 => x1 | 2 => x2 | 3 => x3 | 4 => x4 | 5 => x5 | 6 => x6 | 7 => x7 | 8 => x8 | 9 => x9 | 10 => x10 | _ => x11)) q → s.heap.size ≤ q := fun q h => h
  have hbA : ¬ hAd (kAd h0 s.heap.size a0 a1 fi od hi bb (fun i => match i with | 1 => x1 | 2 => x2 | 3 => x3 | 4 => x4 | 5 => x5 | 6 => x6 | 7 => x7 | 8 => x8 | 9 => x9 | 10 => x10 | _ => x11)) b := fun z => absurd (hA1 b z) (Nat.not_le.mpr hbl)
  generalize (kAd h0 s.heap.size a0 a1 fi od hi bb (fun i => match i with | 1 => x1 | 2 => x2 | 3 => x3 | 4 => x4 | 5 => x5 | 6 => x6 | 7 => x7 | 8 => x8 | 9 => x9 | 10 => x10 | _ => x11)) = ad at hinj hh E hl hf hA1 hbA
  have hv := kS0_Lp
  refine W.widen (k := 1000) (n := 8 * 1000) (Nat.le_of_ble_eq_true rfl) (Nat.le_of_ble_eq_true rfl) ?_
  refine lv_aload_n hx hb dL_law_77 rfl (lv_at hl 11 rfl) ?_
  refine iv_iconst hx hb dL_law_78 ?_
  refine iv_ki (iv_rV (As := [.int (hI 0)]) (rest := []) E hh (ok_X5_count l hinj kS0 0 ⟨by decide, by decide⟩ (ct_p hv.1 0)) cb_X5_count q1_229 rfl rfl ⟨Nat.le_of_ble_eq_true rfl, Nat.le_of_ble_eq_true rfl⟩ (ob_X) rfl rfl rfl hl.1 rfl (Nat.le_of_ble_eq_true rfl) dL_law_79 (rmK (by decide))) hh (fun hc H locs hh => ?_)
  rw [ct_same (w := 0) (by decide)] at hh
  refine iv_if_ne (tgt := 89) hx hb hc dL_law_82 (by decide) (fun c1 => absurd (show v_X5_count kS0 0 = 0 from rfl) c1) (fun _ => ?_)
  refine iv_iconst hx hb dL_law_85 ?_
  refine lv_goto (tgt := 90) hx hb dL_law_86 (by decide) ?_
  refine lv_istore (lv' := [(13, .int (hI 1)), (12, .ref (ad 10 11)), (11, .ref (ad 10 10)), (10, .ref (ad 10 9)), (9, .ref (ad 10 8)), (8, .ref (ad 10 7)), (7, .ref (ad 10 6)), (6, .ref (ad 10 5)), (5, .ref (ad 10 4)), (4, .ref (ad 10 3)), (3, .ref (ad 10 2)), (2, .ref (ad 10 1)), (1, .ref (ad 11 0)), (0, .ref b)]) hx hb dL_law_90 hl (by decide) rfl (fun ls hl => ?_)
  refine iv_iconst hx hb dL_law_92 ?_
  refine lv_istore (lv' := [(14, .int (hI 0)), (13, .int (hI 1)), (12, .ref (ad 10 11)), (11, .ref (ad 10 10)), (10, .ref (ad 10 9)), (9, .ref (ad 10 8)), (8, .ref (ad 10 7)), (7, .ref (ad 10 6)), (6, .ref (ad 10 5)), (5, .ref (ad 10 4)), (4, .ref (ad 10 3)), (3, .ref (ad 10 2)), (2, .ref (ad 10 1)), (1, .ref (ad 11 0)), (0, .ref b)]) hx hb dL_law_93 hl (by decide) rfl (fun ls hl => ?_)
  refine law_first (xs := xs) (L := L) (b := b) ⟨E, hX, hbl, hbA, hL, hf⟩ (fun K hK5 H locs ls hS1 => ?_) 8 0 kS0 1000 H locs ls (by decide) (by decide) (by decide) hv hh hl
  refine va_forget (fun q hq => hA1 _ (hS1.2.2 q hq)) ?_
  refine W.widen (k := 600000) (n := 7302250) (by omega) (by omega) ?_
  rw [show hI 1 = (1 : Int32) by decide]
  exact lw_ret hx hb hr hlk dL_law_433
-- ===== YOUR PART ENDS =====
set_option maxHeartbeats 4000000 in
theorem lw_walk (l : Launch) (hflags : l.flags = flags0) (b : Addr) (xs : List Int32) : MetFree l x (headSpec (Jvm.Cond.code x code maxLocals ret :: tables_1) room_1) (lw_P b xs) (fun _ _ _ _ _ => True) lw_Q := by
  refine MetFree.of_bodyS (code := code) (maxLocals := maxLocals) (ret := ret) (by decide) ?_ ?_
  · intro args s m h hn
    obtain ⟨meth, c, h1, h2, h3, h4, h5, h6, -, -⟩ := Cond.code_spec hn (atoms_spec (ws := Jvm.Cond.code x code maxLocals ret :: tables_1) h _ List.mem_cons_self)
    exact ⟨meth, c, h1, h2, h3, h4, h5, h6⟩
  · intro p e s m args below meth c s₁ B hml0 hP _
    obtain ⟨rfl, hx, hbd, hgv⟩ := hP
    obtain ⟨scr, harrAt, hlist, hof, hsmall⟩ := hx
    obtain ⟨hcb, hkn, -, -⟩ := State.arrayAt?_spec harrAt
    have hown : s.vm.findClass R_law = some m.cls := findClass_of_methodNamed B.named
    have hts0 : ∀ c ∈ (Jvm.Cond.code x code maxLocals ret :: tables_1), c.before #[Value.ref b] s = true := atoms_spec (ws := Jvm.Cond.code x code maxLocals ret :: tables_1) B.pre
    have hts : ∀ w ∈ lw_tbl, w.before #[Value.ref b] s = true := k2_hts_sels lw_privs (fun w hw => hts0 w (List.mem_cons_of_mem _ hw)) lw_privs_ok
    have hml : c.maxLocals = 17 := B.maxLocals_eq (hts0 _ List.mem_cons_self)
    have X₀ : Stand p l e room_1 s m #[Value.ref b] below meth c s₁ [] 0 0 := Stand.of_body B
    have hh0 : s₁.heap = s.heap := by rw [B.state]; rfl
    have hsz : scr.slots.size = xs.length := by rw [← Array.length_toList, hlist, List.length_map]
    have hval : ∀ j : Nat, j < xs.length → scr.slots[j]? = some (.int (xs.getD j 0)) := fun j hj => by
      rw [← Array.getElem?_toList, hlist]
      simp [hj]
    have hbl : b < s.heap.size := (Array.getElem?_eq_some_iff.mp hcb).1
    have hX : va_X b xs.length (fun j => xs.getD j 0) s s.heap := ⟨scr, hcb, hof, hkn, hsz, hval⟩
    have K : W p l e room_1 s m #[Value.ref b] below meth c s₁.heap [] 0 0 (lw_Z below #[Value.ref b] s) (entryFrame m ([Value.ref b] : List Value).toArray 17) := by
      rw [hh0]
      exact whole_start l hflags hbd ⟨B.exec, B.bytes, B.returns, hml, hown, hts, hX, hbl, B.notSynchronized, hgv⟩
    obtain ⟨t, a1, o, b1, b2, b3⟩ := K s₁ rfl X₀
    exact ⟨t, o, a1, b1, b2, b3⟩
theorem lw_pre_spec {args : Array Value} {s : State} (h : (Jvm.Cond.and given_1 narrow_1).before args s = true) (hr : rest_1_c.before args s = true) : ∃ (b : Addr) (xs : List Int32), lw_P b xs args s := by
  have hs := flat_of_before _ h
  have hq := flat_of_before _ hr
  have hc : (Cond.count 1).before args s = true := hs _ (by decide +kernel)
  have harr : (Cond.arrayOf (.arg 0) .int).before args s = true := hs _ (by decide +kernel)
  have hle : (Cond.le (.length (.arg 0)) (.int 260)).before args s = true := hs _ (by decide +kernel)
  have hlen : (Cond.isInt (.length (.arg 0))).before args s = true := hq _ (by decide +kernel)
  have hall : (Cond.all (.arg 0) (.isInt (.elem (.arg 0) (.index 0)))).before args s = true := hq _ (by decide +kernel)
  obtain ⟨b, xs, hb, hx⟩ := State.ints_of_pre rfl harr hlen hall
  have hsm : xs.length < 2 ^ 31 := hx.choose_spec.2.2.2
  have hev : (Term.length (.arg 0)).eval args s none [] s = some (.int xs.length.toInt32) := hx.length_eval hb
  have hv := Cond.le_ints hev (show (Term.int 260).eval args s none [] s = some (.int 260) from rfl)
  have hd : xs.length.toInt32 ≤ 260 := by
    simpa [Cond.before, Cond.holds, hv] using hle
  have hN : xs.length ≤ 260 := (Int32.ofNat_le_ofNat hsm (by decide)).mp (show Int32.ofNat xs.length ≤ Int32.ofNat 260 from hd)
  exact ⟨b, xs, Cond.one_arg hc (show args[0]? = some (.ref b) from hb), hx, hN, h⟩
theorem lw_comes (l : Launch) (hflags : l.flags = flags0) : Comes l x (Jvm.Cond.code x code maxLocals ret :: tables_1) room_1 (fun tb e args s => Calls_1 tb e args s ∧ rest_1 tb e args s ∧ Pre_1 tb e args s)
    (fun _ _ args s o t => lw_Q args s o t) := by
  intro p e ha hc hk s m args below hf hfit hheap happ hpre
  obtain ⟨b, xs, hP⟩ := lw_pre_spec hpre.2.2 hpre.2.1
  obtain ⟨k, o, h1, h2, h3, hQ⟩ := lw_walk l hflags b xs p e ha hc hk s m args below hf ((Spec.applies_iff_loose hf).mp happ).1 hP trivial
  exact ⟨k, o, h1, h2, h3, hQ⟩
theorem lw_frame {s t : State} {o : Outcome} {args : Array Value} (h : Framed s o t [] 600000 7302250) :
    Framed s o t (fieldLocs frame_1_writes args s ++ arrayLocs frame_1_arrays args s ++ staticLocs frame_1_statics s) 600000 7302250 := h
theorem lw_limb (L : Cond) (hL : ∀ (args : Array Value) (s t : State), L.after args s (.returned (some (.int 1))) t = true) :
    ArmFor flags0 classFile x code maxLocals ret World_1 tables_1 room_1 Calls_1 rest_1 Pre_1
      (fun tb e a s o t => postC L tb e a s o t ∧ Framed s o t (fieldLocs frame_1_writes a s ++ arrayLocs frame_1_arrays a s ++ staticLocs frame_1_statics s) 600000 7302250) := by
  intro l hflags _ _ p e ha hc hk s m args below hf hfit hheap happ hpre
  obtain ⟨k, o, h1, h2, h3, rfl, hF⟩ := lw_comes l hflags p e ha hc hk s m args below hf hfit hheap happ hpre
  exact ⟨k, _, h1, h2, h3, hL args s _, lw_frame hF⟩
theorem i_vc : Claimed_1_1 ∧ Claimed_1_2 := ⟨lw_limb limb_1_1 (fun args s t => by simp [limb_1_1, Cond.after, Cond.holds, Cond.value]), lw_limb limb_1_2 (fun args s t => Cond.after_iff.mpr (by
  first | (rw [show limb_1_2 = Cond.eq .result (.int 1) from rfl, Cond.eq_ints (x := 1) (y := 1) rfl rfl]; simp; done) | (simp [limb_1_2, Cond.value, Term.eval]; done)))⟩

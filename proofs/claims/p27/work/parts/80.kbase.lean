/-! constructors: rows over worlds that grow at their end -/
section
variable {D : va_G} {cl : List vw_C} {A0 : Nat → Prop} {wr wc w1 : va_W} {H H1 H0 : Heap} {locs : List Loc}
theorem kright (h : va_P D cl (wr ++ wc) H) : va_P D cl wc H := fun k q hk => h (wr.length + k) q (by rw [List.getElem?_append_right (by omega), Nat.add_sub_cancel_left]; exact hk)
theorem kleft (h : va_P D cl (wr ++ wc) H) : va_P D cl wr H := fun k q hk => h k q (by rw [List.getElem?_append_left (List.getElem?_eq_some_iff.mp hk).1]; exact hk)
theorem krightD (h : va_D A0 (wr ++ wc)) : va_D A0 wc := by
  have e : ∀ (k : Nat) (q : Nat × va_E), wc[k]? = some q → (wr ++ wc)[wr.length + k]? = some q := fun k q hk => by rw [List.getElem?_append_right (by omega), Nat.add_sub_cancel_left]; exact hk
  refine ⟨fun i j p q hi hj hpq => ?_, fun k q hk => h.2 _ q (e k q hk)⟩
  have := h.1 _ _ p q (e i p hi) (e j q hj) hpq
  omega
theorem kleftD (h : va_D A0 (wr ++ wc)) : va_D A0 wr := by
  have e : ∀ (k : Nat) (q : Nat × va_E), wr[k]? = some q → (wr ++ wc)[k]? = some q := fun k q hk => by rw [List.getElem?_append_left (List.getElem?_eq_some_iff.mp hk).1]; exact hk
  exact ⟨fun i j p q hi hj hpq => h.1 _ _ p q (e i p hi) (e j q hj) hpq, fun k q hk => h.2 _ q (e k q hk)⟩
theorem kfree (hD : va_D A0 (wr ++ wc)) (hS : va_S A0 H0 H locs) (hA : ∀ q, H0.size ≤ q → A0 q) : ∀ q, va_A wc H.size q → A0 q := by
  intro q h
  rcases h with ⟨k, e, h⟩ | h
  · exact (krightD hD).2 k _ h
  · exact hA q (Nat.le_trans hS.1 h)
theorem kjoin (hP : va_P D cl (wr ++ wc) H) (hD : va_D A0 (wr ++ wc)) (hk : ∀ q : Nat, q < H.size → ¬ va_A wc H.size q → H1[q]? = H[q]?) (hF : ∀ q, va_A wc H.size q → A0 q) (hP1 : va_P D cl w1 H1) (hD1 : va_D (va_A wc H.size) w1) : va_P D cl (wr ++ w1) H1 ∧ va_D A0 (wr ++ w1) := by
  have apart : ∀ (k : Nat) (q : Nat × va_E), wr[k]? = some q → q.1 < H.size ∧ ¬ va_A wc H.size q.1 := by
    intro k q hq
    have hlk := (List.getElem?_eq_some_iff.mp hq).1
    have e1 : (wr ++ wc)[k]? = some q := by rw [List.getElem?_append_left hlk]; exact hq
    have hl := (hP k q e1).lt
    refine ⟨hl, fun h => ?_⟩
    rcases h with ⟨k2, e, h⟩ | h
    · have e2 : (wr ++ wc)[wr.length + k2]? = some (q.1, e) := by rw [List.getElem?_append_right (by omega), Nat.add_sub_cancel_left]; exact h
      have := hD.1 k (wr.length + k2) q (q.1, e) e1 e2 rfl
      omega
    · omega
  refine ⟨va_P.app (fun k q hq => ?_) hP1, va_D.app (kleftD hD) (hD1.weaken (fun k q _ h => hF q.1 h)) (fun i j x y hx hy hxy => ?_)⟩
  · obtain ⟨g1, g2⟩ := apart k q hq
    exact (kleft hP k q hq).kept (hk q.1 g1 g2)
  · exact (apart i x hx).2 (by rw [hxy]; exact hD1.2 j y hy)
end
section
variable (D : va_G) (cI cJ cF : ClassId)
def kPre (ws0 : va_W) (sz : Nat) (U : State) : Prop := U.heap.size = sz ∧ va_P D vwCl ws0 U.heap ∧ va_K D vwCl (hTys cI cJ cF) U ∧ hNW U ∧ va_AO "HintedStems$Font" U ∧ va_D (fun _ => True) ws0
def kMet (l : Launch) (y : MethodName) (bytes : ByteArray) (nL : Nat) (rm : Room) (ci : Nat) (fs : List Value) (mc ms : Nat) (B : Nat → va_W → Prop) : Prop := ∀ (h0 sz : Nat), Met l y (.code y bytes nL none :: hWall) rm (va_Pc [.ref h0] (kPre D cI cJ cF [(h0, .inr (ci, fs))] sz))
  (va_Qv (fun _ : Unit => True) (fun _ t => ∃ w1 : va_W, B h0 w1 ∧ va_P D vwCl w1 t.heap ∧ va_D (va_A [(h0, .inr (ci, fs))] sz) w1) (va_A [(h0, .inr (ci, fs))] sz)) mc ms (va_A [(h0, .inr (ci, fs))] sz)
/-- what stands at a constructor's place -/
def kE (p : Program) (s : State) (m : MethodId) (args : Array Value) (meth : Method) (c : Code) (own : String) (cc : ByteArray) (nL : Nat) : Prop :=
  p.tables.exec = Jvm.exec ∧ c.code = cc ∧ c.maxLocals = nL ∧ s.vm.findClass own = some m.cls ∧ (∀ w ∈ hWall, w.before args s = true) ∧ va_K D vwCl (hTys cI cJ cF) s ∧ hNW s ∧ va_AO "HintedStems$Font" s
end
section
variable {D : va_G} {cI cJ cF : ClassId}
theorem kPre_blind {ws0 : va_W} {sz : Nat} {vs : List Value} : FrameBlind (va_Pc vs (kPre D cI cJ cF ws0 sz)) := fun a U g mk q => by
  obtain ⟨q0, q1, qP, qK, qN, qO, qD⟩ := q
  exact ⟨q0, q1, qP, va_K.moved (u := U) (U := U.calling g mk a) (Vm.Alike.refl U.vm) qK, hNW_same (u := U) (U := U.calling g mk a) rfl qN, va_AO.moved (u := U) (U := U.calling g mk a) (Vm.Alike.refl U.vm) qO, qD⟩
variable {p : Program} {l : Launch} {e : Env} {R : Room} {s : State} {m : MethodId} {args : Array Value} {below : List Frame} {meth : Method} {c : Code} {H : Heap} {locs : List Loc} {cells slots : Nat} {Q : State → Prop}
variable {cc : ByteArray} {pc nL : Nat} {ls : Array Slot} {rest : List Value} {own : String} {A : Nat → Prop} {H0 : Heap} {ws tail : va_W}
theorem kv_newi (E : kE D cI cJ cF p s m args meth c own cc nL) (hP : va_P D vwCl ws H) (hD : va_D A ws) (hS : va_S A H0 H locs) (hA : ∀ q, H0.size ≤ q → A q) {n : Int32} {N' : Nat} (hn : ¬ n < 0) (hN : n.toNatClampNeg = N') (hbytes : N' * 4 ≤ 536870912) (hcells : cells + 1 ≤ R.cells) (hslots : slots + N' ≤ R.slots) (hdg : decode cc pc = .ok (.newarray .int, 2))
    (kk : ∀ (q : Nat) (H1 : Heap), va_P D vwCl (ws ++ [(q, .inl (cI, N', .inl (fun _ => 0)))]) H1 → va_D A (ws ++ [(q, .inl (cI, N', .inl (fun _ => 0)))]) → va_S A H0 H1 locs → W p l e R s m args below meth c H1 locs (cells + 1) (slots + N') Q (F0 m (pc + 2) ls (.ref q :: rest))) : W p l e R s m args below meth c H locs cells slots Q (F0 m pc ls (.int n :: rest)) := by
  obtain ⟨hx, hb, hml, hown, hts, hK, hNw, hO⟩ := E
  refine va_newa (atype := .int) (ty := .int) (a0 := (N', .inl (fun _ => 0))) hx hb (hts _ q1_55) rfl hK hP hD hS hA (fun cA => rfl) hn hN hbytes hcells hslots hdg (fun q cA H1 hK1 hP1 hD1 hS1 => ?_)
  have e1 := (hK1.2 3 (cA, .int) rfl).2
  have e2 := (hK.2 0 (cI, .int) rfl).2
  have e : cA = cI := Option.some.inj (e1.symm.trans e2)
  subst e
  exact kk q H1 hP1 hD1 hS1
theorem kv_newj (E : kE D cI cJ cF p s m args meth c own cc nL) (hP : va_P D vwCl ws H) (hD : va_D A ws) (hS : va_S A H0 H locs) (hA : ∀ q, H0.size ≤ q → A q) {n : Int32} {N' : Nat} (hn : ¬ n < 0) (hN : n.toNatClampNeg = N') (hbytes : N' * 8 ≤ 536870912) (hcells : cells + 1 ≤ R.cells) (hslots : slots + N' ≤ R.slots) (hdg : decode cc pc = .ok (.newarray .long, 2))
    (kk : ∀ (q : Nat) (H1 : Heap), va_P D vwCl (ws ++ [(q, .inl (cJ, N', .inr (.inl (fun _ => 0))))]) H1 → va_D A (ws ++ [(q, .inl (cJ, N', .inr (.inl (fun _ => 0))))]) → va_S A H0 H1 locs → W p l e R s m args below meth c H1 locs (cells + 1) (slots + N') Q (F0 m (pc + 2) ls (.ref q :: rest))) : W p l e R s m args below meth c H locs cells slots Q (F0 m pc ls (.int n :: rest)) := by
  obtain ⟨hx, hb, hml, hown, hts, hK, hNw, hO⟩ := E
  refine va_newa (atype := .long) (ty := .long) (a0 := (N', .inr (.inl (fun _ => 0)))) hx hb (hts _ q1_56) rfl hK hP hD hS hA (fun cA => rfl) hn hN hbytes hcells hslots hdg (fun q cA H1 hK1 hP1 hD1 hS1 => ?_)
  have e1 := (hK1.2 3 (cA, .long) rfl).2
  have e2 := (hK.2 1 (cJ, .long) rfl).2
  have e : cA = cJ := Option.some.inj (e1.symm.trans e2)
  subst e
  exact kk q H1 hP1 hD1 hS1
/-- an object's classes' tables -/
def kTy (C : String) (T : u_T) (N ci : Nat) (ty0 : Nat → FieldType) : Prop := (∀ w ∈ u_ws C T N, w ∈ hWall) ∧ (∀ k, k < N → parseFieldDescriptor (T k).2.2.1 = some (ty0 k)) ∧ (∀ a, a < N → ∀ b, b < N → a ≠ b → (T a).2.1 ≠ (T b).2.1) ∧ vwCl[ci]? = some (C, T, N)
theorem kv_putF (E : kE D cI cJ cF p s m args meth c own cc nL) (hin : meth.name = "<init>") {C : String} {T : u_T} {N ci index h0 : Nat} {ty0 : Nat → FieldType} (hT : kTy C T N ci ty0) {fs : List Value} {v : Value} (hP : va_P D vwCl ((h0, .inr (ci, fs)) :: tail) H) (hD : va_D A ((h0, .inr (ci, fs)) :: tail)) (hS : va_S A H0 H locs) (k : Nat) (hk : k < N) (hl : Cond.fieldLink own index (T k).1 (T k).2.1 (T k).2.2.1 ∈ hWall) (hfin : (T k).2.2.2 = true) (hdecl : (T k).1 = own) (hn : narrow (ty0 k) v = v) (hfit : fits (ty0 k) v = true) (hlen : k < fs.length) (hdg : decode cc pc = .ok (.putfield index, 3))
    (kk : ∀ (H1 : Heap) (locs1 : List Loc), va_P D vwCl ((h0, .inr (ci, fs.set k v)) :: tail) H1 → va_D A ((h0, .inr (ci, fs.set k v)) :: tail) → va_S A H0 H1 locs1 → W p l e R s m args below meth c H1 locs1 cells slots Q (F0 m (pc + 3) ls rest)) : W p l e R s m args below meth c H locs cells slots Q (F0 m pc ls (v :: .ref h0 :: rest)) := by
  obtain ⟨hx, hb, hml, hown, hts, hK, hNw, hO⟩ := E
  obtain ⟨t1, t2, t3, t4⟩ := hT
  exact va_putF (D := D) (C := C) (T := T) (N := N) hx hb hts t1 ty0 t2 t3 hown hK hP hD hS 0 rfl t4 k hk (hts _ hl) (fun _ h9 => h9) hfin hin hdecl (t2 k hk) hn hfit hlen hdg kk
theorem kv_put (E : kE D cI cJ cF p s m args meth c own cc nL) {C : String} {T : u_T} {N ci index h0 : Nat} {ty0 : Nat → FieldType} (hT : kTy C T N ci ty0) {fs : List Value} {v : Value} (hP : va_P D vwCl ((h0, .inr (ci, fs)) :: tail) H) (hD : va_D A ((h0, .inr (ci, fs)) :: tail)) (hS : va_S A H0 H locs) (k : Nat) (hk : k < N) (hl : Cond.fieldLink own index (T k).1 (T k).2.1 (T k).2.2.1 ∈ hWall) (hfin : (T k).2.2.2 = false) (hn : narrow (ty0 k) v = v) (hfit : fits (ty0 k) v = true) (hlen : k < fs.length) (hdg : decode cc pc = .ok (.putfield index, 3))
    (kk : ∀ (H1 : Heap) (locs1 : List Loc), va_P D vwCl ((h0, .inr (ci, fs.set k v)) :: tail) H1 → va_D A ((h0, .inr (ci, fs.set k v)) :: tail) → va_S A H0 H1 locs1 → W p l e R s m args below meth c H1 locs1 cells slots Q (F0 m (pc + 3) ls rest)) : W p l e R s m args below meth c H locs cells slots Q (F0 m pc ls (v :: .ref h0 :: rest)) := by
  obtain ⟨hx, hb, hml, hown, hts, hK, hNw, hO⟩ := E
  obtain ⟨t1, t2, t3, t4⟩ := hT
  exact va_put (D := D) (C := C) (T := T) (N := N) hx hb hts t1 ty0 t2 t3 hown hK hP hD hS 0 rfl t4 k hk (hts _ hl) (fun _ h9 => h9) hfin (t2 k hk) hn hfit hlen hdg kk
/-- new, dup, invokespecial of a nest mate's constructor -/
theorem kv_ctorN (E : kE D cI cJ cF p s m args meth c own cc nL) (hP : va_P D vwCl ws H) (hD : va_D A ws) (hS : va_S A H0 H locs) (hA : ∀ q, H0.size ≤ q → A q)
    {C host : String} {T : u_T} {N ci i1 i2 nL2 mc ms : Nat} {ty0 : Nat → FieldType} (hT : kTy C T N ci ty0) {y : MethodName} {b2 : ByteArray} {rm : Room} {fs : List Value} {B : Nat → va_W → Prop} (hM : kMet D cI cJ cF l y b2 nL2 rm ci fs mc ms B)
    (hcl : Cond.classLink own i1 C ∈ hWall) (hinst : Cond.instantiable C N ∈ hWall) (hini : Cond.initialized C ∈ hWall) (hy : y.cls = C ∧ y.name = "<init>" ∧ y.cls ≠ "java/lang/invoke/MethodHandle" ∧ y.cls ≠ "java/lang/invoke/VarHandle" ∧ (parseMethodDescriptor y.desc).map (fun d => d.parameters.length) = some 0)
    (hl1 : Cond.methodLinkNest own i2 y host ∈ hNestL) (him : Cond.instanceMethod y ∈ hWall) (hcode : Cond.code y b2 nL2 none ∈ hWall) (hfs : ∀ j, j < N → defaultValue (ty0 j) = vp_V fs j)
    (hrc : rm.cells = mc) (hrs : rm.slots = ms) (hR : rm.frames + 1 ≤ R.frames ∧ 8 + (nL2 + 11) + rm.locals ≤ R.locals) (hsz : ls.size = nL) (hw8 : ((Value.ref 0 :: rest).map fun v => v.category).sum ≤ 8) (hc1 : cells + 1 + mc ≤ R.cells) (hs1 : slots + N + ms ≤ R.slots)
    (d1 : decode cc pc = .ok (.new i1, 3)) (d2 : decode cc (pc + 3) = .ok (.dup, 1)) (d3 : decode cc (pc + 4) = .ok (.invokespecial i2, 3))
    (kk : ∀ (q : Nat) (w1 : va_W) (H1 : Heap) (locs1 : List Loc), B q w1 → va_P D vwCl (ws ++ w1) H1 → va_D A (ws ++ w1) → va_S A H0 H1 locs1 → W p l e R s m args below meth c H1 locs1 (cells + 1 + mc) (slots + N + ms) Q (F0 m (pc + 7) ls (.ref q :: rest))) : W p l e R s m args below meth c H locs cells slots Q (F0 m pc ls rest) := by
  obtain ⟨hx, hb, hml, hown, hts, hK, hNw, hO⟩ := E
  obtain ⟨t1, t2, t3, t4⟩ := hT
  obtain ⟨rfl, y1, y2, y3, y4⟩ := hy
  refine va_new (fs := fs) hx hb hts t1 ty0 t2 hown (hts _ hcl) (hts _ hinst) (hts _ hini) hK hP hD hS hA t4 hfs (by omega) (by omega) d1 (fun q H1 hP1 hD1 hS1 => ?_)
  refine lv_dup hx hb d2 rfl ?_
  have hPc := kright hP1
  have hDc := krightD hD1
  have hFc := kfree hD1 hS1 hA
  refine va_callv (va_runIN (As := []) (rest := .ref q :: rest) ⟨hx, hb, hml, hown, hts⟩ (hM q H1.size) ⟨va_cnB 0 hts (gi_of (gi_c hcode)) rfl hrc hrs (hNw _ hl1) (hts _ hini) ⟨y2, y3, y4⟩ hR, y1, hts _ him⟩ ⟨kPre_blind, fun U hU hW => ⟨rfl, by rw [hU], by rw [hU]; exact hPc, va_K.moved hW.alike hK, hNW_warm hW hNw, va_AO.moved hW.alike hO, hDc.weaken (fun _ _ _ _ => trivial)⟩⟩ rfl rfl hsz rfl (lv_room hw8) d3 ⟨hc1, hs1⟩) hS1 (fun q _ h => hFc q h) hFc (fun u t H2 locs2 ht hvm h5 hB hz1 hk1 hS2 => ?_)
  obtain ⟨w1, hB, hP2, hD2⟩ := hB
  rw [ht] at hP2
  obtain ⟨hP3, hD3⟩ := kjoin hP1 hD1 hk1 hFc hP2 hD2
  exact kk q w1 H2 locs2 hB hP3 hD3 hS2
/-- the same by a plain link -/
theorem kv_ctor (E : kE D cI cJ cF p s m args meth c own cc nL) (hP : va_P D vwCl ws H) (hD : va_D A ws) (hS : va_S A H0 H locs) (hA : ∀ q, H0.size ≤ q → A q)
    {C : String} {T : u_T} {N ci i1 i2 nL2 mc ms : Nat} {ty0 : Nat → FieldType} (hT : kTy C T N ci ty0) {y : MethodName} {b2 : ByteArray} {rm : Room} {fs : List Value} {B : Nat → va_W → Prop} (hM : kMet D cI cJ cF l y b2 nL2 rm ci fs mc ms B)
    (hcl : Cond.classLink own i1 C ∈ hWall) (hinst : Cond.instantiable C N ∈ hWall) (hini : Cond.initialized C ∈ hWall) (hy : y.cls = C ∧ y.name = "<init>" ∧ y.cls ≠ "java/lang/invoke/MethodHandle" ∧ y.cls ≠ "java/lang/invoke/VarHandle" ∧ (parseMethodDescriptor y.desc).map (fun d => d.parameters.length) = some 0)
    (hl1 : Cond.methodLink own i2 y ∈ hWall) (him : Cond.instanceMethod y ∈ hWall) (hcode : Cond.code y b2 nL2 none ∈ hWall) (hfs : ∀ j, j < N → defaultValue (ty0 j) = vp_V fs j)
    (hrc : rm.cells = mc) (hrs : rm.slots = ms) (hR : rm.frames + 1 ≤ R.frames ∧ 8 + (nL2 + 11) + rm.locals ≤ R.locals) (hsz : ls.size = nL) (hw8 : ((Value.ref 0 :: rest).map fun v => v.category).sum ≤ 8) (hc1 : cells + 1 + mc ≤ R.cells) (hs1 : slots + N + ms ≤ R.slots)
    (d1 : decode cc pc = .ok (.new i1, 3)) (d2 : decode cc (pc + 3) = .ok (.dup, 1)) (d3 : decode cc (pc + 4) = .ok (.invokespecial i2, 3))
    (kk : ∀ (q : Nat) (w1 : va_W) (H1 : Heap) (locs1 : List Loc), B q w1 → va_P D vwCl (ws ++ w1) H1 → va_D A (ws ++ w1) → va_S A H0 H1 locs1 → W p l e R s m args below meth c H1 locs1 (cells + 1 + mc) (slots + N + ms) Q (F0 m (pc + 7) ls (.ref q :: rest))) : W p l e R s m args below meth c H locs cells slots Q (F0 m pc ls rest) := by
  obtain ⟨hx, hb, hml, hown, hts, hK, hNw, hO⟩ := E
  obtain ⟨t1, t2, t3, t4⟩ := hT
  obtain ⟨rfl, y1, y2, y3, y4⟩ := hy
  refine va_new (fs := fs) hx hb hts t1 ty0 t2 hown (hts _ hcl) (hts _ hinst) (hts _ hini) hK hP hD hS hA t4 hfs (by omega) (by omega) d1 (fun q H1 hP1 hD1 hS1 => ?_)
  refine lv_dup hx hb d2 rfl ?_
  have hPc := kright hP1
  have hDc := krightD hD1
  have hFc := kfree hD1 hS1 hA
  refine va_callv (va_runI (As := []) (rest := .ref q :: rest) ⟨hx, hb, hml, hown, hts⟩ (hM q H1.size) (cwI 0 hts (gi_of (gi_c hcode)) rfl hrc hrs (hts _ hini) (hts _ hl1) (hts _ him) y1 ⟨y2, y3, y4⟩ hR) ⟨kPre_blind, fun U hU hW => ⟨rfl, by rw [hU], by rw [hU]; exact hPc, va_K.moved hW.alike hK, hNW_warm hW hNw, va_AO.moved hW.alike hO, hDc.weaken (fun _ _ _ _ => trivial)⟩⟩ rfl rfl hsz rfl (lv_room hw8) d3 ⟨hc1, hs1⟩) hS1 (fun q _ h => hFc q h) hFc (fun u t H2 locs2 ht hvm h5 hB hz1 hk1 hS2 => ?_)
  obtain ⟨w1, hB, hP2, hD2⟩ := hB
  rw [ht] at hP2
  obtain ⟨hP3, hD3⟩ := kjoin hP1 hD1 hk1 hFc hP2 hD2
  exact kk q w1 H2 locs2 hB hP3 hD3 hS2
/-- a constructor's start: behind Object's -/
theorem kOf {y : MethodName} {cc : ByteArray} {maxL oi : Nat} {rm : Room} {ci mc ms : Nat} {fs : List Value} {B : Nat → va_W → Prop} (l : Launch) (hy : plainName y.cls = true) (hy1 : y.name = "<init>") (hlen : 1 ≤ maxL) (ho : Cond.methodLink y.cls oi ({ cls := "java/lang/Object", name := "<init>", desc := "()V" } : MethodName) ∈ hWall) (hr1 : 1 ≤ rm.frames) (hr2 : 12 ≤ rm.locals) (d0 : decode cc 0 = .ok (.aload_n 0, 1)) (d1 : decode cc 1 = .ok (.invokespecial oi, 3))
    (body : ∀ (p : Program) (e : Env) (s : State) (m : MethodId) (args : Array Value) (below : List Frame) (meth : Method) (c : Code) (h0 : Nat) (A : Nat → Prop) (ls : Array Slot), kE D cI cJ cF p s m args meth c y.cls cc maxL → meth.name = "<init>" → (∀ q, s.heap.size ≤ q → A q) → va_P D vwCl [(h0, .inr (ci, fs))] s.heap → va_D A [(h0, .inr (ci, fs))] → va_S A s.heap s.heap [] → lv_has ls maxL [(0, .ref h0)] →
      (∀ (H : Heap) (locs : List Loc) (cells slots pc : Nat) (ls : Array Slot) (w1 : va_W), B h0 w1 → va_P D vwCl w1 H → va_D A w1 → va_S A s.heap H locs → cells ≤ mc → slots ≤ ms → decode cc pc = .ok (.return_, 1) → W p l e rm s m args below meth c H locs cells slots (MQ below (va_Qv (fun _ : Unit => True) (fun _ t => ∃ w1 : va_W, B h0 w1 ∧ va_P D vwCl w1 t.heap ∧ va_D A w1) A) args s mc ms A) (F0 m pc ls [])) →
      W p l e rm s m args below meth c s.heap [] 0 0 (MQ below (va_Qv (fun _ : Unit => True) (fun _ t => ∃ w1 : va_W, B h0 w1 ∧ va_P D vwCl w1 t.heap ∧ va_D A w1) A) args s mc ms A) (F0 m 4 ls [])) : kMet D cI cJ cF l y cc maxL rm ci fs mc ms B := by
  intro h0 sz
  refine Met.ofW (cc := cc) (maxL := maxL) (ret := none) hy rfl ?_
  intro p e s m args below meth c s₁ B1 hml hv
  obtain ⟨rfl, hsz, hP, hK, hN, hO, hD0⟩ := hv
  have hts0 := atoms_spec (ws := .code y cc maxL none :: hWall) B1.pre
  have hts : ∀ w ∈ hWall, w.before _ s = true := fun w hw => hts0 w (List.mem_cons_of_mem _ hw)
  have hin : meth.name = "<init>" := by rw [(name_of_methodNamed B1.named B1.method).1]; exact hy1
  have hown := findClass_of_methodNamed B1.named
  subst hsz
  have hD := hD0.self (sz := s.heap.size)
  have hA : ∀ q : Nat, s.heap.size ≤ q → va_A [(h0, .inr (ci, fs))] s.heap.size q := fun q h => Or.inr h
  have hl := lv_entry ([.ref h0]) (n := maxL) (show (lg_sl ([.ref h0])).length ≤ maxL from hlen)
  rw [lg_entry_eq]
  generalize (lg_sl ([.ref h0]) ++ List.replicate (maxL - (lg_sl ([.ref h0])).length) Slot.unset).toArray = ls at hl ⊢
  have hl : lv_has ls maxL [(0, .ref h0)] := hl
  have hx := B1.exec
  have hb := B1.bytes
  refine lv_aload_n hx hb d0 rfl (lv_at hl 0 rfl) ?_
  refine W.objInit hx hb hown (hts _ ho) (hts _ q1_15) (hts _ q1_16) rfl (by rw [hml]; exact hl.1) rfl d1 hr1 hr2 ?_
  refine W.eq (g2 := F0 m 4 ls []) rfl ?_
  refine body p e s m _ below meth c h0 _ ls ⟨hx, hb, hml, hown, hts, hK, hN, hO⟩ hin hA hP hD va_S.rf hl ?_
  intro H locs cells slots pc ls w1 hB hP1 hD1 hS1 hc hs hd
  refine W.widen (k := mc) (n := ms) hc hs ?_
  exact W.vret hx hb B1.returns (fun t ht hW => ⟨⟨(), rfl, trivial, w1, hB, by rw [ht]; exact hP1, hD1⟩, hS1.F ht⟩) hS1.2.2 hd B1.notSynchronized
end

/-! calls over the world of whole numbers -/
theorem gi_of {ws : List Cond} (h : ∀ w ∈ ws, w ∈ hWall) : GoodIn hWall ws := fun w hw => ⟨h w hw, (hWall_good w (h w hw)).2⟩
def hCbV (C : String) (y : MethodName) (b : ByteArray) (nL : Nat) (ret : Option FieldType) (n : Nat) : Prop := (y.cls = C ∧ y.cls ≠ "java/lang/invoke/MethodHandle" ∧ y.cls ≠ "java/lang/invoke/VarHandle" ∧ (parseMethodDescriptor y.desc).map (fun d => d.parameters.length) = some n) ∧ Cond.instanceMethod y ∈ hWall ∧ Cond.selects C y y ∈ hWall ∧ Cond.initialized C ∈ hWall ∧ Cond.code y b nL ret ∈ hWall
def hCbS (y : MethodName) (b : ByteArray) (nL : Nat) (ret : Option FieldType) (n : Nat) : Prop := (y.cls ≠ "java/lang/invoke/MethodHandle" ∧ y.cls ≠ "java/lang/invoke/VarHandle" ∧ (parseMethodDescriptor y.desc).map (fun d => d.parameters.length) = some n) ∧ Cond.static y ∈ hWall ∧ Cond.initialized y.cls ∈ hWall ∧ Cond.code y b nL ret ∈ hWall
theorem gi_c {y : MethodName} {b : ByteArray} {nL : Nat} {ret : Option FieldType} (h : Cond.code y b nL ret ∈ hWall) : ∀ w ∈ (Cond.code y b nL ret :: hWall), w ∈ hWall := fun w hw => (List.mem_cons.mp hw).elim (fun e => by rw [e]; exact h) id
section
variable {D : va_G} {ad : Nat → Nat → Nat} {cI cJ cF : ClassId} {S S' : hS}
theorem hNW_same {u U : State} (h : u.vm = U.vm) (hN : hNW u) : hNW U := by
  intro w hw
  have h1 := hN w hw
  have h2 : hNest w = true := (List.mem_filter.mp hw).2
  cases w <;> first | (cases h2; done) | exact va_Nw.same rfl h h1
theorem hPre_blind {vs : List Value} : FrameBlind (va_Pc vs (hPre D ad cI cJ cF S)) := fun a U g mk q => by
  obtain ⟨q0, qP, qK, qN, qR, qZ⟩ := q
  exact ⟨q0, qP, va_K.moved (u := U) (U := U.calling g mk a) (Vm.Alike.refl U.vm) qK, hNW_same (u := U) (U := U.calling g mk a) rfl qN, qR, qZ⟩
theorem hPre_at {vs : List Value} {s U : State} {H : Heap} {locs : List Loc} (hh : hH D ad cI cJ cF S s H locs) (hK : va_K D vwCl (hTys cI cJ cF) s) (hN : hNW s) (hU : U.heap = H) (hW : s.WarmedH U.vm) (hz : ad 98 1 ≤ s.heap.size) : va_Pc vs (hPre D ad cI cJ cF S) vs.toArray U :=
  ⟨rfl, by rw [hU]; exact hh.1, va_K.moved hW.alike hK, hNW_warm hW hN, hh.2.1, by rw [hU]; exact Nat.le_trans hz hh.2.2.1⟩
variable {p : Program} {l : Launch} {e : Env} {R : Room} {s : State} {m : MethodId} {args : Array Value} {below : List Frame} {meth : Method} {c : Code} {H : Heap} {locs : List Loc} {cells slots : Nat} {Q : State → Prop}
variable {cc : ByteArray} {pc nL : Nat} {ls : Array Slot} {st rest : List Value} {own : String} {ret : Option FieldType}
theorem iv_ki {r : Int} {a : Array Value} (hr : va_Run p l e R s m args below meth c H locs cells slots 0 0 (F0 m pc ls st) rest (hQi D ad cI cJ cF r S' a) (hAd ad)) (hh : hH D ad cI cJ cF S s H locs)
    (kk : hIn r → ∀ (H1 : Heap) (locs1 : List Loc), hH D ad cI cJ cF S' s H1 locs1 → W p l e R s m args below meth c H1 locs1 cells slots Q (F0 m (pc + 3) ls (.int (hI r) :: rest))) : W p l e R s m args below meth c H locs cells slots Q (F0 m pc ls st) := by
  unfold hQi at hr
  refine va_calli hr hh.2.2 (fun q _ h => h) (fun q h => h) (fun x u t H1 locs1 ht hvm hw hB hz hk hS => ?_)
  obtain ⟨rfl, hin⟩ := hw
  exact kk hin H1 locs1 ⟨by rw [← ht]; exact hB.1, hB.2, hS⟩
theorem iv_kl {r : Int} {a : Array Value} (hr : va_Run p l e R s m args below meth c H locs cells slots 0 0 (F0 m pc ls st) rest (hQl D ad cI cJ cF r S' a) (hAd ad)) (hh : hH D ad cI cJ cF S s H locs)
    (kk : ∀ (H1 : Heap) (locs1 : List Loc), hH D ad cI cJ cF S' s H1 locs1 → W p l e R s m args below meth c H1 locs1 cells slots Q (F0 m (pc + 3) ls (.long (hJ r) :: rest))) : W p l e R s m args below meth c H locs cells slots Q (F0 m pc ls st) := by
  unfold hQl at hr
  refine va_calll hr hh.2.2 (fun q _ h => h) (fun q h => h) (fun x u t H1 locs1 ht hvm hw hB hz hk hS => ?_)
  subst hw
  exact kk H1 locs1 ⟨by rw [← ht]; exact hB.1, hB.2, hS⟩
theorem iv_kv {a : Array Value} (hr : va_Run p l e R s m args below meth c H locs cells slots 0 0 (F0 m pc ls st) rest (hQv D ad cI cJ cF S' a) (hAd ad)) (hh : hH D ad cI cJ cF S s H locs)
    (kk : ∀ (H1 : Heap) (locs1 : List Loc), hH D ad cI cJ cF S' s H1 locs1 → W p l e R s m args below meth c H1 locs1 cells slots Q (F0 m (pc + 3) ls rest)) : W p l e R s m args below meth c H locs cells slots Q (F0 m pc ls st) := by
  unfold hQv at hr
  refine va_callv hr hh.2.2 (fun q _ h => h) (fun q h => h) (fun u t H1 locs1 ht hvm hw hB hz hk hS => ?_)
  exact kk H1 locs1 ⟨by rw [← ht]; exact hB.1, hB.2, hS⟩
theorem iv_kr {g i : Nat} {a : Array Value} (hr : va_Run p l e R s m args below meth c H locs cells slots 0 0 (F0 m pc ls st) rest (hQr D ad cI cJ cF g i S' a) (hAd ad)) (hh : hH D ad cI cJ cF S s H locs)
    (kk : ∀ (H1 : Heap) (locs1 : List Loc), hH D ad cI cJ cF S' s H1 locs1 → W p l e R s m args below meth c H1 locs1 cells slots Q (F0 m (pc + 3) ls (.ref (ad g i) :: rest))) : W p l e R s m args below meth c H locs cells slots Q (F0 m pc ls st) := by
  unfold hQr at hr
  refine va_callr hr hh.2.2 (fun q _ h => h) (fun q h => h) (fun u ra t H1 locs1 ht hvm hw hB hz hk hS => ?_)
  obtain ⟨rfl, hB⟩ := hB
  exact kk H1 locs1 ⟨by rw [← ht]; exact hB.1, hB.2, hS⟩
variable {y : MethodName} {b2 : ByteArray} {nL2 n index : Nat} {ret2 : Option FieldType} {rm : Room} {As : List Value} {Qc : Array Value → State → Outcome → State → Prop}
theorem iv_rV {C : String} {gb ib q ci : Nat} {fs : List Value} {cq : vw_C} (E : hE D ad cI cJ cF p s m args meth c own cc nL ret) (hh : hH D ad cI cJ cF S s H locs)
    (hM : Met l y (.code y b2 nL2 ret2 :: hWall) rm (va_Pc (.ref (ad gb ib) :: As) (hPre D ad cI cJ cF S)) Qc 0 0 (hAd ad)) (cb : hCbV C y b2 nL2 ret2 n) (hl1 : Cond.methodLink own index y ∈ hWall)
    (hrc : rm.cells = 0) (hrs : rm.slots = 0) (hR : rm.frames + 1 ≤ R.frames ∧ 8 + (nL2 + 11) + rm.locals ≤ R.locals) (he : (hW ad cI cJ cF S)[q]? = some (ad gb ib, .inr (ci, fs))) (hc : vwCl[ci]? = some cq) (hC : cq.1 = C)
    (hn : As.length = n) (hsz : ls.size = nL) (hst : st = As.reverse ++ .ref (ad gb ib) :: rest) (hw8 : (rest.map fun v => v.category).sum ≤ 8) (hdg : decode cc pc = .ok (.invokevirtual index, 3)) (hf : cells + 0 ≤ R.cells ∧ slots + 0 ≤ R.slots) :
    va_Run p l e R s m args below meth c H locs cells slots 0 0 (F0 m pc ls st) rest (Qc (Value.ref (ad gb ib) :: As).toArray) (hAd ad) := by
  obtain ⟨hx, hb, hml, hown, hts, hK, hN, hinj, hr, hlk, hz⟩ := E
  obtain ⟨hd, k1, k2, k3, k4⟩ := cb
  have hg : GoodIn hWall (wsV own index C y (.code y b2 nL2 ret2 :: hWall)) := gi_of (fun w hw => by
    unfold wsV at hw
    rcases List.mem_append.mp hw with h | h
    · simp only [List.mem_cons, List.mem_nil_iff, or_false] at h
      rcases h with rfl | rfl | rfl | rfl <;> assumption
    · exact gi_c k4 w h)
  subst hC
  exact va_runV ⟨hx, hb, hml, hown, hts⟩ hM (cwV n hts hg rfl hrc hrs hd hR) ⟨hPre_blind, va_recv hK hh.1 hc he, fun U hU hW => hPre_at hh hK hN hU hW hz⟩ rfl hn hsz hst (lv_room hw8) hdg hf
theorem iv_rS (E : hE D ad cI cJ cF p s m args meth c own cc nL ret) (hh : hH D ad cI cJ cF S s H locs)
    (hM : Met l y (.code y b2 nL2 ret2 :: hWall) rm (va_Pc As (hPre D ad cI cJ cF S)) Qc 0 0 (hAd ad)) (cb : hCbS y b2 nL2 ret2 n) (hl1 : Cond.methodLink own index y ∈ hWall)
    (hrc : rm.cells = 0) (hrs : rm.slots = 0) (hR : rm.frames + 1 ≤ R.frames ∧ 8 + (nL2 + 11) + rm.locals ≤ R.locals)
    (hn : As.length = n) (hsz : ls.size = nL) (hst : st = As.reverse ++ rest) (hw8 : (rest.map fun v => v.category).sum ≤ 8) (hdg : decode cc pc = .ok (.invokestatic index, 3)) (hf : cells + 0 ≤ R.cells ∧ slots + 0 ≤ R.slots) :
    va_Run p l e R s m args below meth c H locs cells slots 0 0 (F0 m pc ls st) rest (Qc As.toArray) (hAd ad) := by
  obtain ⟨hx, hb, hml, hown, hts, hK, hN, hinj, hr, hlk, hz⟩ := E
  obtain ⟨hd, k1, k2, k4⟩ := cb
  have hg : GoodIn hWall (va_wsS own index y (.code y b2 nL2 ret2 :: hWall)) := gi_of (fun w hw => by
    unfold va_wsS at hw
    rcases List.mem_append.mp hw with h | h
    · simp only [List.mem_cons, List.mem_nil_iff, or_false] at h
      rcases h with rfl | rfl | rfl <;> assumption
    · exact gi_c k4 w h)
  exact va_runS ⟨hx, hb, hml, hown, hts⟩ hM (va_cwS n hts hg rfl hrc hrs hd hR) ⟨hPre_blind, fun U hU hW => hPre_at hh hK hN hU hW hz⟩ rfl hn hsz hst (lv_room hw8) hdg hf
theorem iv_rN {host : String} (E : hE D ad cI cJ cF p s m args meth c own cc nL ret) (hh : hH D ad cI cJ cF S s H locs)
    (hM : Met l y (.code y b2 nL2 ret2 :: hWall) rm (va_Pc As (hPre D ad cI cJ cF S)) Qc 0 0 (hAd ad)) (cb : hCbS y b2 nL2 ret2 n) (hl1 : Cond.methodLinkNest own index y host ∈ hNestL)
    (hrc : rm.cells = 0) (hrs : rm.slots = 0) (hR : rm.frames + 1 ≤ R.frames ∧ 8 + (nL2 + 11) + rm.locals ≤ R.locals)
    (hn : As.length = n) (hsz : ls.size = nL) (hst : st = As.reverse ++ rest) (hw8 : (rest.map fun v => v.category).sum ≤ 8) (hdg : decode cc pc = .ok (.invokestatic index, 3)) (hf : cells + 0 ≤ R.cells ∧ slots + 0 ≤ R.slots) :
    va_Run p l e R s m args below meth c H locs cells slots 0 0 (F0 m pc ls st) rest (Qc As.toArray) (hAd ad) := by
  obtain ⟨hx, hb, hml, hown, hts, hK, hN, hinj, hr, hlk, hz⟩ := E
  obtain ⟨hd, k1, k2, k4⟩ := cb
  exact va_runSN ⟨hx, hb, hml, hown, hts⟩ hM ⟨va_cnB n hts (gi_of (gi_c k4)) rfl hrc hrs (hN _ hl1) (hts _ k2) hd hR, hts _ k1, trivial⟩ ⟨hPre_blind, fun U hU hW => hPre_at hh hK hN hU hW hz⟩ rfl hn hsz hst (lv_room hw8) hdg hf
/-- a method's end -/
theorem iv_iret {r : Int} {a : Int} (E : hE D ad cI cJ cF p s m args meth c own cc nL (some .int)) (hh : hH D ad cI cJ cF S s H locs) (ha : a = r) (hin : hIn r) (hS : S = S') (hdg : decode cc pc = .ok (.ireturn, 1)) :
    W p l e R s m args below meth c H locs 0 0 (MQ below (hQi D ad cI cJ cF r S') args s 0 0 (hAd ad)) (F0 m pc ls [.int (hI a)]) := by
  obtain ⟨hx, hb, hml, hown, hts, hK, hN, hinj, hr, hlk, hz⟩ := E
  subst ha; subst hS
  exact W.iret hx hb hr (fun t ht hW => ⟨⟨_, (), rfl, ⟨rfl, hin⟩, by rw [ht]; exact hh.1, hh.2.1⟩, hh.2.2.F ht⟩) hh.2.2.2.2 hdg hlk
theorem iv_bret {r : Int} {a : Int} (E : hE D ad cI cJ cF p s m args meth c own cc nL (some .boolean)) (hh : hH D ad cI cJ cF S s H locs) (ha : a = r) (h01 : r = 0 ∨ r = 1) (hS : S = S') (hdg : decode cc pc = .ok (.ireturn, 1)) :
    W p l e R s m args below meth c H locs 0 0 (MQ below (hQi D ad cI cJ cF r S') args s 0 0 (hAd ad)) (F0 m pc ls [.int (hI a)]) := by
  obtain ⟨hx, hb, hml, hown, hts, hK, hN, hinj, hr, hlk, hz⟩ := E
  subst ha; subst hS
  have hin : hIn a := by rcases h01 with rfl | rfl <;> exact ⟨by decide, by decide⟩
  exact W.zret hx hb hr (by rcases h01 with rfl | rfl <;> decide +kernel) (fun t ht hW => ⟨⟨_, (), rfl, ⟨rfl, hin⟩, by rw [ht]; exact hh.1, hh.2.1⟩, hh.2.2.F ht⟩) hh.2.2.2.2 hdg hlk
theorem iv_lret {r : Int} {a : Int} (E : hE D ad cI cJ cF p s m args meth c own cc nL (some .long)) (hh : hH D ad cI cJ cF S s H locs) (ha : a = r) (hS : S = S') (hdg : decode cc pc = .ok (.lreturn, 1)) :
    W p l e R s m args below meth c H locs 0 0 (MQ below (hQl D ad cI cJ cF r S') args s 0 0 (hAd ad)) (F0 m pc ls [.long (hJ a)]) := by
  obtain ⟨hx, hb, hml, hown, hts, hK, hN, hinj, hr, hlk, hz⟩ := E
  subst ha; subst hS
  exact W.lret hx hb hr (fun t ht hW => ⟨⟨_, (), rfl, rfl, by rw [ht]; exact hh.1, hh.2.1⟩, hh.2.2.F ht⟩) hh.2.2.2.2 hdg hlk
theorem iv_vret (E : hE D ad cI cJ cF p s m args meth c own cc nL none) (hh : hH D ad cI cJ cF S s H locs) (hS : S = S') (hdg : decode cc pc = .ok (.return_, 1)) :
    W p l e R s m args below meth c H locs 0 0 (MQ below (hQv D ad cI cJ cF S') args s 0 0 (hAd ad)) (F0 m pc ls []) := by
  obtain ⟨hx, hb, hml, hown, hts, hK, hN, hinj, hr, hlk, hz⟩ := E
  subst hS
  exact W.vret hx hb hr (fun t ht hW => ⟨⟨(), rfl, trivial, by rw [ht]; exact hh.1, hh.2.1⟩, hh.2.2.F ht⟩) hh.2.2.2.2 hdg hlk
theorem iv_rret {g i : Nat} {rt : FieldType} (E : hE D ad cI cJ cF p s m args meth c own cc nL (some rt)) (hrt : (∃ n, rt = .object n) ∨ ∃ t, rt = .array t) (hh : hH D ad cI cJ cF S s H locs) (hS : S = S') (hdg : decode cc pc = .ok (.areturn, 1)) :
    W p l e R s m args below meth c H locs 0 0 (MQ below (hQr D ad cI cJ cF g i S') args s 0 0 (hAd ad)) (F0 m pc ls [.ref (ad g i)]) := by
  obtain ⟨hx, hb, hml, hown, hts, hK, hN, hinj, hr, hlk, hz⟩ := E
  subst hS
  exact W.aret hx hb hr hrt (Or.inr ⟨_, rfl⟩) (fun t ht hW => ⟨⟨(), _, rfl, trivial, rfl, by rw [ht]; exact hh.1, hh.2.1⟩, hh.2.2.F ht⟩) hh.2.2.2.2 hdg hlk
/-- a method's start -/
theorem hOf {y : MethodName} {cc : ByteArray} {maxL : Nat} {ret : Option FieldType} {rm : Room} {vs : List Value} {Qc : Array Value → State → Outcome → State → Prop} {mc ms : Nat} (l : Launch) (hinj : hInj ad) (hy : plainName y.cls = true) (hlen : (lg_sl vs).length ≤ maxL)
    (body : ∀ (p : Program) (e : Env) (s : State) (m : MethodId) (args : Array Value) (below : List Frame) (meth : Method) (c : Code), hE D ad cI cJ cF p s m args meth c y.cls cc maxL ret → hAt D ad cI cJ cF p l e rm s m args below meth c (MQ below Qc args s mc ms (hAd ad)) maxL 0 (lv_args 0 vs) S) :
    Met l y (.code y cc maxL ret :: hWall) rm (va_Pc vs (hPre D ad cI cJ cF S)) Qc mc ms (hAd ad) := by
  refine Met.ofW (cc := cc) (maxL := maxL) (ret := ret) hy rfl ?_
  intro p e s m args below meth c s₁ B hml hv
  obtain ⟨rfl, hP, hK, hN, hR, hZ⟩ := hv
  have hts := atoms_spec (ws := .code y cc maxL ret :: hWall) B.pre
  have hl := lv_entry vs (n := maxL) hlen
  rw [lg_entry_eq]
  exact body p e s m _ below meth c ⟨B.exec, B.bytes, hml, findClass_of_methodNamed B.named, fun w hw => hts w (List.mem_cons_of_mem _ hw), hK, hN, hinj, B.returns, B.notSynchronized, hZ⟩ s.heap [] _ ⟨hP, hR, va_S.rf⟩ hl
end

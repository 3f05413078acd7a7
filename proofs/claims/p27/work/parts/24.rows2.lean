/-! further rows: what the JDK's own methods need -/
def iXor (a b : Int) : Int := (hI a ^^^ hI b).toInt
theorem hJ_add (a b : Int) : hJ a + hJ b = hJ (a + b) := (Int64.ofInt_add a b).symm
theorem hJ_sub (a b : Int) : hJ a - hJ b = hJ (a - b) := (Int64.ofInt_sub a b).symm
theorem hI_tdiv {a b : Int} (ha : hIn a) (hb : hIn b) (h1 : 0 < b) : hI a / hI b = hI (a.tdiv b) := by
  apply Int32.toInt_inj.mp
  have h4 : hIn (a.tdiv b) := by
    rcases Int.le_total 0 a with h0 | h0
    · have e : a.tdiv b = a / b := Int.tdiv_eq_ediv_of_nonneg h0
      have h2 : a / b ≤ a := Int.ediv_le_self b h0
      have h3 : 0 ≤ a / b := Int.ediv_nonneg h0 (Int.le_of_lt h1)
      rw [e]; exact ⟨by omega, by have := ha.2; omega⟩
    · have e : a.tdiv b = - ((-a) / b) := by
        have := Int.tdiv_eq_ediv_of_nonneg (a := -a) (b := b) (by omega)
        rw [← this, Int.neg_tdiv]; omega
      have h2 : (-a) / b ≤ -a := Int.ediv_le_self b (by omega)
      have h3 : 0 ≤ (-a) / b := Int.ediv_nonneg (by omega) (Int.le_of_lt h1)
      rw [e]; exact ⟨by have := ha.1; omega, by omega⟩
  rw [Int32.toInt_div, hI_toInt ha, hI_toInt hb, hI_toInt h4]
  exact Int.bmod_eq_of_le (by have := h4.1; omega) (by have := h4.2; omega)
section
variable {p : Program} {l : Launch} {e : Env} {R : Room} {s : State} {m : MethodId} {args : Array Value} {below : List Frame} {meth : Method} {c : Code} {H : Heap} {locs : List Loc} {cells slots : Nat} {Q : State → Prop}
variable {cc : ByteArray} {pc nL : Nat} {ls : Array Slot} {rest : List Value}
theorem iv_idivT (hx : p.tables.exec = Jvm.exec) (hb : c.code = cc) {a b : Int} (ha : hIn a) (hb1 : hIn b) (h1 : 0 < b) (hdg : decode cc pc = .ok (.idiv, 1))
    (k : W p l e R s m args below meth c H locs cells slots Q (F0 m (pc + 1) ls (.int (hI (a.tdiv b)) :: rest))) : W p l e R s m args below meth c H locs cells slots Q (F0 m pc ls (.int (hI b) :: .int (hI a) :: rest)) :=
  lv_idiv hx hb hdg (fun h => by rw [← hI_0, hI_eq hb1 hIn_0] at h; omega) (by rw [hI_tdiv ha hb1 h1]; exact k)
theorem iv_iremT (hx : p.tables.exec = Jvm.exec) (hb : c.code = cc) {a b : Int} (ha : hIn a) (hb1 : hIn b) (h1 : 0 < b) (hdg : decode cc pc = .ok (.irem, 1))
    (k : W p l e R s m args below meth c H locs cells slots Q (F0 m (pc + 1) ls (.int (hI (a.tmod b)) :: rest))) : W p l e R s m args below meth c H locs cells slots Q (F0 m pc ls (.int (hI b) :: .int (hI a) :: rest)) := by
  refine lv_irem hx hb hdg (fun h => by rw [← hI_0, hI_eq hb1 hIn_0] at h; omega) ?_
  have e : a - a.tdiv b * b = a.tmod b := by rw [Int.tmod_def, Int.mul_comm b]
  rw [hI_tdiv ha hb1 h1, hI_mul, hI_sub, e]
  exact k
theorem iv_ixor (hx : p.tables.exec = Jvm.exec) (hb : c.code = cc) {a b : Int} (hdg : decode cc pc = .ok (.ixor, 1))
    (k : W p l e R s m args below meth c H locs cells slots Q (F0 m (pc + 1) ls (.int (hI (iXor a b)) :: rest))) : W p l e R s m args below meth c H locs cells slots Q (F0 m pc ls (.int (hI b) :: .int (hI a) :: rest)) := lv_ixor hx hb hdg (by unfold iXor at k; rw [hI_of] at k; exact k)
theorem iv_ladd (hx : p.tables.exec = Jvm.exec) (hb : c.code = cc) {a b : Int} (hdg : decode cc pc = .ok (.ladd, 1))
    (k : W p l e R s m args below meth c H locs cells slots Q (F0 m (pc + 1) ls (.long (hJ (a + b)) :: rest))) : W p l e R s m args below meth c H locs cells slots Q (F0 m pc ls (.long (hJ b) :: .long (hJ a) :: rest)) := lv_ladd hx hb hdg (by rw [hJ_add]; exact k)
theorem iv_lsub (hx : p.tables.exec = Jvm.exec) (hb : c.code = cc) {a b : Int} (hdg : decode cc pc = .ok (.lsub, 1))
    (k : W p l e R s m args below meth c H locs cells slots Q (F0 m (pc + 1) ls (.long (hJ (a - b)) :: rest))) : W p l e R s m args below meth c H locs cells slots Q (F0 m pc ls (.long (hJ b) :: .long (hJ a) :: rest)) := lv_lsub hx hb hdg (by rw [hJ_sub]; exact k)
end
section
variable {D : va_G} {ad : Nat → Nat → Nat} {cI cJ cF : ClassId} {S S' : hS}
theorem hOfF {y : MethodName} {cc : ByteArray} {maxL : Nat} {ret : Option FieldType} {rm : Room} {vs : List Value} {Qc : Array Value → State → Outcome → State → Prop} (l : Launch) (hinj : hInj ad) (hy : plainFor y = true) (hlen : (lg_sl vs).length ≤ maxL)
    (body : ∀ (p : Program) (e : Env) (s : State) (m : MethodId) (args : Array Value) (below : List Frame) (meth : Method) (c : Code), hE D ad cI cJ cF p s m args meth c y.cls cc maxL ret → hAt D ad cI cJ cF p l e rm s m args below meth c (MQ below Qc args s 0 0 (hAd ad)) maxL 0 (lv_args 0 vs) S) :
    Met l y (.code y cc maxL ret :: hWall) rm (va_Pc vs (hPre D ad cI cJ cF S)) Qc 0 0 (hAd ad) := by
  refine va_MetF (cc := cc) (maxL := maxL) (ret := ret) hy rfl ?_
  intro p e s m args below meth c s₁ B hml hv
  obtain ⟨rfl, hP, hK, hN, hR, hZ⟩ := hv
  have hts := atoms_spec (ws := .code y cc maxL ret :: hWall) B.pre
  have hl := lv_entry vs (n := maxL) hlen
  rw [lg_entry_eq]
  exact body p e s m _ below meth c ⟨B.exec, B.bytes, hml, findClass_of_methodNamed B.named, fun w hw => hts w (List.mem_cons_of_mem _ hw), hK, hN, hinj, B.returns, B.notSynchronized, hZ⟩ s.heap [] _ ⟨hP, hR, va_S.rf⟩ hl
end

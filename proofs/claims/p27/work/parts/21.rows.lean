/-! rows over the world of whole numbers -/
section
variable (D : va_G) (ad : Nat → Nat → Nat) (cI cJ cF : ClassId)
def hE (p : Program) (s : State) (m : MethodId) (args : Array Value) (meth : Method) (c : Code) (own : String) (cc : ByteArray) (nL : Nat) (ret : Option FieldType) : Prop :=
  p.tables.exec = Jvm.exec ∧ c.code = cc ∧ c.maxLocals = nL ∧ s.vm.findClass own = some m.cls ∧ (∀ w ∈ hWall, w.before args s = true) ∧ va_K D vwCl (hTys cI cJ cF) s ∧ hNW s ∧ hInj ad ∧ meth.sig.returnType = ret ∧ meth.locks = false ∧ ad 98 1 ≤ s.heap.size
def hH (S : hS) (s : State) (H : Heap) (locs : List Loc) : Prop := va_P D vwCl (hW ad cI cJ cF S) H ∧ hR S ∧ va_S (hAd ad) s.heap H locs
def hPre (S : hS) (U : State) : Prop := va_P D vwCl (hW ad cI cJ cF S) U.heap ∧ va_K D vwCl (hTys cI cJ cF) U ∧ hNW U ∧ hR S ∧ ad 98 1 ≤ U.heap.size
def hEnd (S : hS) (t : State) : Prop := va_P D vwCl (hW ad cI cJ cF S) t.heap ∧ hR S
def hQi (r : Int) (S : hS) : Array Value → State → Outcome → State → Prop := va_Qi (fun (x : Int32) (_ : Unit) => x = hI r ∧ hIn r) (fun _ t => hEnd D ad cI cJ cF S t) (hAd ad)
def hQl (r : Int) (S : hS) : Array Value → State → Outcome → State → Prop := va_Ql (fun (x : Int64) (_ : Unit) => x = hJ r) (fun _ t => hEnd D ad cI cJ cF S t) (hAd ad)
def hQv (S : hS) : Array Value → State → Outcome → State → Prop := va_Qv (fun (_ : Unit) => True) (fun _ t => hEnd D ad cI cJ cF S t) (hAd ad)
def hQr (g i : Nat) (S : hS) : Array Value → State → Outcome → State → Prop := va_Qr (fun (_ : Unit) => True) (fun _ a t => a = ad g i ∧ hEnd D ad cI cJ cF S t) (hAd ad)
def hMi (l : Launch) (y : MethodName) (bytes : ByteArray) (nL : Nat) (ret : Option FieldType) (rm : Room) (vs : List Value) (S : hS) (r : Int) (S' : hS) : Prop := Met l y (.code y bytes nL ret :: hWall) rm (va_Pc vs (hPre D ad cI cJ cF S)) (hQi D ad cI cJ cF r S') 0 0 (hAd ad)
def hMl (l : Launch) (y : MethodName) (bytes : ByteArray) (nL : Nat) (rm : Room) (vs : List Value) (S : hS) (r : Int) (S' : hS) : Prop := Met l y (.code y bytes nL (some .long) :: hWall) rm (va_Pc vs (hPre D ad cI cJ cF S)) (hQl D ad cI cJ cF r S') 0 0 (hAd ad)
def hMv (l : Launch) (y : MethodName) (bytes : ByteArray) (nL : Nat) (rm : Room) (vs : List Value) (S : hS) (S' : hS) : Prop := Met l y (.code y bytes nL none :: hWall) rm (va_Pc vs (hPre D ad cI cJ cF S)) (hQv D ad cI cJ cF S') 0 0 (hAd ad)
def hMr (l : Launch) (y : MethodName) (bytes : ByteArray) (nL : Nat) (ret : Option FieldType) (rm : Room) (vs : List Value) (S : hS) (g i : Nat) (S' : hS) : Prop := Met l y (.code y bytes nL ret :: hWall) rm (va_Pc vs (hPre D ad cI cJ cF S)) (hQr D ad cI cJ cF g i S') 0 0 (hAd ad)
/-- the walk at a place: from every heap that holds the state -/
def hAt (p : Program) (l : Launch) (e : Env) (R : Room) (s : State) (m : MethodId) (args : Array Value) (below : List Frame) (meth : Method) (c : Code) (Q : State → Prop) (nL pc : Nat) (L : List (Nat × Value)) (S : hS) : Prop :=
  ∀ (H : Heap) (locs : List Loc) (ls : Array Slot), hH D ad cI cJ cF S s H locs → lv_has ls nL L → W p l e R s m args below meth c H locs 0 0 Q (F0 m pc ls [])
/-- an array of whole numbers -/
def hIA (g i n q : Nat) : Prop := q < hNc ad ∧ hUnpos q = (g, i) ∧ i < 13 ∧ n < 100000 ∧ ∀ r rl, hCellR ad cI cJ cF g i r rl = .inl (cI, n, .inl (fun k => hI (r k)))
end
section
variable {p : Program} {l : Launch} {e : Env} {R : Room} {s : State} {m : MethodId} {args : Array Value} {below : List Frame} {meth : Method} {c : Code} {H : Heap} {locs : List Loc} {cells slots : Nat} {Q : State → Prop}
variable {cc : ByteArray} {pc nL : Nat} {ls : Array Slot} {rest : List Value} {own : String} {ret : Option FieldType}
variable {D : va_G} {ad : Nat → Nat → Nat} {cI cJ cF : ClassId} {S S' : hS}
theorem iv_iconst (hx : p.tables.exec = Jvm.exec) (hb : c.code = cc) {n : Int} (hdg : decode cc pc = .ok (.iconst n, 1))
    (k : W p l e R s m args below meth c H locs cells slots Q (F0 m (pc + 1) ls (.int (hI n) :: rest))) : W p l e R s m args below meth c H locs cells slots Q (F0 m pc ls rest) := lv_iconst hx hb hdg rfl k
theorem iv_ldc (hx : p.tables.exec = Jvm.exec) (hb : c.code = cc) {n : Int} {index : Nat} {v : Int32} (hv : v = hI n) (hown : s.vm.findClass own = some m.cls) (hc : (Jvm.Cond.constant own index v).before args s = true) (hdg : decode cc pc = .ok (.ldc index, 2))
    (k : W p l e R s m args below meth c H locs cells slots Q (F0 m (pc + 2) ls (.int (hI n) :: rest))) : W p l e R s m args below meth c H locs cells slots Q (F0 m pc ls rest) := lv_ldc hx hb hown hc hdg (by rw [hv]; exact k)
theorem iv_iadd (hx : p.tables.exec = Jvm.exec) (hb : c.code = cc) {a b : Int} (hdg : decode cc pc = .ok (.iadd, 1))
    (k : W p l e R s m args below meth c H locs cells slots Q (F0 m (pc + 1) ls (.int (hI (a + b)) :: rest))) : W p l e R s m args below meth c H locs cells slots Q (F0 m pc ls (.int (hI b) :: .int (hI a) :: rest)) := lv_iadd hx hb hdg (by rw [hI_add]; exact k)
theorem iv_isub (hx : p.tables.exec = Jvm.exec) (hb : c.code = cc) {a b : Int} (hdg : decode cc pc = .ok (.isub, 1))
    (k : W p l e R s m args below meth c H locs cells slots Q (F0 m (pc + 1) ls (.int (hI (a - b)) :: rest))) : W p l e R s m args below meth c H locs cells slots Q (F0 m pc ls (.int (hI b) :: .int (hI a) :: rest)) := lv_isub hx hb hdg (by rw [hI_sub]; exact k)
theorem iv_imul (hx : p.tables.exec = Jvm.exec) (hb : c.code = cc) {a b : Int} (hdg : decode cc pc = .ok (.imul, 1))
    (k : W p l e R s m args below meth c H locs cells slots Q (F0 m (pc + 1) ls (.int (hI (a * b)) :: rest))) : W p l e R s m args below meth c H locs cells slots Q (F0 m pc ls (.int (hI b) :: .int (hI a) :: rest)) := lv_imul hx hb hdg (by rw [hI_mul]; exact k)
theorem iv_ineg (hx : p.tables.exec = Jvm.exec) (hb : c.code = cc) {a : Int} (hdg : decode cc pc = .ok (.ineg, 1))
    (k : W p l e R s m args below meth c H locs cells slots Q (F0 m (pc + 1) ls (.int (hI (-a)) :: rest))) : W p l e R s m args below meth c H locs cells slots Q (F0 m pc ls (.int (hI a) :: rest)) := lv_ineg hx hb hdg (by rw [hI_neg]; exact k)
theorem iv_idiv (hx : p.tables.exec = Jvm.exec) (hb : c.code = cc) {a b : Int} (ha : hIn a) (h0 : 0 ≤ a) (hb1 : hIn b) (h1 : 0 < b) (hdg : decode cc pc = .ok (.idiv, 1))
    (k : W p l e R s m args below meth c H locs cells slots Q (F0 m (pc + 1) ls (.int (hI (a / b)) :: rest))) : W p l e R s m args below meth c H locs cells slots Q (F0 m pc ls (.int (hI b) :: .int (hI a) :: rest)) :=
  lv_idiv hx hb hdg (fun h => by rw [← hI_0, hI_eq hb1 hIn_0] at h; omega) (by rw [hI_div ha h0 hb1 h1]; exact k)
theorem iv_irem (hx : p.tables.exec = Jvm.exec) (hb : c.code = cc) {a b : Int} (ha : hIn a) (h0 : 0 ≤ a) (hb1 : hIn b) (h1 : 0 < b) (hdg : decode cc pc = .ok (.irem, 1))
    (k : W p l e R s m args below meth c H locs cells slots Q (F0 m (pc + 1) ls (.int (hI (a % b)) :: rest))) : W p l e R s m args below meth c H locs cells slots Q (F0 m pc ls (.int (hI b) :: .int (hI a) :: rest)) := by
  refine lv_irem hx hb hdg (fun h => by rw [← hI_0, hI_eq hb1 hIn_0] at h; omega) ?_
  have e : a - a / b * b = a % b := by rw [Int.emod_def, Int.mul_comm b]
  rw [hI_div ha h0 hb1 h1, hI_mul, hI_sub, e]
  exact k
theorem iv_ior (hx : p.tables.exec = Jvm.exec) (hb : c.code = cc) {a b : Int} (hdg : decode cc pc = .ok (.ior, 1))
    (k : W p l e R s m args below meth c H locs cells slots Q (F0 m (pc + 1) ls (.int (hI (iOr a b)) :: rest))) : W p l e R s m args below meth c H locs cells slots Q (F0 m pc ls (.int (hI b) :: .int (hI a) :: rest)) := lv_ior hx hb hdg (by unfold iOr at k; rw [hI_of] at k; exact k)
theorem iv_iand (hx : p.tables.exec = Jvm.exec) (hb : c.code = cc) {a b : Int} (hdg : decode cc pc = .ok (.iand, 1))
    (k : W p l e R s m args below meth c H locs cells slots Q (F0 m (pc + 1) ls (.int (hI (iAnd a b)) :: rest))) : W p l e R s m args below meth c H locs cells slots Q (F0 m pc ls (.int (hI b) :: .int (hI a) :: rest)) := lv_iand hx hb hdg (by unfold iAnd at k; rw [hI_of] at k; exact k)
theorem iv_ishl (hx : p.tables.exec = Jvm.exec) (hb : c.code = cc) {a b : Int} (hdg : decode cc pc = .ok (.ishl, 1))
    (k : W p l e R s m args below meth c H locs cells slots Q (F0 m (pc + 1) ls (.int (hI (iShl a b)) :: rest))) : W p l e R s m args below meth c H locs cells slots Q (F0 m pc ls (.int (hI b) :: .int (hI a) :: rest)) := lv_ishl hx hb hdg (by unfold iShl at k; rw [hI_of] at k; exact k)
theorem iv_ishr (hx : p.tables.exec = Jvm.exec) (hb : c.code = cc) {a b : Int} (hdg : decode cc pc = .ok (.ishr, 1))
    (k : W p l e R s m args below meth c H locs cells slots Q (F0 m (pc + 1) ls (.int (hI (iShr a b)) :: rest))) : W p l e R s m args below meth c H locs cells slots Q (F0 m pc ls (.int (hI b) :: .int (hI a) :: rest)) := lv_ishr hx hb hdg (by unfold iShr at k; rw [hI_of] at k; exact k)
theorem iv_lor (hx : p.tables.exec = Jvm.exec) (hb : c.code = cc) {a b : Int} (hdg : decode cc pc = .ok (.lor, 1))
    (k : W p l e R s m args below meth c H locs cells slots Q (F0 m (pc + 1) ls (.long (hJ (jOr a b)) :: rest))) : W p l e R s m args below meth c H locs cells slots Q (F0 m pc ls (.long (hJ b) :: .long (hJ a) :: rest)) := lv_lor hx hb hdg (by unfold jOr at k; rw [hJ_of] at k; exact k)
theorem iv_land (hx : p.tables.exec = Jvm.exec) (hb : c.code = cc) {a b : Int} (hdg : decode cc pc = .ok (.land, 1))
    (k : W p l e R s m args below meth c H locs cells slots Q (F0 m (pc + 1) ls (.long (hJ (jAnd a b)) :: rest))) : W p l e R s m args below meth c H locs cells slots Q (F0 m pc ls (.long (hJ b) :: .long (hJ a) :: rest)) := lv_land hx hb hdg (by unfold jAnd at k; rw [hJ_of] at k; exact k)
theorem iv_lxor (hx : p.tables.exec = Jvm.exec) (hb : c.code = cc) {a b : Int} (hdg : decode cc pc = .ok (.lxor, 1))
    (k : W p l e R s m args below meth c H locs cells slots Q (F0 m (pc + 1) ls (.long (hJ (jXor a b)) :: rest))) : W p l e R s m args below meth c H locs cells slots Q (F0 m pc ls (.long (hJ b) :: .long (hJ a) :: rest)) := lv_lxor hx hb hdg (by unfold jXor at k; rw [hJ_of] at k; exact k)
theorem iv_lshl (hx : p.tables.exec = Jvm.exec) (hb : c.code = cc) {a b : Int} (hdg : decode cc pc = .ok (.lshl, 1))
    (k : W p l e R s m args below meth c H locs cells slots Q (F0 m (pc + 1) ls (.long (hJ (jShl a b)) :: rest))) : W p l e R s m args below meth c H locs cells slots Q (F0 m pc ls (.int (hI b) :: .long (hJ a) :: rest)) := lv_lshl hx hb hdg rfl (by unfold jShl at k; rw [hJ_of] at k; exact k)
theorem iv_lushr (hx : p.tables.exec = Jvm.exec) (hb : c.code = cc) {a b : Int} (hdg : decode cc pc = .ok (.lushr, 1))
    (k : W p l e R s m args below meth c H locs cells slots Q (F0 m (pc + 1) ls (.long (hJ (jUshr a b)) :: rest))) : W p l e R s m args below meth c H locs cells slots Q (F0 m pc ls (.int (hI b) :: .long (hJ a) :: rest)) := lv_lushr hx hb hdg rfl (by unfold jUshr at k; rw [hJ_of] at k; exact k)
theorem iv_lshr (hx : p.tables.exec = Jvm.exec) (hb : c.code = cc) {a b : Int} (hdg : decode cc pc = .ok (.lshr, 1))
    (k : W p l e R s m args below meth c H locs cells slots Q (F0 m (pc + 1) ls (.long (hJ (jShr a b)) :: rest))) : W p l e R s m args below meth c H locs cells slots Q (F0 m pc ls (.int (hI b) :: .long (hJ a) :: rest)) := lv_lshr hx hb hdg rfl (by unfold jShr at k; rw [hJ_of] at k; exact k)
theorem iv_l2i (hx : p.tables.exec = Jvm.exec) (hb : c.code = cc) {a : Int} (hdg : decode cc pc = .ok (.l2i, 1))
    (k : W p l e R s m args below meth c H locs cells slots Q (F0 m (pc + 1) ls (.int (hI (jToI a)) :: rest))) : W p l e R s m args below meth c H locs cells slots Q (F0 m pc ls (.long (hJ a) :: rest)) := lv_l2i hx hb hdg rfl (by unfold jToI at k; rw [hI_of] at k; exact k)
theorem iv_lcmp (hx : p.tables.exec = Jvm.exec) (hb : c.code = cc) {a b : Int} (hdg : decode cc pc = .ok (.lcmp, 1))
    (k : W p l e R s m args below meth c H locs cells slots Q (F0 m (pc + 1) ls (.int (hI (jCmp a b)) :: rest))) : W p l e R s m args below meth c H locs cells slots Q (F0 m pc ls (.long (hJ b) :: .long (hJ a) :: rest)) := W.lcmp hx hb hdg (by unfold jCmp at k; rw [hI_of] at k; exact k)
theorem iv_icmp_lt (hx : p.tables.exec = Jvm.exec) (hb : c.code = cc) {a b : Int} (ha : hIn a) (hb1 : hIn b) {off : Int} {tgt : Nat} (hdg : decode cc pc = .ok (.if_icmp .lt off, 3)) (ht : (pc : Int) + off = (tgt : Int))
    (kt : a < b → W p l e R s m args below meth c H locs cells slots Q (F0 m tgt ls rest)) (kf : ¬ a < b → W p l e R s m args below meth c H locs cells slots Q (F0 m (pc + 3) ls rest)) : W p l e R s m args below meth c H locs cells slots Q (F0 m pc ls (.int (hI b) :: .int (hI a) :: rest)) :=
  lv_icmp_lt hx hb hdg ht (fun h => kt ((hI_lt ha hb1).mp h)) (fun h => kf (fun q => h ((hI_lt ha hb1).mpr q)))
theorem iv_icmp_ge (hx : p.tables.exec = Jvm.exec) (hb : c.code = cc) {a b : Int} (ha : hIn a) (hb1 : hIn b) {off : Int} {tgt : Nat} (hdg : decode cc pc = .ok (.if_icmp .ge off, 3)) (ht : (pc : Int) + off = (tgt : Int))
    (kt : ¬ a < b → W p l e R s m args below meth c H locs cells slots Q (F0 m tgt ls rest)) (kf : a < b → W p l e R s m args below meth c H locs cells slots Q (F0 m (pc + 3) ls rest)) : W p l e R s m args below meth c H locs cells slots Q (F0 m pc ls (.int (hI b) :: .int (hI a) :: rest)) :=
  lv_icmp_ge hx hb hdg ht (fun h => kt (by rw [hI_le hb1 ha] at h; omega)) (fun h => kf (by rw [hI_le hb1 ha] at h; omega))
theorem iv_icmp_gt (hx : p.tables.exec = Jvm.exec) (hb : c.code = cc) {a b : Int} (ha : hIn a) (hb1 : hIn b) {off : Int} {tgt : Nat} (hdg : decode cc pc = .ok (.if_icmp .gt off, 3)) (ht : (pc : Int) + off = (tgt : Int))
    (kt : ¬ a ≤ b → W p l e R s m args below meth c H locs cells slots Q (F0 m tgt ls rest)) (kf : a ≤ b → W p l e R s m args below meth c H locs cells slots Q (F0 m (pc + 3) ls rest)) : W p l e R s m args below meth c H locs cells slots Q (F0 m pc ls (.int (hI b) :: .int (hI a) :: rest)) :=
  lv_icmp_gt hx hb hdg ht (fun h => kt (by rw [hI_lt hb1 ha] at h; omega)) (fun h => kf (by rw [hI_lt hb1 ha] at h; omega))
theorem iv_icmp_le (hx : p.tables.exec = Jvm.exec) (hb : c.code = cc) {a b : Int} (ha : hIn a) (hb1 : hIn b) {off : Int} {tgt : Nat} (hdg : decode cc pc = .ok (.if_icmp .le off, 3)) (ht : (pc : Int) + off = (tgt : Int))
    (kt : a ≤ b → W p l e R s m args below meth c H locs cells slots Q (F0 m tgt ls rest)) (kf : ¬ a ≤ b → W p l e R s m args below meth c H locs cells slots Q (F0 m (pc + 3) ls rest)) : W p l e R s m args below meth c H locs cells slots Q (F0 m pc ls (.int (hI b) :: .int (hI a) :: rest)) :=
  lv_icmp_le hx hb hdg ht (fun h => kt (by rw [hI_le ha hb1] at h; omega)) (fun h => kf (by rw [hI_le ha hb1] at h; omega))
theorem iv_icmp_eq (hx : p.tables.exec = Jvm.exec) (hb : c.code = cc) {a b : Int} (ha : hIn a) (hb1 : hIn b) {off : Int} {tgt : Nat} (hdg : decode cc pc = .ok (.if_icmp .eq off, 3)) (ht : (pc : Int) + off = (tgt : Int))
    (kt : a = b → W p l e R s m args below meth c H locs cells slots Q (F0 m tgt ls rest)) (kf : ¬ a = b → W p l e R s m args below meth c H locs cells slots Q (F0 m (pc + 3) ls rest)) : W p l e R s m args below meth c H locs cells slots Q (F0 m pc ls (.int (hI b) :: .int (hI a) :: rest)) :=
  lv_icmp_eq hx hb hdg ht (fun h => kt ((hI_eq ha hb1).mp h)) (fun h => kf (fun q => h ((hI_eq ha hb1).mpr q)))
theorem iv_icmp_ne (hx : p.tables.exec = Jvm.exec) (hb : c.code = cc) {a b : Int} (ha : hIn a) (hb1 : hIn b) {off : Int} {tgt : Nat} (hdg : decode cc pc = .ok (.if_icmp .ne off, 3)) (ht : (pc : Int) + off = (tgt : Int))
    (kt : ¬ a = b → W p l e R s m args below meth c H locs cells slots Q (F0 m tgt ls rest)) (kf : a = b → W p l e R s m args below meth c H locs cells slots Q (F0 m (pc + 3) ls rest)) : W p l e R s m args below meth c H locs cells slots Q (F0 m pc ls (.int (hI b) :: .int (hI a) :: rest)) :=
  lv_icmp_ne hx hb hdg ht (fun h => kt (fun q => h ((hI_eq ha hb1).mpr q))) (fun h => kf ((hI_eq ha hb1).mp h))
theorem iv_if_lt (hx : p.tables.exec = Jvm.exec) (hb : c.code = cc) {a : Int} (ha : hIn a) {off : Int} {tgt : Nat} (hdg : decode cc pc = .ok (.ifCond .lt off, 3)) (ht : (pc : Int) + off = (tgt : Int))
    (kt : a < 0 → W p l e R s m args below meth c H locs cells slots Q (F0 m tgt ls rest)) (kf : ¬ a < 0 → W p l e R s m args below meth c H locs cells slots Q (F0 m (pc + 3) ls rest)) : W p l e R s m args below meth c H locs cells slots Q (F0 m pc ls (.int (hI a) :: rest)) :=
  lv_if_lt hx hb hdg ht (fun h => kt ((hI_lt ha hIn_0).mp (by rw [hI_0]; exact h))) (fun h => kf (fun q => h (by rw [← hI_0]; exact (hI_lt ha hIn_0).mpr q)))
theorem iv_if_ge (hx : p.tables.exec = Jvm.exec) (hb : c.code = cc) {a : Int} (ha : hIn a) {off : Int} {tgt : Nat} (hdg : decode cc pc = .ok (.ifCond .ge off, 3)) (ht : (pc : Int) + off = (tgt : Int))
    (kt : ¬ a < 0 → W p l e R s m args below meth c H locs cells slots Q (F0 m tgt ls rest)) (kf : a < 0 → W p l e R s m args below meth c H locs cells slots Q (F0 m (pc + 3) ls rest)) : W p l e R s m args below meth c H locs cells slots Q (F0 m pc ls (.int (hI a) :: rest)) :=
  lv_if_ge hx hb hdg ht (fun h => kt (by rw [← hI_0, hI_le hIn_0 ha] at h; omega)) (fun h => kf (by rw [← hI_0, hI_le hIn_0 ha] at h; omega))
theorem iv_if_gt (hx : p.tables.exec = Jvm.exec) (hb : c.code = cc) {a : Int} (ha : hIn a) {off : Int} {tgt : Nat} (hdg : decode cc pc = .ok (.ifCond .gt off, 3)) (ht : (pc : Int) + off = (tgt : Int))
    (kt : ¬ a ≤ 0 → W p l e R s m args below meth c H locs cells slots Q (F0 m tgt ls rest)) (kf : a ≤ 0 → W p l e R s m args below meth c H locs cells slots Q (F0 m (pc + 3) ls rest)) : W p l e R s m args below meth c H locs cells slots Q (F0 m pc ls (.int (hI a) :: rest)) :=
  lv_if_gt hx hb hdg ht (fun h => kt (by rw [← hI_0, hI_lt hIn_0 ha] at h; omega)) (fun h => kf (by rw [← hI_0, hI_lt hIn_0 ha] at h; omega))
theorem iv_if_le (hx : p.tables.exec = Jvm.exec) (hb : c.code = cc) {a : Int} (ha : hIn a) {off : Int} {tgt : Nat} (hdg : decode cc pc = .ok (.ifCond .le off, 3)) (ht : (pc : Int) + off = (tgt : Int))
    (kt : a ≤ 0 → W p l e R s m args below meth c H locs cells slots Q (F0 m tgt ls rest)) (kf : ¬ a ≤ 0 → W p l e R s m args below meth c H locs cells slots Q (F0 m (pc + 3) ls rest)) : W p l e R s m args below meth c H locs cells slots Q (F0 m pc ls (.int (hI a) :: rest)) :=
  lv_if_le hx hb hdg ht (fun h => kt (by rw [← hI_0, hI_le ha hIn_0] at h; omega)) (fun h => kf (by rw [← hI_0, hI_le ha hIn_0] at h; omega))
theorem iv_if_eq (hx : p.tables.exec = Jvm.exec) (hb : c.code = cc) {a : Int} (ha : hIn a) {off : Int} {tgt : Nat} (hdg : decode cc pc = .ok (.ifCond .eq off, 3)) (ht : (pc : Int) + off = (tgt : Int))
    (kt : a = 0 → W p l e R s m args below meth c H locs cells slots Q (F0 m tgt ls rest)) (kf : ¬ a = 0 → W p l e R s m args below meth c H locs cells slots Q (F0 m (pc + 3) ls rest)) : W p l e R s m args below meth c H locs cells slots Q (F0 m pc ls (.int (hI a) :: rest)) :=
  lv_if_eq hx hb hdg ht (fun h => kt ((hI_eq ha hIn_0).mp (by rw [hI_0]; exact h))) (fun h => kf (fun q => h (by rw [← hI_0]; exact (hI_eq ha hIn_0).mpr q)))
theorem iv_if_ne (hx : p.tables.exec = Jvm.exec) (hb : c.code = cc) {a : Int} (ha : hIn a) {off : Int} {tgt : Nat} (hdg : decode cc pc = .ok (.ifCond .ne off, 3)) (ht : (pc : Int) + off = (tgt : Int))
    (kt : ¬ a = 0 → W p l e R s m args below meth c H locs cells slots Q (F0 m tgt ls rest)) (kf : a = 0 → W p l e R s m args below meth c H locs cells slots Q (F0 m (pc + 3) ls rest)) : W p l e R s m args below meth c H locs cells slots Q (F0 m pc ls (.int (hI a) :: rest)) :=
  lv_if_ne hx hb hdg ht (fun h => kt (fun q => h (by rw [← hI_0]; exact (hI_eq ha hIn_0).mpr q))) (fun h => kf ((hI_eq ha hIn_0).mp (by rw [hI_0]; exact h)))
theorem iv_iinc (hx : p.tables.exec = Jvm.exec) (hb : c.code = cc) {i k : Nat} {n a v : Int} {lv lv' : List (Nat × Value)} (hdg : decode cc pc = .ok (.iinc i n, 3)) (h : lv_has ls nL lv) (hk : lv[k]? = some (i, .int (hI a))) (hv : a + n = v) (hn : i < nL) (hl : (i, Value.int (hI v)) :: lv.filter (fun q => !(q.1 == i) && !(q.1 + 1 == i && q.2.category == 2)) = lv')
    (kk : ∀ ls' : Array Slot, lv_has ls' nL lv' → W p l e R s m args below meth c H locs cells slots Q (F0 m (pc + 3) ls' rest)) : W p l e R s m args below meth c H locs cells slots Q (F0 m pc ls rest) :=
  lv_iinc hx hb hdg h hk (by subst hv; exact hI_add a n) hn hl kk
theorem iv_get (hx : p.tables.exec = Jvm.exec) (hb : c.code = cc) {ref C : String} {T : u_T} {N ci index a : Nat} (hts : ∀ w ∈ hWall, w.before args s = true) (hin : ∀ w ∈ u_ws C T N, w ∈ hWall) (hown : s.vm.findClass own = some m.cls) (hK : va_K D vwCl (hTys cI cJ cF) s) (hP : va_P D vwCl (hW ad cI cJ cF S) H) {q0 : Nat} {fs : List Value} (he : (hW ad cI cJ cF S)[q0]? = some (a, .inr (ci, fs))) (hc : vwCl[ci]? = some (C, T, N)) (k : Nat) (hk : k < N) (hlink : (Cond.fieldLink own index ref (T k).2.1 (T k).2.2.1).before args s = true) (href : (T k).1 = ref) {v v' : Value} (hv : fs[k]? = some v) (hvv : v = v') (hdg : decode cc pc = .ok (.getfield index, 3))
    (kk : W p l e R s m args below meth c H locs cells slots Q (F0 m (pc + 3) ls (v' :: rest))) : W p l e R s m args below meth c H locs cells slots Q (F0 m pc ls (.ref a :: rest)) := by
  subst hvv
  exact va_get hx hb hts hin hown hK hP q0 he hc k hk hlink (fun x h => by rw [← href]; exact h) hv hdg kk
theorem iv_getN (hx : p.tables.exec = Jvm.exec) (hb : c.code = cc) {ref C host : String} {T : u_T} {N ci index a : Nat} (hts : ∀ w ∈ hWall, w.before args s = true) (hin : ∀ w ∈ u_ws C T N, w ∈ hWall) (hown : s.vm.findClass own = some m.cls) (hK : va_K D vwCl (hTys cI cJ cF) s) (hP : va_P D vwCl (hW ad cI cJ cF S) H) {q0 : Nat} {fs : List Value} (he : (hW ad cI cJ cF S)[q0]? = some (a, .inr (ci, fs))) (hc : vwCl[ci]? = some (C, T, N)) (k : Nat) (hk : k < N) (hlink : va_Nw (Cond.fieldLinkNest own index ref (T k).2.1 (T k).2.2.1 host) s) (href : (T k).1 = ref) {v v' : Value} (hv : fs[k]? = some v) (hvv : v = v') (hdg : decode cc pc = .ok (.getfield index, 3))
    (kk : W p l e R s m args below meth c H locs cells slots Q (F0 m (pc + 3) ls (v' :: rest))) : W p l e R s m args below meth c H locs cells slots Q (F0 m pc ls (.ref a :: rest)) := by
  subst hvv
  exact va_getN hx hb hts hin hown hK hP q0 he hc k hk (va_Nw.use rfl hlink) (fun x h => by rw [← href]; exact h) hv hdg kk
theorem iv_put (hx : p.tables.exec = Jvm.exec) (hb : c.code = cc) {ref C : String} {T : u_T} {N ci index : Nat} (hts : ∀ w ∈ hWall, w.before args s = true) (hin : ∀ w ∈ u_ws C T N, w ∈ hWall) (ty0 : Nat → FieldType) (hty : ∀ k, k < N → parseFieldDescriptor (T k).2.2.1 = some (ty0 k)) (hnm : ∀ a, a < N → ∀ b, b < N → a ≠ b → (T a).2.1 ≠ (T b).2.1) (hown : s.vm.findClass own = some m.cls) (hK : va_K D vwCl (hTys cI cJ cF) s) (hinj : hInj ad) (hh : hH D ad cI cJ cF S s H locs) {q0 g i i0 : Nat} (hq : q0 < hNc ad) (hu : hUnpos q0 = (g, i)) (hi0 : i0 = i ∨ i0 = 100 + i) {fs : List Value} (he : (hW ad cI cJ cF S)[q0]? = some (ad g i, .inr (ci, fs))) (hc : vwCl[ci]? = some (C, T, N)) (k : Nat) (hk : k < N) (hlink : (Cond.fieldLink own index ref (T k).2.1 (T k).2.2.1).before args s = true) (href : (T k).1 = ref) (hfin : (T k).2.2.2 = false) {ty : FieldType} {v : Value} (hd : parseFieldDescriptor (T k).2.2.1 = some ty) (hn : narrow ty v = v) (hfit : fits ty v = true) (hl : k < fs.length)
    {kk x : Int} (hcell : hCell ad cI cJ cF (gset S g (aset (S g) i0 kk x)) g i = .inr (ci, fs.set k v)) (hxr : hIn x ∨ 100 ≤ i0) (hS' : gset S g (aset (S g) i0 kk x) = S') (hdg : decode cc pc = .ok (.putfield index, 3))
    (K : ∀ (H1 : Heap) (locs1 : List Loc), hH D ad cI cJ cF S' s H1 locs1 → W p l e R s m args below meth c H1 locs1 cells slots Q (F0 m (pc + 3) ls rest)) : W p l e R s m args below meth c H locs cells slots Q (F0 m pc ls (v :: .ref (ad g i) :: rest)) := by
  refine va_put hx hb hts hin ty0 hty hnm hown hK hh.1 (hW_D hinj) hh.2.2 q0 he hc k hk hlink (fun x h => by rw [← href]; exact h) hfin hd hn hfit hl hdg (fun H1 locs1 hP1 _ hS1 => K H1 locs1 ?_)
  rw [← hcell, hW_set hq hu (hset_else hi0)] at hP1
  rw [← hS']
  exact ⟨hP1, hR_set hh.2.1 hxr, hS1⟩
theorem iv_putN (hx : p.tables.exec = Jvm.exec) (hb : c.code = cc) {ref C host : String} {T : u_T} {N ci index : Nat} (hts : ∀ w ∈ hWall, w.before args s = true) (hin : ∀ w ∈ u_ws C T N, w ∈ hWall) (ty0 : Nat → FieldType) (hty : ∀ k, k < N → parseFieldDescriptor (T k).2.2.1 = some (ty0 k)) (hnm : ∀ a, a < N → ∀ b, b < N → a ≠ b → (T a).2.1 ≠ (T b).2.1) (hown : s.vm.findClass own = some m.cls) (hK : va_K D vwCl (hTys cI cJ cF) s) (hinj : hInj ad) (hh : hH D ad cI cJ cF S s H locs) {q0 g i i0 : Nat} (hq : q0 < hNc ad) (hu : hUnpos q0 = (g, i)) (hi0 : i0 = i ∨ i0 = 100 + i) {fs : List Value} (he : (hW ad cI cJ cF S)[q0]? = some (ad g i, .inr (ci, fs))) (hc : vwCl[ci]? = some (C, T, N)) (k : Nat) (hk : k < N) (hlink : va_Nw (Cond.fieldLinkNest own index ref (T k).2.1 (T k).2.2.1 host) s) (href : (T k).1 = ref) (hfin : (T k).2.2.2 = false) {ty : FieldType} {v : Value} (hd : parseFieldDescriptor (T k).2.2.1 = some ty) (hn : narrow ty v = v) (hfit : fits ty v = true) (hl : k < fs.length)
    {kk x : Int} (hcell : hCell ad cI cJ cF (gset S g (aset (S g) i0 kk x)) g i = .inr (ci, fs.set k v)) (hxr : hIn x ∨ 100 ≤ i0) (hS' : gset S g (aset (S g) i0 kk x) = S') (hdg : decode cc pc = .ok (.putfield index, 3))
    (K : ∀ (H1 : Heap) (locs1 : List Loc), hH D ad cI cJ cF S' s H1 locs1 → W p l e R s m args below meth c H1 locs1 cells slots Q (F0 m (pc + 3) ls rest)) : W p l e R s m args below meth c H locs cells slots Q (F0 m pc ls (v :: .ref (ad g i) :: rest)) := by
  refine va_putN hx hb hts hin ty0 hty hnm hown hK hh.1 (hW_D hinj) hh.2.2 q0 he hc k hk (va_Nw.use rfl hlink) (fun x h => by rw [← href]; exact h) hfin hd hn hfit hl hdg (fun H1 locs1 hP1 _ hS1 => K H1 locs1 ?_)
  rw [← hcell, hW_set hq hu (hset_else hi0)] at hP1
  rw [← hS']
  exact ⟨hP1, hR_set hh.2.1 hxr, hS1⟩
theorem hIA.at {g i n q : Nat} (h : hIA ad cI cJ cF g i n q) : (hW ad cI cJ cF S)[q]? = some (ad g i, .inl (cI, n, .inl (fun k => hI (S g i k)))) := by
  obtain ⟨h1, h2, h3, h4, h5⟩ := h
  rw [hW_at h1 h2]
  unfold hCell
  rw [h5]
theorem iv_alen (hx : p.tables.exec = Jvm.exec) (hb : c.code = cc) (hK : va_K D vwCl (hTys cI cJ cF) s) (hP : va_P D vwCl (hW ad cI cJ cF S) H) {g i n q : Nat} (h : hIA ad cI cJ cF g i n q) (hdg : decode cc pc = .ok (.arraylength, 1))
    (k : W p l e R s m args below meth c H locs cells slots Q (F0 m (pc + 1) ls (.int (hI n) :: rest))) : W p l e R s m args below meth c H locs cells slots Q (F0 m pc ls (.ref (ad g i) :: rest)) :=
  va_alen hx hb hK hP q 0 h.at rfl rfl hdg k
theorem iv_iald (hx : p.tables.exec = Jvm.exec) (hb : c.code = cc) (hK : va_K D vwCl (hTys cI cJ cF) s) (hP : va_P D vwCl (hW ad cI cJ cF S) H) {g i n q : Nat} (h : hIA ad cI cJ cF g i n q) {k v : Int} (hk : 0 ≤ k ∧ k < n) (hv : S g i k = v) (hdg : decode cc pc = .ok (.iaload, 1))
    (kk : W p l e R s m args below meth c H locs cells slots Q (F0 m (pc + 1) ls (.int (hI v) :: rest))) : W p l e R s m args below meth c H locs cells slots Q (F0 m pc ls (.int (hI k) :: .ref (ad g i) :: rest)) := by
  obtain ⟨h1, h2⟩ := hI_ix hk h.2.2.2.1
  refine va_iald hx hb hK hP q 0 h.at rfl h1 hdg ?_
  rw [h2]
  have e : ((k.toNat : Nat) : Int) = k := Int.toNat_of_nonneg hk.1
  simp only [e, hv]
  exact kk
theorem iv_iast (hx : p.tables.exec = Jvm.exec) (hb : c.code = cc) (hK : va_K D vwCl (hTys cI cJ cF) s) (hinj : hInj ad) (hh : hH D ad cI cJ cF S s H locs) {g i n q : Nat} (h : hIA ad cI cJ cF g i n q) {k v : Int} (hk : 0 ≤ k ∧ k < n) (hv : hIn v) (hS' : gset S g (aset (S g) i k v) = S') (hdg : decode cc pc = .ok (.iastore, 1))
    (K : ∀ (H1 : Heap) (locs1 : List Loc), hH D ad cI cJ cF S' s H1 locs1 → W p l e R s m args below meth c H1 locs1 cells slots Q (F0 m (pc + 1) ls rest)) : W p l e R s m args below meth c H locs cells slots Q (F0 m pc ls (.int (hI v) :: .int (hI k) :: .ref (ad g i) :: rest)) := by
  obtain ⟨h1, h2⟩ := hI_ix hk h.2.2.2.1
  refine va_iast hx hb hK hh.1 (hW_D hinj) hh.2.2 q 0 h.at rfl h1 hdg (fun H1 locs1 hP1 _ hS1 => K H1 locs1 ?_)
  have e : ((k.toNat : Nat) : Int) = k := Int.toNat_of_nonneg hk.1
  have hc : hCell ad cI cJ cF (gset S g (aset (S g) i k v)) g i = .inl (cI, n, .inl (upd (fun k => hI (S g i k)) (hI k).toNatClampNeg (hI v))) := by
    unfold hCell
    rw [h.2.2.2.2, h2]
    congr 4
    funext j
    simp only [gset_at, upd, aset]
    by_cases hj : j = k.toNat
    · subst hj; simp [e]
    · have : ¬ ((j : Int) = k) := by omega
      simp [hj, this]
  rw [← hc, hW_set h.1 h.2.1 (hset_else (Or.inl rfl))] at hP1
  rw [← hS']
  exact ⟨hP1, hR_set hh.2.1 (Or.inl hv), hS1⟩
theorem hIn_rd {A : hGM} {g i : Nat} {k : Int} (h : hR S) (e : S g = A) (hi : i < 100) : hIn (A i k) := by rw [← e]; exact h g i k hi
end

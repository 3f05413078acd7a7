/-! methods that make arrays (eight elements each), and methods that leave some memory of which something is told -/
theorem rk0 {k K : Nat} (h : k ≤ K) : k + 0 ≤ K ∧ 8 * k + 0 ≤ 8 * K := ⟨h, by omega⟩
theorem rm8 {k mc K : Nat} (h : k + mc ≤ K) : k + mc ≤ K ∧ 8 * k + 8 * mc ≤ 8 * K := ⟨h, by omega⟩
section
variable (D : va_G) (ad : Nat → Nat → Nat) (cI cJ cF : ClassId)
def hQx (q : hS → Prop) : Array Value → State → Outcome → State → Prop := va_Qi (fun (x : Int32) (_ : Unit) => x = hI 1) (fun _ t => ∃ S', q S' ∧ hEnd D ad cI cJ cF S' t) (hAd ad)
def hMx (l : Launch) (y : MethodName) (bytes : ByteArray) (nL : Nat) (rm : Room) (vs : List Value) (S : hS) (q : hS → Prop) (mc : Nat) : Prop := Met l y (.code y bytes nL (some .boolean) :: hWall) rm (va_Pc vs (hPre D ad cI cJ cF S)) (hQx D ad cI cJ cF q) mc (8 * mc) (hAd ad)
def hMiC (l : Launch) (y : MethodName) (bytes : ByteArray) (nL : Nat) (ret : Option FieldType) (rm : Room) (vs : List Value) (S : hS) (r : Int) (S' : hS) (mc : Nat) : Prop := Met l y (.code y bytes nL ret :: hWall) rm (va_Pc vs (hPre D ad cI cJ cF S)) (hQi D ad cI cJ cF r S') mc (8 * mc) (hAd ad)
def hMlC (l : Launch) (y : MethodName) (bytes : ByteArray) (nL : Nat) (rm : Room) (vs : List Value) (S : hS) (r : Int) (S' : hS) (mc : Nat) : Prop := Met l y (.code y bytes nL (some .long) :: hWall) rm (va_Pc vs (hPre D ad cI cJ cF S)) (hQl D ad cI cJ cF r S') mc (8 * mc) (hAd ad)
def hAtC (p : Program) (l : Launch) (e : Env) (R : Room) (s : State) (m : MethodId) (args : Array Value) (below : List Frame) (meth : Method) (c : Code) (Q : State → Prop) (nL pc : Nat) (L : List (Nat × Value)) (S : hS) (k : Nat) : Prop :=
  ∀ (H : Heap) (locs : List Loc) (ls : Array Slot), hH D ad cI cJ cF S s H locs → lv_has ls nL L → W p l e R s m args below meth c H locs k (8 * k) Q (F0 m pc ls [])
end
section
variable {D : va_G} {ad : Nat → Nat → Nat} {cI cJ cF : ClassId} {S S' : hS}
variable {p : Program} {l : Launch} {e : Env} {R : Room} {s : State} {m : MethodId} {args : Array Value} {below : List Frame} {meth : Method} {c : Code} {H : Heap} {locs : List Loc} {cells slots : Nat} {Q : State → Prop}
variable {cc : ByteArray} {pc nL : Nat} {ls : Array Slot} {st rest : List Value} {own : String} {ret : Option FieldType}
theorem iv_kx {q : hS → Prop} {a : Array Value} (hr : va_Run p l e R s m args below meth c H locs cells slots 0 0 (F0 m pc ls st) rest (hQx D ad cI cJ cF q a) (hAd ad)) (hh : hH D ad cI cJ cF S s H locs)
    (kk : ∀ S' : hS, q S' → ∀ (H1 : Heap) (locs1 : List Loc), hH D ad cI cJ cF S' s H1 locs1 → W p l e R s m args below meth c H1 locs1 cells slots Q (F0 m (pc + 3) ls (.int (hI 1) :: rest))) : W p l e R s m args below meth c H locs cells slots Q (F0 m pc ls st) := by
  unfold hQx at hr
  refine va_calli hr hh.2.2 (fun q _ h => h) (fun q h => h) (fun x u t H1 locs1 ht hvm hw hB hz hk hS => ?_)
  subst hw
  obtain ⟨S', hq, hB⟩ := hB
  exact kk S' hq H1 locs1 ⟨by rw [← ht]; exact hB.1, hB.2, hS⟩
theorem iv_kxC {k mc : Nat} {q : hS → Prop} {a : Array Value} (hr : va_Run p l e R s m args below meth c H locs k (8 * k) mc (8 * mc) (F0 m pc ls st) rest (hQx D ad cI cJ cF q a) (hAd ad)) (hh : hH D ad cI cJ cF S s H locs)
    (kk : ∀ S' : hS, q S' → ∀ (H1 : Heap) (locs1 : List Loc), hH D ad cI cJ cF S' s H1 locs1 → W p l e R s m args below meth c H1 locs1 (k + mc) (8 * (k + mc)) Q (F0 m (pc + 3) ls (.int (hI 1) :: rest))) : W p l e R s m args below meth c H locs k (8 * k) Q (F0 m pc ls st) := by
  unfold hQx at hr
  refine va_calli hr hh.2.2 (fun q _ h => h) (fun q h => h) (fun x u t H1 locs1 ht hvm hw hB hz hk hS => ?_)
  subst hw
  obtain ⟨S', hq, hB⟩ := hB
  rw [← Nat.mul_add]
  exact kk S' hq H1 locs1 ⟨by rw [← ht]; exact hB.1, hB.2, hS⟩
theorem iv_kiC {k mc : Nat} {r : Int} {a : Array Value} (hr : va_Run p l e R s m args below meth c H locs k (8 * k) mc (8 * mc) (F0 m pc ls st) rest (hQi D ad cI cJ cF r S' a) (hAd ad)) (hh : hH D ad cI cJ cF S s H locs)
    (kk : hIn r → ∀ (H1 : Heap) (locs1 : List Loc), hH D ad cI cJ cF S' s H1 locs1 → W p l e R s m args below meth c H1 locs1 (k + mc) (8 * (k + mc)) Q (F0 m (pc + 3) ls (.int (hI r) :: rest))) : W p l e R s m args below meth c H locs k (8 * k) Q (F0 m pc ls st) := by
  unfold hQi at hr
  refine va_calli hr hh.2.2 (fun q _ h => h) (fun q h => h) (fun x u t H1 locs1 ht hvm hw hB hz hk hS => ?_)
  obtain ⟨rfl, hin⟩ := hw
  rw [← Nat.mul_add]
  exact kk hin H1 locs1 ⟨by rw [← ht]; exact hB.1, hB.2, hS⟩
theorem iv_klC {k mc : Nat} {r : Int} {a : Array Value} (hr : va_Run p l e R s m args below meth c H locs k (8 * k) mc (8 * mc) (F0 m pc ls st) rest (hQl D ad cI cJ cF r S' a) (hAd ad)) (hh : hH D ad cI cJ cF S s H locs)
    (kk : ∀ (H1 : Heap) (locs1 : List Loc), hH D ad cI cJ cF S' s H1 locs1 → W p l e R s m args below meth c H1 locs1 (k + mc) (8 * (k + mc)) Q (F0 m (pc + 3) ls (.long (hJ r) :: rest))) : W p l e R s m args below meth c H locs k (8 * k) Q (F0 m pc ls st) := by
  unfold hQl at hr
  refine va_calll hr hh.2.2 (fun q _ h => h) (fun q h => h) (fun x u t H1 locs1 ht hvm hw hB hz hk hS => ?_)
  subst hw
  rw [← Nat.mul_add]
  exact kk H1 locs1 ⟨by rw [← ht]; exact hB.1, hB.2, hS⟩
variable {y : MethodName} {b2 : ByteArray} {nL2 n index : Nat} {ret2 : Option FieldType} {rm : Room} {As : List Value} {Qc : Array Value → State → Outcome → State → Prop}
theorem iv_rSC {mc : Nat} (E : hE D ad cI cJ cF p s m args meth c own cc nL ret) (hh : hH D ad cI cJ cF S s H locs)
    (hM : Met l y (.code y b2 nL2 ret2 :: hWall) rm (va_Pc As (hPre D ad cI cJ cF S)) Qc mc (8 * mc) (hAd ad)) (cb : hCbS y b2 nL2 ret2 n) (hl1 : Cond.methodLink own index y ∈ hWall)
    (hrc : rm.cells = mc) (hrs : rm.slots = 8 * mc) (hR : rm.frames + 1 ≤ R.frames ∧ 8 + (nL2 + 11) + rm.locals ≤ R.locals)
    (hn : As.length = n) (hsz : ls.size = nL) (hst : st = As.reverse ++ rest) (hw8 : (rest.map fun v => v.category).sum ≤ 8) (hdg : decode cc pc = .ok (.invokestatic index, 3)) (hf : cells + mc ≤ R.cells ∧ slots + 8 * mc ≤ R.slots) :
    va_Run p l e R s m args below meth c H locs cells slots mc (8 * mc) (F0 m pc ls st) rest (Qc As.toArray) (hAd ad) := by
  obtain ⟨hx, hb, hml, hown, hts, hK, hN, hinj, hr, hlk, hz⟩ := E
  obtain ⟨hd, k1, k2, k4⟩ := cb
  have hg : GoodIn hWall (va_wsS own index y (.code y b2 nL2 ret2 :: hWall)) := gi_of (fun w hw => by
    unfold va_wsS at hw
    rcases List.mem_append.mp hw with h | h
    · simp only [List.mem_cons, List.mem_nil_iff, or_false] at h
      rcases h with rfl | rfl | rfl <;> assumption
    · exact gi_c k4 w h)
  exact va_runS ⟨hx, hb, hml, hown, hts⟩ hM (va_cwS n hts hg rfl hrc hrs hd hR) ⟨hPre_blind, fun U hU hW => hPre_at hh hK hN hU hW hz⟩ rfl hn hsz hst (lv_room hw8) hdg hf
theorem iv_iretC {r : Int} {a : Int} (E : hE D ad cI cJ cF p s m args meth c own cc nL (some .int)) (hh : hH D ad cI cJ cF S s H locs) (ha : a = r) (hin : hIn r) (hS : S = S') (hdg : decode cc pc = .ok (.ireturn, 1)) :
    W p l e R s m args below meth c H locs cells slots (MQ below (hQi D ad cI cJ cF r S') args s cells slots (hAd ad)) (F0 m pc ls [.int (hI a)]) := by
  obtain ⟨hx, hb, hml, hown, hts, hK, hN, hinj, hr, hlk, hz⟩ := E
  subst ha; subst hS
  exact W.iret hx hb hr (fun t ht hW => ⟨⟨_, (), rfl, ⟨rfl, hin⟩, by rw [ht]; exact hh.1, hh.2.1⟩, hh.2.2.F ht⟩) hh.2.2.2.2 hdg hlk
theorem iv_lretC {r : Int} {a : Int} (E : hE D ad cI cJ cF p s m args meth c own cc nL (some .long)) (hh : hH D ad cI cJ cF S s H locs) (ha : a = r) (hS : S = S') (hdg : decode cc pc = .ok (.lreturn, 1)) :
    W p l e R s m args below meth c H locs cells slots (MQ below (hQl D ad cI cJ cF r S') args s cells slots (hAd ad)) (F0 m pc ls [.long (hJ a)]) := by
  obtain ⟨hx, hb, hml, hown, hts, hK, hN, hinj, hr, hlk, hz⟩ := E
  subst ha; subst hS
  exact W.lret hx hb hr (fun t ht hW => ⟨⟨_, (), rfl, rfl, by rw [ht]; exact hh.1, hh.2.1⟩, hh.2.2.F ht⟩) hh.2.2.2.2 hdg hlk
theorem iv_xret {q : hS → Prop} {a : Int} (E : hE D ad cI cJ cF p s m args meth c own cc nL (some .boolean)) (hh : hH D ad cI cJ cF S s H locs) (ha : a = 1) (hq : q S) (hdg : decode cc pc = .ok (.ireturn, 1)) :
    W p l e R s m args below meth c H locs cells slots (MQ below (hQx D ad cI cJ cF q) args s cells slots (hAd ad)) (F0 m pc ls [.int (hI a)]) := by
  obtain ⟨hx, hb, hml, hown, hts, hK, hN, hinj, hr, hlk, hz⟩ := E
  subst ha
  exact W.zret hx hb hr (by decide +kernel) (fun t ht hW => ⟨⟨_, (), rfl, rfl, S, hq, by rw [ht]; exact hh.1, hh.2.1⟩, hh.2.2.F ht⟩) hh.2.2.2.2 hdg hlk
end

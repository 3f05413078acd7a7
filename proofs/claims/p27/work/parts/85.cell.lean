/-! static calls with up to sixteen words below them on the stack; the law's look into its script -/
section
variable {p : Program} {l : Launch} {e : Env} {R : Room} {s : State} {m : MethodId} {args : Array Value} {below : List Frame} {meth : Method} {c : Code} {H : Heap} {locs : List Loc} {cells slots : Nat} {Q : State → Prop}
variable {y : MethodName} {bytes cc : ByteArray} {maxL nL mc ms n index : Nat} {ret : Option FieldType} {ws : List Cond} {rm : Room} {Pc : Array Value → State → Prop} {Qc : Array Value → State → Outcome → State → Prop} {free : Addr → Prop} {Ts : List Cond} {own : String} {As rest : List Value} {g : JFrame}
theorem run16 (S : CallFix p m c cc nL s args Ts own) (hM : Met l y ws rm Pc Qc mc ms free) (cw : CallB R s args own index y bytes maxL ret ws rm mc ms n ∧ (Cond.static y).before args s = true) (hlo : 16 + (maxL + 11) + rm.locals ≤ R.locals) (hp : PreS s H Pc As)
    (hg : g.method = m) (hn : As.length = n) (hsize : g.locals.size = nL) (hstack : g.stack = As.reverse ++ rest) (hW : 2 * g.monitorRoom + (rest.map fun v => v.category).sum ≤ 16) (hdg : decode cc g.pc = .ok (.invokestatic index, 3)) (hf : cells + mc ≤ R.cells ∧ slots + ms ≤ R.slots) :
    va_Run p l e R s m args below meth c H locs cells slots mc ms g rest (Qc As.toArray) (free) := by
  obtain ⟨⟨hrc, hrs, hfr, -, hws, hcw, hcode, hini, hy, hlen, hl⟩, hstt⟩ := cw
  have hK : Back l R p e below s args y 3 16 (PreOf R mc ms Pc) (PostOf Qc mc ms free) := back_of (bytes := bytes) (maxL := maxL) (ret := ret) hM hp.1 hrc hrs hfr hlo hws hcw (fun a' U hW => word_at hW (Or.inl (by first | rfl | simp [Cond.onTables, Cond.keeps, Cond.steady])) hini)
  obtain ⟨hx, hb, hml, ho, -⟩ := S
  intro T hT X
  obtain ⟨v, vm₁, ⟨U', l2, c2, s2⟩, hW₁, X', ⟨g', mk, t, L, e1, e2, hq, h1, hL, h2, h3⟩, st⟩ := callS X hx (bytes := bytes) (maxL := maxL) (ret := ret) ho hl hstt hini hcode hy hK hg (hsize.trans hml.symm) (argsL := As) (rest := rest) (fun sig h => hn.trans (hlen sig h)) hstack hW (by rw [hb]; exact hdg)
    (fun vm₁ hW₁ => ⟨hf.1, hf.2, hp.2 (T.setVm vm₁) hT hW₁⟩)
  dsimp only [Pt.U, Pt.locs, Pt.cells, Pt.slots] at X' e1 e2 h1 h2 h3 st
  subst h1; subst h2; subst h3
  exact ⟨v, (T.setVm vm₁).calling g' mk As.toArray, t, U', L, hT, X', hL, e1, e2, hq, st⟩
theorem room16 {pc : Nat} {ls : Array Slot} {st : List Value} (h : (st.map fun v => v.category).sum ≤ 16) : 2 * (F0 m pc ls rest).monitorRoom + (st.map fun v => v.category).sum ≤ 16 := by
  show 2 * 0 + _ ≤ 16
  omega
end
section
variable {D : va_G} {ad : Nat → Nat → Nat} {cI cJ cF : ClassId} {S S' : hS}
variable {p : Program} {l : Launch} {e : Env} {R : Room} {s : State} {m : MethodId} {args : Array Value} {below : List Frame} {meth : Method} {c : Code} {H : Heap} {locs : List Loc} {cells slots : Nat} {Q : State → Prop}
variable {cc : ByteArray} {pc nL : Nat} {ls : Array Slot} {st rest : List Value} {own : String} {ret : Option FieldType}
variable {y : MethodName} {b2 : ByteArray} {nL2 n index : Nat} {ret2 : Option FieldType} {rm : Room} {As : List Value} {Qc : Array Value → State → Outcome → State → Prop}
theorem iv_rS16 (E : hE D ad cI cJ cF p s m args meth c own cc nL ret) (hh : hH D ad cI cJ cF S s H locs)
    (hM : Met l y (.code y b2 nL2 ret2 :: hWall) rm (va_Pc As (hPre D ad cI cJ cF S)) Qc 0 0 (hAd ad)) (cb : hCbS y b2 nL2 ret2 n) (hl1 : Cond.methodLink own index y ∈ hWall)
    (hrc : rm.cells = 0) (hrs : rm.slots = 0) (hR : rm.frames + 1 ≤ R.frames ∧ 8 + (nL2 + 11) + rm.locals ≤ R.locals) (hlo : 16 + (nL2 + 11) + rm.locals ≤ R.locals)
    (hn : As.length = n) (hsz : ls.size = nL) (hst : st = As.reverse ++ rest) (hw8 : (rest.map fun v => v.category).sum ≤ 16) (hdg : decode cc pc = .ok (.invokestatic index, 3)) (hf : cells + 0 ≤ R.cells ∧ slots + 0 ≤ R.slots) :
    va_Run p l e R s m args below meth c H locs cells slots 0 0 (F0 m pc ls st) rest (Qc As.toArray) (hAd ad) := by
  obtain ⟨hx, hb, hml, hown, hts, hK, hN, hinj, hr, hlk, hz⟩ := E
  obtain ⟨hd, k1, k2, k4⟩ := cb
  have hg : GoodIn hWall (va_wsS own index y (.code y b2 nL2 ret2 :: hWall)) := gi_of (fun w hw => by
    unfold va_wsS at hw
    rcases List.mem_append.mp hw with h | h
    · simp only [List.mem_cons, List.mem_nil_iff, or_false] at h
      rcases h with rfl | rfl | rfl <;> assumption
    · exact gi_c k4 w h)
  exact run16 ⟨hx, hb, hml, hown, hts⟩ hM (va_cwS n hts hg rfl hrc hrs hd hR) hlo ⟨hPre_blind, fun U hU hW => hPre_at hh hK hN hU hW hz⟩ rfl hn hsz hst (room16 hw8) hdg hf
/-- what the law reads of its script -/
def cellV (xs : Nat → Int32) (L : Nat) (k : Int) : Int := if k < L then (xs k.toNat).toInt else 40503 * (k + 3)
theorem cellV_in (xs : Nat → Int32) (L : Nat) {k : Int} (k0 : 0 ≤ k) (k1 : k ≤ 100) : hIn (cellV xs L k) := by
  unfold cellV
  split
  · exact hIn_toInt _
  · exact ⟨by omega, by omega⟩
def cPre (b L : Nat) (xs : Nat → Int32) : State → Prop := fun U => va_X b L xs U U.heap ∧ b < U.heap.size
theorem cPre_blind {vs : List Value} {b L : Nat} {xs : Nat → Int32} : FrameBlind (va_Pc vs (cPre b L xs)) := fun a U g mk q => by
  obtain ⟨q0, q1, q2⟩ := q
  exact ⟨q0, va_X.moved (u := U) (U := U.calling g mk a) (Vm.Alike.refl U.vm) q1, q2⟩
def cQ (r : Int) : Array Value → State → Outcome → State → Prop := va_Qi (fun (x : Int32) (_ : Unit) => x = hI r ∧ hIn r) (fun _ _ => True) (fun _ => False)
theorem cb_L_cell : hCbS yL_cell cL_cell 2 (some .int) 2 := ⟨by decide +kernel, q2_73, q1_0, q2_74⟩
theorem ok_L_cell (l : Launch) {b L : Nat} {xs : Nat → Int32} (hL : L ≤ 260) {k : Int} (k0 : 0 ≤ k) (k1 : k ≤ 100) : Met l yL_cell (.code yL_cell cL_cell 2 (some .int) :: hWall) ({ frames := 0, cells := 0, slots := 0, locals := 0 } : Room) (va_Pc [.ref b, .int (hI k)] (cPre b L xs)) (cQ (cellV xs L k)) 0 0 (fun _ => False) := by
  refine Met.ofW (cc := cL_cell) (maxL := 2) (ret := some .int) (by decide +kernel) rfl ?_
  intro p e s m args below meth c s₁ B hml hv
  obtain ⟨rfl, hX, hbl⟩ := hv
  have hts0 := atoms_spec (ws := .code yL_cell cL_cell 2 (some .int) :: hWall) B.pre
  have hts : ∀ w ∈ hWall, w.before _ s = true := fun w hw => hts0 w (List.mem_cons_of_mem _ hw)
  have hown : s.vm.findClass RL = some m.cls := findClass_of_methodNamed B.named
  have hl := lv_entry ([.ref b, .int (hI k)]) (n := 2) (show (lg_sl ([.ref b, .int (hI k)])).length ≤ 2 from Nat.le_of_ble_eq_true rfl)
  rw [lg_entry_eq]
  generalize (lg_sl ([.ref b, .int (hI k)]) ++ List.replicate (2 - (lg_sl ([.ref b, .int (hI k)])).length) Slot.unset).toArray = ls at hl ⊢
  have hl : lv_has ls 2 [(0, .ref b), (1, .int (hI k))] := hl
  have hx := B.exec
  have hb := B.bytes
  have hr := B.returns
  have hlk := B.notSynchronized
  have hS : va_S (fun _ => False) s.heap s.heap [] := va_S.rf
  have ik : hIn k := ⟨by omega, by omega⟩
  have iv := cellV_in xs L k0 k1
  have eL : Int32.ofNat L = hI (L : Int) := rfl
  have fin : ∀ (v : Int), v = cellV xs L k → W p l e ({ frames := 0, cells := 0, slots := 0, locals := 0 } : Room) s m #[Value.ref b, Value.int (hI k)] below meth c s.heap [] 0 0 (MQ below (cQ (cellV xs L k)) #[Value.ref b, Value.int (hI k)] s 0 0 (fun _ => False)) (F0 m 18 ls [.int (hI v)]) := by
    intro v hv
    rw [hv]
    exact W.iret hx hb hr (fun t ht hW => ⟨⟨_, (), rfl, ⟨rfl, iv⟩, trivial⟩, hS.F ht⟩) hS.2.2 dL_cell_18 hlk
  refine lv_iload_n hx hb dL_cell_0 rfl (lv_at hl 1 rfl) ?_
  refine lv_aload_n hx hb dL_cell_1 rfl (lv_at hl 0 rfl) ?_
  refine va_slen hx hb hX hbl (fun z => z) hS dL_cell_2 ?_
  rw [eL]
  refine iv_icmp_ge (tgt := 12) hx hb ik ⟨by omega, by omega⟩ dL_cell_3 (by decide) (fun c1 => ?_) (fun c1 => ?_)
  · refine iv_ldc (n := 40503) hx hb (by decide) hown (hts _ q2_75) dL_cell_12 ?_
    refine lv_iload_n hx hb dL_cell_14 rfl (lv_at hl 1 rfl) ?_
    refine iv_iconst hx hb dL_cell_15 ?_
    refine iv_iadd hx hb dL_cell_16 ?_
    refine iv_imul hx hb dL_cell_17 ?_
    exact fin _ (by unfold cellV; rw [if_neg (by omega)])
  · refine lv_aload_n hx hb dL_cell_6 rfl (lv_at hl 0 rfl) ?_
    refine lv_iload_n hx hb dL_cell_7 rfl (lv_at hl 1 rfl) ?_
    obtain ⟨h1, h2⟩ := hI_ix (k := k) (n := L) ⟨k0, by omega⟩ (by omega)
    refine va_sld hx hb hX hbl (fun z => z) hS h1 dL_cell_8 ?_
    refine lv_goto (tgt := 18) hx hb dL_cell_9 (by decide) ?_
    rw [h2, ← hI_of (xs k.toNat)]
    exact fin _ (by unfold cellV; rw [if_pos (by omega)])
theorem iv_cell (E : hE D ad cI cJ cF p s m args meth c "HintedStemsLaw" cc nL ret) (hh : hH D ad cI cJ cF S s H locs) {b L : Nat} {xs : Nat → Int32} (hX : va_X b L xs s s.heap) (hbl : b < s.heap.size) (hbA : ¬ hAd ad b) (hL : L ≤ 260) {k : Int} (k0 : 0 ≤ k) (k1 : k ≤ 100)
    (hR : 0 + 1 ≤ R.frames ∧ 8 + (2 + 11) + 0 ≤ R.locals) (hlo : 16 + (2 + 11) + 0 ≤ R.locals) (hsz : ls.size = nL) (hw8 : (rest.map fun v => v.category).sum ≤ 16) (hdg : decode cc pc = .ok (.invokestatic 118, 3)) (hf : cells + 0 ≤ R.cells ∧ slots + 0 ≤ R.slots)
    (kk : hIn (cellV xs L k) → ∀ (H1 : Heap) (locs1 : List Loc), hH D ad cI cJ cF S s H1 locs1 → W p l e R s m args below meth c H1 locs1 cells slots Q (F0 m (pc + 3) ls (.int (hI (cellV xs L k)) :: rest))) : W p l e R s m args below meth c H locs cells slots Q (F0 m pc ls (.int (hI k) :: .ref b :: rest)) := by
  obtain ⟨hx, hb, hml, hown, hts, hK, hN, hinj, hr, hlk, hz⟩ := E
  obtain ⟨hd, c1, c2, c4⟩ := cb_L_cell
  have hl1 : Cond.methodLink "HintedStemsLaw" 118 yL_cell ∈ hWall := q2_72
  have hg : GoodIn hWall (va_wsS "HintedStemsLaw" 118 yL_cell (.code yL_cell cL_cell 2 (some .int) :: hWall)) := gi_of (fun w hw => by
    unfold va_wsS at hw
    rcases List.mem_append.mp hw with h | h
    · simp only [List.mem_cons, List.mem_nil_iff, or_false] at h
      rcases h with rfl | rfl | rfl <;> assumption
    · exact gi_c c4 w h)
  have hXH : va_X b L xs s H := hX.kept (hh.2.2.2.1 b hbl hbA)
  have hr2 := run16 (p := p) (e := e) (below := below) (meth := meth) (locs := locs) (cells := cells) (slots := slots) (As := [.ref b, .int (hI k)]) (rest := rest) (g := F0 m pc ls (.int (hI k) :: .ref b :: rest)) ⟨hx, hb, hml, hown, hts⟩ (ok_L_cell l (b := b) (L := L) (xs := xs) hL k0 k1) (va_cwS 2 hts hg rfl rfl rfl hd hR) hlo
    ⟨cPre_blind, fun U hU hW => ⟨rfl, by rw [hU]; exact va_X.moved hW.alike hXH, by rw [hU]; exact Nat.lt_of_lt_of_le hbl hh.2.2.1⟩⟩ rfl rfl hsz rfl (room16 hw8) hdg hf
  unfold cQ at hr2
  refine va_calli hr2 hh.2.2 (fun q _ h => h.elim) (fun q h => h.elim) (fun x u t H1 locs1 ht hvm hw hB hz1 hk1 hS => ?_)
  obtain ⟨rfl, hin⟩ := hw
  exact kk hin H1 locs1 ⟨fun k2 q hq => (hh.1 k2 q hq).kept (hk1 q.1 (hh.1 k2 q hq).lt (fun z => z)), hh.2.1, hS⟩
end

/-! the law's world apart; the invariant at its start -/
def kPerm (q : Nat) : Nat := if q < 26 then q + 1 else if q < 91 then q + 10 else if q < 100 then q - 64 else if q = 100 then 0 else q
theorem kPerm_inj {q q' : Nat} (h : q < 112) (h' : q' < 112) (e : kPerm q = kPerm q') : q = q' := by
  unfold kPerm at e
  split at e <;> split at e <;> (try split at e) <;> (try split at e) <;> (try split at e) <;> (try split at e) <;> (try split at e) <;> (try split at e) <;> omega
section
variable {D : va_G} {cI cJ cF : ClassId} {H : Heap} {A : Nat → Prop}
set_option maxRecDepth 100000 in
set_option maxHeartbeats 4000000 in
theorem kIx (cI cJ cF : ClassId) (h sz : Nat) (a0 a1 fi od hi la : Nat → Nat) (b : Nat → Nat → Nat) : (List.range 112).map (fun q => ((kAll cI cJ cF h a0 a1 fi od hi b la).map Prod.fst)[kPerm q]?) = (List.range 112).map (fun q => some (kAd h sz a0 a1 fi od hi b la (hUnpos q).1 (hUnpos q).2)) := rfl
theorem kIx_at {h sz : Nat} {a0 a1 fi od hi la : Nat → Nat} {b : Nat → Nat → Nat} {q : Nat} (hq : q < 112) : ∃ e, (kAll cI cJ cF h a0 a1 fi od hi b la)[kPerm q]? = some (kAd h sz a0 a1 fi od hi b la (hUnpos q).1 (hUnpos q).2, e) := by
  have h1 := congrArg (fun l => l[q]?) (kIx cI cJ cF h sz a0 a1 fi od hi la b)
  simp only [List.getElem?_map, List.getElem?_range hq, Option.map_some] at h1
  have h2 := Option.some.inj h1
  cases e : (kAll cI cJ cF h a0 a1 fi od hi b la)[kPerm q]? with
  | none => rw [e] at h2; cases h2
  | some x =>
    rw [e] at h2
    have h3 := Option.some.inj h2
    exact ⟨x.2, by rw [← h3]⟩
theorem kAll_inj {h sz : Nat} {a0 a1 fi od hi la : Nat → Nat} {b : Nat → Nat → Nat} (hD : va_D (fun q : Nat => sz ≤ q) (kAll cI cJ cF h a0 a1 fi od hi b la)) : hInj (kAd h sz a0 a1 fi od hi b la) := by
  refine ⟨fun q q' h1 h2 e => ?_, fun q h1 => ?_⟩
  · obtain ⟨x, hx⟩ := kIx_at (cI := cI) (cJ := cJ) (cF := cF) (h := h) (sz := sz) (a0 := a0) (a1 := a1) (fi := fi) (od := od) (hi := hi) (la := la) (b := b) h1
    obtain ⟨y, hy⟩ := kIx_at (cI := cI) (cJ := cJ) (cF := cF) (h := h) (sz := sz) (a0 := a0) (a1 := a1) (fi := fi) (od := od) (hi := hi) (la := la) (b := b) h2
    exact kPerm_inj h1 h2 (hD.1 _ _ _ _ hx hy e)
  · obtain ⟨x, hx⟩ := kIx_at (cI := cI) (cJ := cJ) (cF := cF) (h := h) (sz := sz) (a0 := a0) (a1 := a1) (fi := fi) (od := od) (hi := hi) (la := la) (b := b) h1
    exact hD.2 _ _ hx
end
theorem kA_z {i : Nat} (hi : i ≠ 0) (k : Int) : kS0 0 i k = 0 := by
  unfold kS0
  rw [if_pos (by decide), if_neg hi]
theorem kP_z {i : Nat} (hi : i ≠ 1) (k : Int) : kS0 10 i k = 0 := by
  unfold kS0
  rw [if_neg (by decide), if_pos rfl, if_neg hi]
theorem kA_bd {i : Nat} {k c : Int} (hi : i ≠ 0) (hc : 0 ≤ c) : 0 ≤ kS0 0 i k ∧ kS0 0 i k ≤ c := by rw [kA_z hi]; exact ⟨Int.le_refl _, hc⟩
theorem kS0_fNum : fNum (kS0 0) :=
  ⟨⟨by decide, by decide⟩, ⟨by decide, by decide⟩, ⟨by decide, by decide⟩, ⟨by decide, by decide⟩, fun k _ _ => kA_bd (by decide) (by decide), fun k _ _ => ⟨kA_bd (by decide) (by decide), kA_bd (by decide) (by decide), kA_bd (by decide) (by decide)⟩, fun g _ _ => ⟨kA_bd (by decide) (by decide), kA_bd (by decide) (by decide)⟩⟩
/-- what holds in the law's loops: as Inv27, with fewer sheets made than acts done -/
def Lp (S : hS) (j : Int) : Prop := RLA (S 0) (S 10) ∧ HisI S ∧ S 8 0 1 = 0 ∧ (0 ≤ S 0 7 0 ∧ S 0 7 0 ≤ j)
theorem Lp_inv {S : hS} {j : Int} (h : Lp S j) (hj : j ≤ 1000) : Inv27 S := ⟨h.1, h.2.1, h.2.2.1, h.2.2.2.1, by have := h.2.2.2.2; omega⟩
theorem Lp_nxt {S S1 : hS} {j : Int} (h : Lp S j) (q : Nxt S S1) : Lp S1 (j + 1) := ⟨q.1, q.2.1, q.2.2.1, q.2.2.2.1, by have := h.2.2.2.2; have := q.2.2.2.2; omega⟩
theorem Lp_sam {S S1 : hS} {j : Int} (h : Lp S j) (q : Sam S S1) : Lp S1 j := by
  unfold Lp HisI at h ⊢
  rw [q 0 (by decide), q 8 (by decide), q 9 (by decide), q 10 (by decide)]
  exact h
theorem kS0_Lp : Lp kS0 0 := by
  refine ⟨⟨⟨kS0_fNum, ⟨rfl, rfl, rfl⟩, ?_, fun g g0 g1 => ⟨fun c => ?_, fun _ => kA_z (by decide) _⟩, fun g k g0 g1 k0 k1 => ⟨fun c => ?_, fun _ => kA_z (by decide) _⟩⟩, rfl, fun s _ _ => by rw [kA_z (by decide)]; exact Int.le_refl _, 0, fun _ => 0, ⟨by decide, by decide⟩, fun i _ _ => kP_z (by decide) _, fun i i0 i1 => ?_, fun i j i0 i1 i2 => ?_, fun s s0 s1 c => ?_⟩, ⟨⟨by decide, by decide⟩, ⟨by decide, by decide⟩⟩, rfl, by decide, by decide⟩
  · show StR 0 0 0 0 0 0 0
    unfold StR
    omega
  · have e : kS0 0 0 0 = 0 := rfl
    omega
  · rw [kA_z (i := 2) (by decide)] at c
    omega
  · omega
  · omega
  · rw [kA_z (by decide)] at c
    omega

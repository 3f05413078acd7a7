/-! the law's world apart; the invariant at its start -/
def kPerm (q : Nat) : Nat := if q < 26 then q + 1 else if q < 91 then q + 10 else if q < 100 then q - 64 else if q < 108 then q + 1 else 0
theorem kPerm_inj {q q' : Nat} (h : q < 109) (h' : q' < 109) (e : kPerm q = kPerm q') : q = q' := by
  unfold kPerm at e
  split at e <;> split at e <;> (try split at e) <;> (try split at e) <;> (try split at e) <;> (try split at e) <;> (try split at e) <;> (try split at e) <;> omega
section
variable {D : va_G} {cI cJ cF : ClassId} {H : Heap} {A : Nat → Prop}
set_option maxRecDepth 100000 in
set_option maxHeartbeats 4000000 in
theorem kIx (cI cJ cF : ClassId) (h : Nat) (a0 a1 fi od hi mo : Nat → Nat) (b : Nat → Nat → Nat) : (List.range 109).map (fun q => ((kAll cI cJ cF h a0 a1 fi od hi mo b).map Prod.fst)[kPerm q]?) = (List.range 109).map (fun q => some (kAd h a0 a1 fi od hi mo b (hUnpos q).1 (hUnpos q).2)) := rfl
theorem kIx_at {h : Nat} {a0 a1 fi od hi mo : Nat → Nat} {b : Nat → Nat → Nat} {q : Nat} (hq : q < 109) : ∃ e, (kAll cI cJ cF h a0 a1 fi od hi mo b)[kPerm q]? = some (kAd h a0 a1 fi od hi mo b (hUnpos q).1 (hUnpos q).2, e) := by
  have h1 := congrArg (fun l => l[q]?) (kIx cI cJ cF h a0 a1 fi od hi mo b)
  simp only [List.getElem?_map, List.getElem?_range hq, Option.map_some] at h1
  have h2 := Option.some.inj h1
  cases e : (kAll cI cJ cF h a0 a1 fi od hi mo b)[kPerm q]? with
  | none => rw [e] at h2; cases h2
  | some x =>
    rw [e] at h2
    have h3 := Option.some.inj h2
    exact ⟨x.2, by rw [← h3]⟩
theorem kAll_inj {h : Nat} {a0 a1 fi od hi mo : Nat → Nat} {b : Nat → Nat → Nat} (hD : va_D A (kAll cI cJ cF h a0 a1 fi od hi mo b)) : hInj (kAd h a0 a1 fi od hi mo b) := by
  intro q q' h1 h2 e
  obtain ⟨x, hx⟩ := kIx_at (cI := cI) (cJ := cJ) (cF := cF) (h := h) (a0 := a0) (a1 := a1) (fi := fi) (od := od) (hi := hi) (mo := mo) (b := b) h1
  obtain ⟨y, hy⟩ := kIx_at (cI := cI) (cJ := cJ) (cF := cF) (h := h) (a0 := a0) (a1 := a1) (fi := fi) (od := od) (hi := hi) (mo := mo) (b := b) h2
  exact kPerm_inj h1 h2 (hD.1 _ _ _ _ hx hy e)
theorem kAll_A {h : Nat} {a0 a1 fi od hi mo : Nat → Nat} {b : Nat → Nat → Nat} (hD : va_D A (kAll cI cJ cF h a0 a1 fi od hi mo b)) (q : Nat) (hq : hAd (kAd h a0 a1 fi od hi mo b) q) : A q := by
  obtain ⟨k, hk, rfl⟩ := hq
  obtain ⟨x, hx⟩ := kIx_at (cI := cI) (cJ := cJ) (cF := cF) (h := h) (a0 := a0) (a1 := a1) (fi := fi) (od := od) (hi := hi) (mo := mo) (b := b) hk
  exact hD.2 _ _ hx
end
theorem kA_z {i : Nat} (hi : i ≠ 0) (k : Int) : kS0 0 i k = 0 := by
  unfold kS0
  rw [if_pos (by decide), if_neg hi]
theorem kr_z {q : Int} (h5 : ¬ q = 5) (h6 : ¬ q = 6) : kS0 10 1 q = 0 := by
  unfold kS0
  rw [if_neg (by decide), if_pos rfl, if_pos rfl, if_neg h5, if_neg h6]
theorem kP_z {i : Nat} (hi : i ≠ 1) (k : Int) : kS0 10 i k = 0 := by
  unfold kS0
  rw [if_neg (by decide), if_pos rfl, if_neg hi]
theorem kO_z {g : Nat} (h7 : ¬ g < 7) (h10 : ¬ g = 10) (i : Nat) (k : Int) : kS0 g i k = 0 := by
  unfold kS0
  rw [if_neg h7, if_neg h10]
theorem kr_bd {q c : Int} (h5 : ¬ q = 5) (h6 : ¬ q = 6) (hc : 0 ≤ c) : 0 ≤ kS0 10 1 q ∧ kS0 10 1 q ≤ c := by rw [kr_z h5 h6]; exact ⟨Int.le_refl _, hc⟩
theorem kA_bd {i : Nat} {k c : Int} (hi : i ≠ 0) (hc : 0 ≤ c) : 0 ≤ kS0 0 i k ∧ kS0 0 i k ≤ c := by rw [kA_z hi]; exact ⟨Int.le_refl _, hc⟩
theorem kS0_fNum : fNum (kS0 0) :=
  ⟨⟨by decide, by decide⟩, ⟨by decide, by decide⟩, ⟨by decide, by decide⟩, ⟨by decide, by decide⟩, fun k _ _ => kA_bd (by decide) (by decide), fun k _ _ => ⟨kA_bd (by decide) (by decide), kA_bd (by decide) (by decide), kA_bd (by decide) (by decide)⟩, fun g _ _ => ⟨kA_bd (by decide) (by decide), kA_bd (by decide) (by decide)⟩⟩
theorem kS0_mNum : mNum (kS0 10 1) := by
  refine ⟨⟨by decide, by decide⟩, ⟨by decide, by decide⟩, fun k k0 k1 => kr_bd (by omega) (by omega) (by decide), ⟨by decide, by decide⟩, ⟨by decide, by decide⟩, ⟨by decide, by decide⟩, ⟨by decide, by decide⟩, fun g g0 g1 => ⟨kr_bd (by omega) (by omega) (by decide), kr_bd (by omega) (by omega) (by decide), fun k k0 k1 => ⟨kr_bd (by omega) (by omega) (by decide), kr_bd (by omega) (by omega) (by decide), kr_bd (by omega) (by omega) (by decide)⟩⟩, fun i i0 i1 => ⟨kr_bd (by omega) (by omega) (by decide), kr_bd (by omega) (by omega) (by decide), fun g g0 g1 => kr_bd (by omega) (by omega) (by decide)⟩⟩
theorem kS0_RelF : RelF (kS0 0) (kS0 10 1) := by
  refine ⟨⟨rfl, rfl, rfl, rfl⟩, fun k k0 k1 => ?_, fun g g0 g1 => ⟨?_, fun c => ?_, fun _ => kA_z (by decide) _⟩, fun g k g0 g1 k0 k1 => ⟨fun c => ?_, fun _ => kA_z (by decide) _⟩⟩
  · have e : kS0 10 1 1 = 0 := rfl
    omega
  · rw [kA_z (by decide), kr_z (by omega) (by omega)]
  · have e : kS0 10 1 0 = 0 := rfl
    omega
  · rw [kA_z (i := 2) (by decide)] at c
    omega
theorem kS0_Inv : Inv kS0 0 := by
  refine ⟨⟨⟨kS0_fNum, kS0_mNum, kS0_RelF⟩, rfl, fun s _ _ => by rw [kA_z (by decide)]; exact Int.le_refl _, fun _ => 0, fun i i0 i1 => ?_, fun i j i0 i1 i2 => ?_, fun s s0 s1 c => ?_⟩, ⟨⟨by decide, by decide⟩, rfl, ⟨by decide, by decide⟩, fun j j0 j1 => ?_⟩, ⟨rfl, ⟨by decide, by decide⟩, fun k k0 k1 => ?_⟩, rfl, by decide, by decide⟩
  · have e : kS0 10 1 7 = 0 := rfl
    omega
  · have e : kS0 10 1 7 = 0 := rfl
    omega
  · rw [kA_z (by decide)] at c
    omega
  · have e : kS0 10 0 3 = 0 := rfl
    omega
  · have e : kS0 10 0 6 = 0 := rfl
    omega

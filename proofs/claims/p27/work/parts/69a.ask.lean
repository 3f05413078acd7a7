/-! what the class answers of stems and of counts -/
theorem so_no {S : hS} (f : fNum (S 0)) {g k w : Int} (h : ¬ ((0 ≤ g ∧ g < S 0 0 0) ∧ 0 ≤ k ∧ k < S 0 2 g)) : p_X5_stemOf S g k w ∧ v_X5_stemOf S g k w = -1000001 := by
  have c1 := hasStem_no f h
  refine ⟨⟨hasStem_p f g k, fun _ => trivial, fun z => absurd c1 z⟩, ?_⟩
  unfold v_X5_stemOf
  rw [if_pos c1]
theorem so_at {S : hS} {P : hGM} (h : RL0 (S 0) P) {g k : Int} (y : (0 ≤ g ∧ g < S 0 0 0) ∧ 0 ≤ k ∧ k < S 0 2 g) : (∀ w : Int, p_X5_stemOf S g k w) ∧ v_X5_stemOf S g k 0 = S 0 3 (g * 6 + k) ∧ v_X5_stemOf S g k 1 = S 0 4 (g * 6 + k) ∧ v_X5_stemOf S g k 2 = S 0 5 (g * 6 + k) ∧ v_X5_stemOf S g k 3 = v_X1_hintedWidth (S 0) (S 0 4 (g * 6 + k)) ∧ v_X5_stemOf S g k 4 = (if v_X1_snapOf (S 0) (S 0 4 (g * 6 + k)) = 0 then (-1000004) else v_X1_snapOf (S 0) (S 0 4 (g * 6 + k))) ∧ v_X5_stemOf S g k 5 = v_X1_alikeWith (S 0) (S 0 4 (g * 6 + k)) ∧ v_X5_stemOf S g k 6 = (if k = 0 then (-1000004) else S 0 3 (g * 6 + k) - (S 0 3 (g * 6 + (k - 1)) + S 0 4 (g * 6 + (k - 1)))) ∧ v_X5_stemOf S g k 7 = -1000001 := by
  have f := h.1
  have n := rl_g h
  have c1 := hasStem_yes f y
  have g8 : g < 8 := by omega
  have mb := rl_m8 h y.1.1 g8
  have st := rl_stem h y.1.1 g8 y.2.1 y.2.2
  have e3 : v_X5_cell (S 0) 3 48 (g * 6 + k) = S 0 3 (g * 6 + k) := cell_in (by omega) (by omega)
  have e4 : v_X5_cell (S 0) 4 48 (g * 6 + k) = S 0 4 (g * 6 + k) := cell_in (by omega) (by omega)
  have e5 : v_X5_cell (S 0) 5 48 (g * 6 + k) = S 0 5 (g * 6 + k) := cell_in (by omega) (by omega)
  have ps : p_X1_snapOf (S 0) (v_X5_cell (S 0) 4 48 (g * 6 + k)) := ⟨f, by omega, by omega⟩
  have ee : ¬ k = 0 → v_X1_endOf (S 0) (g * 6 + k - 1) = S 0 3 (g * 6 + (k - 1)) + S 0 4 (g * 6 + (k - 1)) := fun z => by
    unfold v_X1_endOf
    rw [cell_in (by omega) (by omega), cell_in (by omega) (by omega), show g * 6 + k - 1 = g * 6 + (k - 1) by omega]
  have i7 : v_X5_within 7 0 6 = 0 := within_0.mpr (by omega)
  refine ⟨fun w => ⟨hasStem_p f g k, fun z => absurd z c1, fun _ => ⟨fun _ => trivial, fun _ => ⟨⟨by omega, by omega⟩, fun _ => trivial, fun _ => ⟨fun _ => trivial, fun _ => ⟨fun _ => trivial, fun _ => ⟨fun _ => ⟨hinted_p ps, trivial⟩, fun _ => ⟨fun _ => ⟨ps, fun _ => trivial, fun _ => trivial⟩, fun _ => ⟨fun _ => ⟨ps, trivial⟩, fun _ => ⟨fun _ => trivial, fun z => ⟨⟨by omega, by omega⟩, ⟨?_, trivial⟩, ?_, trivial⟩⟩⟩⟩⟩⟩⟩⟩⟩⟩, ?_, ?_, ?_, ?_, ?_, ?_, ?_, ?_⟩
  · rw [cell_in (by omega) (by omega), cell_in (by omega) (by omega)]
    have b := f.2.2.2.2.2.1 (g * 6 + k - 1) (by omega) (by omega)
    exact ⟨by omega, by omega⟩
  · rw [e3, ee z]
    have b := f.2.2.2.2.2.1 (g * 6 + (k - 1)) (by omega) (by omega)
    exact ⟨by omega, by omega⟩
  · unfold v_X5_stemOf
    rw [if_neg c1, e3, e4, e5]
    rfl
  · unfold v_X5_stemOf
    rw [if_neg c1, e3, e4, e5]
    rfl
  · unfold v_X5_stemOf
    rw [if_neg c1, e3, e4, e5]
    rfl
  · unfold v_X5_stemOf
    rw [if_neg c1, e3, e4, e5]
    rfl
  · unfold v_X5_stemOf
    rw [if_neg c1, e3, e4, e5]
    rfl
  · unfold v_X5_stemOf
    rw [if_neg c1, e3, e4, e5]
    rfl
  · unfold v_X5_stemOf
    rw [if_neg c1, e3, e4, e5]
    show (if k = 0 then (-1000004) else (S 0 3 (g * 6 + k) - v_X1_endOf (S 0) (g * 6 + k - 1))) = _
    by_cases z : k = 0
    · rw [if_pos z, if_pos z]
    · rw [if_neg z, if_neg z, ee z]
  · unfold v_X5_stemOf
    rw [if_neg c1, if_pos i7]
theorem stale_p {A P : hGM} (hn : fNum A) {N : Int} {o : Int → Int} (hord : OrdL A P N o) {i : Int} (i0 : 0 ≤ i) (i1 : i < N) (T : hGM) : p_X1_isStale A T (o i) :=
  ⟨hn, (hord.1 i i0 i1).1, fun _ => (hord.1 i i0 i1).2.2.2.1⟩
theorem ct_p {S : hS} {P : hGM} (hr : RLA (S 0) P) (w : Int) : p_X5_count S w := by
  have f := hr.1.1
  obtain ⟨hs, N, o, hN, hz, hord⟩ := hr.2.2
  have sp : p_X5_staleSheets S := by
    intro k T k4 km
    have m := made_iff (A := S 0) (k := (k : Int)) (by omega) (by omega)
    obtain ⟨i, i0, i1, i2⟩ := hord.2.2 k (by omega) (by omega) (Decidable.byContradiction (fun y => km (m.mpr y)))
    rw [← i2]
    exact stale_p f hord i0 i1 T
  refine ⟨fun _ => trivial, fun _ => ⟨fun _ => ⟨f, trivial⟩, fun _ => ⟨fun _ => trivial, fun _ => ⟨fun _ => ⟨trivial, trivial⟩, fun _ => ⟨fun _ => ⟨sp, trivial⟩, fun _ => ⟨fun _ => ⟨f, trivial⟩, fun _ => ⟨fun _ => trivial, fun _ => ⟨fun _ => trivial, fun _ => ⟨fun _ => trivial, fun _ => ⟨fun _ => trivial, fun _ => ⟨fun e => ⟨⟨by omega, by omega⟩, fun _ => trivial, fun _ => trivial⟩, fun _ => ⟨fun e => ⟨⟨by omega, by omega⟩, fun _ => trivial, fun _ => trivial⟩, fun _ => ⟨fun e => ⟨⟨by omega, by omega⟩, fun _ => trivial, fun _ => trivial⟩, fun _ => ⟨fun _ => trivial, fun _ => ⟨fun _ => trivial, fun _ => ⟨fun _ => trivial, fun _ => ⟨fun _ => trivial, fun _ => ⟨fun _ => trivial, fun _ => ⟨fun _ => trivial, fun _ => ⟨fun _ => trivial, fun _ => ⟨fun _ => trivial, fun _ => ⟨fun _ => trivial, fun _ => trivial⟩⟩⟩⟩⟩⟩⟩⟩⟩⟩⟩⟩⟩⟩⟩⟩⟩⟩⟩⟩⟩⟩
theorem ct_same {S : hS} {w : Int} (h : ¬ w = 4) : m_X5_count S w = S := by
  unfold m_X5_count
  rw [if_neg h]
  simp only [ite_self]
theorem ct_4 (S : hS) : m_X5_count S 4 = gset S 7 (slS (S 0) (S 7) 4).2 := rfl
/-- the memory behind a look: the fit alone is another -/
def Sam (S S1 : hS) : Prop := ∀ g : Nat, g ≠ 7 → S1 g = S g
theorem sam_rf (S : hS) : Sam S S := fun _ _ => rfl
theorem sam_7 {S S1 : hS} (h : Sam S S1) (T : hGM) : Sam S (gset S1 7 T) := fun g hg => by rw [gset_ne hg]; exact h g hg
theorem sam_inv {S S1 : hS} (h : Inv27 S) (q : Sam S S1) : Inv27 S1 := by
  have e0 := q 0 (by decide)
  have e8 := q 8 (by decide)
  have e9 := q 9 (by decide)
  have e10 := q 10 (by decide)
  unfold Inv27 HisI at h ⊢
  rw [e0, e8, e9, e10]
  exact h
theorem sam_tr {S S1 S2 : hS} (h : Sam S S1) (q : Sam S1 S2) : Sam S S2 := fun g hg => (q g hg).trans (h g hg)
theorem sam_ct {S S1 : hS} (h : Sam S S1) (w : Int) : Sam S (m_X5_count S1 w) := by
  by_cases e : w = 4
  · rw [e, ct_4]; exact sam_7 h _
  · rw [ct_same e]; exact h
/-- stems of all glyphs, flat -/
theorem all_stems {A P : hGM} (h : RL0 A P) : v_X1_stemsTogether A = sumN (fun k => if 0 < A 4 k then 1 else 0) 48 := by
  unfold v_X1_stemsTogether
  rw [show (48 : Nat) = 6 * 8 from rfl, sumN_6]
  refine sumN_congr 8 (fun g g0 g1 => ?_)
  have mb := rl_m8 h g0 (by omega)
  have e : ∀ n : Nat, n ≤ 6 → sumN (fun k => if 0 < A 4 (g * 6 + k) then 1 else 0) n = if (n : Int) ≤ A 2 g then (n : Int) else A 2 g := by
    intro n
    induction n with
    | zero => intro _; rw [if_pos (by omega)]; rfl
    | succ n ih =>
      intro hn
      rw [sumN_s, ih (by omega)]
      have v : 0 < A 4 (g * 6 + n) ↔ (n : Int) < A 2 g := by
        constructor
        · intro c
          by_cases d : (n : Int) < A 2 g
          · exact d
          · have := rl_none h g0 (by omega) (k := n) (by omega) (by omega) (by omega)
            omega
        · intro d
          have := (rl_stem h g0 (by omega : g < 8) (k := n) (by omega) d).2.2.1
          omega
      show (if (n : Int) ≤ A 2 g then (n : Int) else A 2 g) + (if 0 < A 4 (g * 6 + n) then 1 else 0) = if ((n + 1 : Nat) : Int) ≤ A 2 g then ((n + 1 : Nat) : Int) else A 2 g
      by_cases c : 0 < A 4 (g * 6 + n)
      · have := v.mp c
        rw [if_pos c, if_pos (by omega), if_pos (by omega)]; rfl
      · have := fun z => c (v.mpr z)
        rw [if_neg c]
        by_cases d : (n : Int) ≤ A 2 g
        · rw [if_pos d, if_neg (by omega)]; omega
        · rw [if_neg d, if_neg (by omega)]; omega
  have q := e 6 (by decide)
  show A 2 g = sumN (fun k => if 0 < A 4 (g * 6 + k) then 1 else 0) 6
  rw [q]
  split <;> omega

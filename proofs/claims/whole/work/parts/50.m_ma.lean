def v_X6_in (v1 : Int) (least : Int) (most : Int) : Int := (if v1 < least then 0 else (if v1 ≤ most then 1 else 0))
theorem z_X6_in (v1 : Int) (least : Int) (most : Int) : v_X6_in v1 least most = 0 ∨ v_X6_in v1 least most = 1 := by
  unfold v_X6_in
  (repeat' split) <;> first | exact Or.inl rfl | exact Or.inr rfl
def p_X6_floor (v1 : Int) (by1 : Int) : Prop := ((v1 < 0 → (hIn ((by1 - 1) - v1) ∧ (0 ≤ ((by1 - 1) - v1) ∧ (0 < by1 ∧ (hIn (-(((by1 - 1) - v1) / by1)) ∧ True))))) ∧ (¬ v1 < 0 → (0 ≤ v1 ∧ (0 < by1 ∧ (hIn (v1 / by1) ∧ True)))))
def v_X6_floor (v1 : Int) (by1 : Int) : Int := (if v1 < 0 then (-(((by1 - 1) - v1) / by1)) else (v1 / by1))
def p_X6_copies (A : hGM) (i1 : Nat) (n1 : Nat) (i2 : Nat) (n2 : Nat) : Prop := i1 ≠ i2 ∧ 273 ≤ n1 ∧ 273 ≤ n2
def m_X6_copies (A : hGM) (i1 : Nat) (n1 : Nat) (i2 : Nat) (n2 : Nat) : hGM := cpR A i2 (A i1) 273
set_option maxHeartbeats 4000000 in
theorem x_X6_copies (A : hGM) (i1 : Nat) (n1 : Nat) (i2 : Nat) (n2 : Nat) (h_n1 : n1 < 100000) (h_n2 : n2 < 100000) (hRA : ∀ (i : Nat) (k : Int), i < 100 → hIn (A i k)) (hp : p_X6_copies A i1 n1 i2 n2) (B2 : Int → hGM → Prop) (Po : hGM → Prop) 
  (r2 : ∀ (y2 : Int) (A1 : hGM), hIn y2 → ((∀ (i : Nat) (k : Int), i < 100 → hIn (A1 i k)) → ((y2 < 273 → ((0 ≤ y2 ∧ y2 < (n1 : Int)) ∧ ((0 ≤ y2 ∧ y2 < (n2 : Int)) ∧ (B2 (y2 + 1) (aset A1 i2 y2 (A1 i1 y2)))))) ∧ (¬ y2 < 273 → (Po A1)))) → (B2 y2 A1)) 
  (hpost : Po (m_X6_copies A i1 n1 i2 n2)) : (B2 0 A) := by
  obtain ⟨hne, q1, q2⟩ := hp
  have h : B2 0 (cpR A i2 (A i1) 0) := by
    refine upI (C := fun k => B2 k (cpR A i2 (A i1) k)) (lo := 0) (hi := 273) (by decide) ?_ ?_
    · exact r2 _ _ ⟨by omega, by omega⟩ (fun _ => ⟨fun _ => by omega, fun _ => hpost⟩)
    · intro k h0 hk h
      refine r2 _ _ ⟨by omega, by omega⟩ (fun _ => ⟨fun _ => ⟨⟨by omega, by omega⟩, ⟨by omega, by omega⟩, ?_⟩, fun _ => by omega⟩)
      rw [cpR_row hne, cpR_succ h0]
      exact h
  rw [cpR_0] at h
  exact h
def p_X6_changes (P : hGM) : Prop := 0 ≤ P 0 3 ∧ P 0 3 ≤ 4
/-- the oldest state goes if there are four -/
def ch1 (P : hGM) : hGM := if P 0 3 = 4 then aset (cpR P 2 (fun q => P 2 (q + 273)) 819) 0 3 (P 0 3 - 1) else P
def m_X6_changes (P : hGM) : hGM := if P 0 4 = 0 then aset (cpO (ch1 P) 2 (273 * ch1 P 0 3) (P 1) 273) 0 3 (ch1 P 0 3 + 1) else P
set_option maxHeartbeats 4000000 in
theorem x_X6_changes (P : hGM) (hRP : ∀ (i : Nat) (k : Int), i < 100 → hIn (P i k)) (hp : p_X6_changes P) (B18 : Int → hGM → Prop) (B59 : Int → hGM → Prop) (Po : hGM → Prop) 
  (r18 : ∀ (y1 : Int) (P1 : hGM), hIn y1 → ((∀ (i : Nat) (k : Int), i < 100 → hIn (P1 i k)) → ((y1 < 819 → ((0 ≤ (y1 + 273) ∧ (y1 + 273) < 1092) ∧ ((0 ≤ y1 ∧ y1 < 1092) ∧ (B18 (y1 + 1) (aset P1 2 y1 (P1 2 (y1 + 273))))))) ∧ (¬ y1 < 819 → (hIn ((P1 0 3) - 1) ∧ (B59 0 (aset P1 0 3 ((P1 0 3) - 1))))))) → (B18 y1 P1)) 
  (r59 : ∀ (y1 : Int) (P1 : hGM), hIn y1 → ((∀ (i : Nat) (k : Int), i < 100 → hIn (P1 i k)) → ((y1 < 273 → ((0 ≤ y1 ∧ y1 < 273) ∧ ((0 ≤ ((273 * (P1 0 3)) + y1) ∧ ((273 * (P1 0 3)) + y1) < 1092) ∧ (B59 (y1 + 1) (aset P1 2 ((273 * (P1 0 3)) + y1) (P1 1 y1)))))) ∧ (¬ y1 < 273 → (hIn ((P1 0 3) + 1) ∧ (Po (aset P1 0 3 ((P1 0 3) + 1))))))) → (B59 y1 P1)) 
  (hpost : Po (m_X6_changes P)) : (((P 0 4) = 0 → (((P 0 3) = 4 → (B18 0 P)) ∧ (¬ (P 0 3) = 4 → (B59 0 P)))) ∧ (¬ (P 0 4) = 0 → (Po P))) := by
  obtain ⟨q0, q1⟩ := hp
  unfold m_X6_changes at hpost
  refine ⟨fun c => ?_, fun c => ?_⟩
  · rw [if_pos c] at hpost
    have h59 : ∀ L : hGM, L = ch1 P → L 1 = P 1 → 0 ≤ L 0 3 → L 0 3 ≤ 3 → B59 0 L := by
      intro L hL h1 h3 h4
      rw [← hL] at hpost
      have h : B59 0 (cpO L 2 (273 * L 0 3) (P 1) 0) := by
        refine upI (C := fun k => B59 k (cpO L 2 (273 * L 0 3) (P 1) k)) (lo := 0) (hi := 273) (by decide) ?_ ?_
        · refine r59 _ _ ⟨by omega, by omega⟩ (fun _ => ⟨fun _ => by omega, fun _ => ?_⟩)
          rw [cpO_row (show (0 : Nat) ≠ 2 by decide)]
          exact ⟨⟨by omega, by omega⟩, hpost⟩
        · intro k h0 hk h
          refine r59 _ _ ⟨by omega, by omega⟩ (fun _ => ⟨fun _ => ⟨⟨by omega, by omega⟩, ?_⟩, fun _ => by omega⟩)
          rw [cpO_row (show (0 : Nat) ≠ 2 by decide), cpO_row (show (1 : Nat) ≠ 2 by decide), h1, cpO_succ h0]
          exact ⟨⟨by omega, by omega⟩, h⟩
      rw [cpO_0] at h
      exact h
    refine ⟨fun c4 => ?_, fun c4 => h59 P (if_neg c4).symm rfl q0 (by omega)⟩
    have e1 : ch1 P = aset (cpR P 2 (fun q => P 2 (q + 273)) 819) 0 3 (P 0 3 - 1) := if_pos c4
    have hb := h59 (aset (cpR P 2 (fun q => P 2 (q + 273)) 819) 0 3 (P 0 3 - 1)) e1.symm (by rw [aset_row (by decide), cpR_row (by decide)]) (by rw [aset_at]; omega) (by rw [aset_at]; omega)
    have h : B18 0 (cpR P 2 (fun q => P 2 (q + 273)) 0) := by
      refine upI (C := fun k => B18 k (cpR P 2 (fun q => P 2 (q + 273)) k)) (lo := 0) (hi := 819) (by decide) ?_ ?_
      · refine r18 _ _ ⟨by omega, by omega⟩ (fun _ => ⟨fun _ => by omega, fun _ => ?_⟩)
        rw [cpR_row (show (0 : Nat) ≠ 2 by decide)]
        exact ⟨⟨by omega, by omega⟩, hb⟩
      · intro k h0 hk h
        refine r18 _ _ ⟨by omega, by omega⟩ (fun _ => ⟨fun _ => ⟨⟨by omega, by omega⟩, ⟨by omega, by omega⟩, ?_⟩, fun _ => by omega⟩)
        rw [cpR_out (show ¬ (2 = 2 ∧ 0 ≤ k + 273 ∧ k + 273 < k) by omega)]
        have es : aset (cpR P 2 (fun q => P 2 (q + 273)) k) 2 k (P 2 (k + 273)) = cpR P 2 (fun q => P 2 (q + 273)) (k + 1) := cpR_succ (f := fun q => P 2 (q + 273)) h0
        rw [es]
        exact h
    rw [cpR_0] at h
    exact h
  · rw [if_neg c] at hpost; exact hpost
def v_X6_isSize (size : Int) : Int := (v_X6_in size 6 48)
theorem z_X6_isSize (size : Int) : v_X6_isSize size = 0 ∨ v_X6_isSize size = 1 := by
  unfold v_X6_isSize
  (repeat' split) <;> first | exact Or.inl rfl | exact Or.inr rfl | exact z_X6_in _ _ _
def v_X6_isGlyph (P : hGM) (g1 : Int) : Int := (if g1 < 0 then 0 else (if g1 < (P 1 0) then 1 else 0))
theorem z_X6_isGlyph (P : hGM) (g1 : Int) : v_X6_isGlyph P g1 = 0 ∨ v_X6_isGlyph P g1 = 1 := by
  unfold v_X6_isGlyph
  (repeat' split) <;> first | exact Or.inl rfl | exact Or.inr rfl
def p_X6_of (P : hGM) (glyph : Int) (what : Int) : Prop := ((0 ≤ ((9 + (20 * glyph)) + what) ∧ ((9 + (20 * glyph)) + what) < 273) ∧ True)
def v_X6_of (P : hGM) (glyph : Int) (what : Int) : Int := (P 1 ((9 + (20 * glyph)) + what))
def p_X6_isStem (P : hGM) (glyph : Int) (stem : Int) : Prop := (((v_X6_isGlyph P glyph) = 0 → True) ∧ (¬ (v_X6_isGlyph P glyph) = 0 → ((stem < 0 → True) ∧ (¬ stem < 0 → (p_X6_of P glyph 1 ∧ ((stem < (v_X6_of P glyph 1) → True) ∧ (¬ stem < (v_X6_of P glyph 1) → True)))))))
def v_X6_isStem (P : hGM) (glyph : Int) (stem : Int) : Int := (if (v_X6_isGlyph P glyph) = 0 then 0 else (if stem < 0 then 0 else (if stem < (v_X6_of P glyph 1) then 1 else 0)))
theorem z_X6_isStem (P : hGM) (glyph : Int) (stem : Int) : v_X6_isStem P glyph stem = 0 ∨ v_X6_isStem P glyph stem = 1 := by
  unfold v_X6_isStem
  (repeat' split) <;> first | exact Or.inl rfl | exact Or.inr rfl | exact z_X6_isGlyph _ _
def p_X6_at (glyph : Int) (stem : Int) (what : Int) : Prop := (hIn ((((9 + (20 * glyph)) + 2) + (3 * stem)) + what) ∧ True)
def v_X6_at (glyph : Int) (stem : Int) (what : Int) : Int := ((((9 + (20 * glyph)) + 2) + (3 * stem)) + what)
def p_X6_ofStem (P : hGM) (glyph : Int) (stem : Int) (what : Int) : Prop := (p_X6_at glyph stem what ∧ ((0 ≤ (v_X6_at glyph stem what) ∧ (v_X6_at glyph stem what) < 273) ∧ True))
def v_X6_ofStem (P : hGM) (glyph : Int) (stem : Int) (what : Int) : Int := (P 1 (v_X6_at glyph stem what))
def p_X6_endOf (P : hGM) (glyph : Int) (stem : Int) : Prop := (p_X6_ofStem P glyph stem 0 ∧ (p_X6_ofStem P glyph stem 1 ∧ (hIn ((v_X6_ofStem P glyph stem 0) + (v_X6_ofStem P glyph stem 1)) ∧ True)))
def v_X6_endOf (P : hGM) (glyph : Int) (stem : Int) : Int := ((v_X6_ofStem P glyph stem 0) + (v_X6_ofStem P glyph stem 1))
-- AFTER
theorem ch1_row {P : hGM} {i : Nat} (h0 : i ≠ 0) (h2 : i ≠ 2) : ch1 P i = P i := by
  unfold ch1
  split
  · rw [aset_row h0, cpR_row h2]
  · rfl
theorem changes_row {P : hGM} {i : Nat} (h0 : i ≠ 0) (h2 : i ≠ 2) : m_X6_changes P i = P i := by
  unfold m_X6_changes
  split
  · rw [aset_row h0, cpO_row h2, ch1_row h0 h2]
  · rfl
theorem ch1_03 {P : hGM} (h : 0 ≤ P 0 3 ∧ P 0 3 ≤ 4) : 0 ≤ ch1 P 0 3 ∧ ch1 P 0 3 ≤ 3 := by
  unfold ch1
  split
  · rw [aset_at]; omega
  · omega
theorem changes_03 {P : hGM} (h : 0 ≤ P 0 3 ∧ P 0 3 ≤ 4) : 0 ≤ m_X6_changes P 0 3 ∧ m_X6_changes P 0 3 ≤ 4 := by
  have b := ch1_03 h
  unfold m_X6_changes
  split
  · rw [aset_at]; omega
  · exact h
theorem in_0 {x a b : Int} : v_X6_in x a b = 0 ↔ ¬ (a ≤ x ∧ x ≤ b) := by
  unfold v_X6_in
  split
  · exact ⟨fun _ q => by omega, fun _ => rfl⟩
  · split
    · exact ⟨fun q => by omega, fun q => by omega⟩
    · exact ⟨fun _ q => by omega, fun _ => rfl⟩
theorem isGlyph_0 {P : hGM} {g : Int} : v_X6_isGlyph P g = 0 ↔ ¬ (0 ≤ g ∧ g < P 1 0) := by
  unfold v_X6_isGlyph
  split
  · exact ⟨fun _ q => by omega, fun _ => rfl⟩
  · split
    · exact ⟨fun q => by omega, fun q => by omega⟩
    · exact ⟨fun _ q => by omega, fun _ => rfl⟩
theorem of_p {P : hGM} {g w : Int} (g0 : 0 ≤ g) (g1 : g < 8) (w0 : 0 ≤ w) (w1 : w < 20) : p_X6_of P g w := ⟨⟨by omega, by omega⟩, trivial⟩
theorem at_p {g k w : Int} (g0 : 0 ≤ g) (g1 : g ≤ 8) (k0 : 0 ≤ k) (k1 : k ≤ 6) (w0 : 0 ≤ w) (w1 : w < 3) : p_X6_at g k w := ⟨⟨by omega, by omega⟩, trivial⟩
theorem at_bd {g k w : Int} (g0 : 0 ≤ g) (g1 : g < 8) (k0 : 0 ≤ k) (k1 : k < 6) (w0 : 0 ≤ w) (w1 : w < 3) : 0 ≤ v_X6_at g k w ∧ v_X6_at g k w < 273 := by unfold v_X6_at; omega
theorem ofStem_p {P : hGM} {g k w : Int} (g0 : 0 ≤ g) (g1 : g < 8) (k0 : 0 ≤ k) (k1 : k < 6) (w0 : 0 ≤ w) (w1 : w < 3) : p_X6_ofStem P g k w := ⟨at_p g0 (by omega) k0 (by omega) w0 w1, at_bd g0 g1 k0 k1 w0 w1, trivial⟩
theorem of_bd {P : hGM} (h : mNum (P 1)) {g : Int} (g0 : 0 ≤ g) (g1 : g < 8) : 0 ≤ v_X6_of P g 1 ∧ v_X6_of P g 1 ≤ 6 := (h.2.2.2.2.2.2.2.1 g g0 g1).2.1
theorem ofStem_bd {P : hGM} (h : mNum (P 1)) {g k : Int} (g0 : 0 ≤ g) (g1 : g < 8) (k0 : 0 ≤ k) (k1 : k < 6) : (0 ≤ v_X6_ofStem P g k 0 ∧ v_X6_ofStem P g k 0 ≤ 999) ∧ (0 ≤ v_X6_ofStem P g k 1 ∧ v_X6_ofStem P g k 1 ≤ 300) ∧ (0 ≤ v_X6_ofStem P g k 2 ∧ v_X6_ofStem P g k 2 ≤ 3) := by
  have b := (h.2.2.2.2.2.2.2.1 g g0 g1).2.2 k k0 k1
  unfold v_X6_ofStem v_X6_at
  rw [Int.add_zero]
  exact b
theorem endOf_p {P : hGM} (h : mNum (P 1)) {g k : Int} (g0 : 0 ≤ g) (g1 : g < 8) (k0 : 0 ≤ k) (k1 : k < 6) : p_X6_endOf P g k := by
  have b := ofStem_bd h g0 g1 k0 k1
  exact ⟨ofStem_p g0 g1 k0 k1 (by decide) (by decide), ofStem_p g0 g1 k0 k1 (by decide) (by decide), ⟨by omega, by omega⟩, trivial⟩
theorem isStem_p {P : hGM} (h : mNum (P 1)) (g k : Int) : p_X6_isStem P g k := by
  have n0 := h.1
  refine ⟨fun _ => trivial, fun c => ⟨fun _ => trivial, fun c2 => ⟨?_, fun _ => trivial, fun _ => trivial⟩⟩⟩
  have q := Decidable.not_not.mp (fun z => c (isGlyph_0.mpr z))
  exact of_p q.1 (by omega) (by decide) (by decide)
theorem isStem_0 {P : hGM} {g k : Int} : v_X6_isStem P g k = 0 ↔ ¬ ((0 ≤ g ∧ g < P 1 0) ∧ 0 ≤ k ∧ k < v_X6_of P g 1) := by
  unfold v_X6_isStem
  by_cases c : v_X6_isGlyph P g = 0
  · rw [if_pos c]
    exact ⟨fun _ q => isGlyph_0.mp c q.1, fun _ => rfl⟩
  · rw [if_neg c]
    have q := Decidable.not_not.mp (fun z => c (isGlyph_0.mpr z))
    split
    · exact ⟨fun _ q => by omega, fun _ => rfl⟩
    · split
      · exact ⟨fun q => by omega, fun z => absurd ⟨q, by omega, by omega⟩ z⟩
      · exact ⟨fun _ q => by omega, fun _ => rfl⟩
def p_X6_glyph (P : hGM) (advance : Int) : Prop := (((v_X6_in advance 100 1500) = 0 → True) ∧ (¬ (v_X6_in advance 100 1500) = 0 → (((P 1 0) = 8 → True) ∧ (¬ (P 1 0) = 8 → (p_X6_changes P ∧ ((0 ≤ ((9 + (20 * (P 1 0))) + 0) ∧ ((9 + (20 * (P 1 0))) + 0) < 273) ∧ ((0 ≤ ((9 + (20 * (P 1 0))) + 1) ∧ ((9 + (20 * (P 1 0))) + 1) < 273) ∧ (hIn (((aset (aset (m_X6_changes P) 1 ((9 + (20 * (P 1 0))) + 0) advance) 1 ((9 + (20 * (P 1 0))) + 1) 0) 1 0) + 1) ∧ True))))))))
def v_X6_glyph (P : hGM) (advance : Int) : Int := (if (v_X6_in advance 100 1500) = 0 then (-1000001) else (if (P 1 0) = 8 then (-1000003) else (P 1 0)))
def m_X6_glyph (P : hGM) (advance : Int) : hGM := (if (v_X6_in advance 100 1500) = 0 then P else (if (P 1 0) = 8 then P else (aset (aset (aset (m_X6_changes P) 1 ((9 + (20 * (P 1 0))) + 0) advance) 1 ((9 + (20 * (P 1 0))) + 1) 0) 1 0 (((aset (aset (m_X6_changes P) 1 ((9 + (20 * (P 1 0))) + 0) advance) 1 ((9 + (20 * (P 1 0))) + 1) 0) 1 0) + 1))))
def p_X6_ahead (P : hGM) (glyph : Int) (place : Int) : Prop := mNum (P 1) ∧ 0 ≤ glyph ∧ glyph < 8
def v_X6_ahead (P : hGM) (glyph : Int) (place : Int) : Int := if firstN (fun k => decide (¬ v_X6_ofStem P glyph k 0 < place)) (v_X6_of P glyph 1).toNat = -1 then v_X6_of P glyph 1 else firstN (fun k => decide (¬ v_X6_ofStem P glyph k 0 < place)) (v_X6_of P glyph 1).toNat
theorem ahead_bd {P : hGM} {g p : Int} (h : 0 ≤ v_X6_of P g 1) : 0 ≤ v_X6_ahead P g p ∧ v_X6_ahead P g p ≤ v_X6_of P g 1 := by
  have s := firstN_spec (fun k => decide (¬ v_X6_ofStem P g k 0 < p)) (v_X6_of P g 1).toNat
  unfold v_X6_ahead
  split <;> omega
set_option maxHeartbeats 4000000 in
theorem x_X6_ahead (P : hGM) (glyph : Int) (place : Int) (h_glyph : hIn glyph) (h_place : hIn place) (hRP : ∀ (i : Nat) (k : Int), i < 100 → hIn (P i k)) (hp : p_X6_ahead P glyph place) (B2 : Int → Prop) (Po : Int → Prop) 
  (r2 : ∀ (y3 : Int), hIn y3 → ((p_X6_of P glyph 1 ∧ ((y3 < (v_X6_of P glyph 1) → (p_X6_ofStem P glyph y3 0 ∧ (((v_X6_ofStem P glyph y3 0) < place → (B2 (y3 + 1))) ∧ (¬ (v_X6_ofStem P glyph y3 0) < place → (Po y3))))) ∧ (¬ y3 < (v_X6_of P glyph 1) → (Po y3))))) → (B2 y3)) 
  (hpost : Po (v_X6_ahead P glyph place)) : (B2 0) := by
  obtain ⟨hm, g0, g1⟩ := hp
  have b := of_bd hm g0 g1
  unfold v_X6_ahead at hpost
  refine firstLoop (B := B2) (Po := fun r => Po (if r = -1 then v_X6_of P glyph 1 else r)) (fun k => decide (¬ v_X6_ofStem P glyph k 0 < place)) (v_X6_of P glyph 1).toNat (fun k h0 h1 hk hp => ?_) (fun k h0 h1 hk hb => ?_) (fun hp => ?_) hpost
  · have hk := of_decide_eq_true hk
    have hp : Po (if k = -1 then v_X6_of P glyph 1 else k) := hp
    rw [if_neg (by omega)] at hp
    exact r2 _ ⟨by omega, by omega⟩ ⟨of_p g0 g1 (by decide) (by decide), fun _ => ⟨ofStem_p g0 g1 h0 (by omega) (by decide) (by decide), fun z => absurd z hk, fun _ => hp⟩, fun z => by omega⟩
  · have hk := Decidable.not_not.mp (of_decide_eq_false hk)
    exact r2 _ ⟨by omega, by omega⟩ ⟨of_p g0 g1 (by decide) (by decide), fun _ => ⟨ofStem_p g0 g1 h0 (by omega) (by decide) (by decide), fun _ => hb, fun z => absurd hk z⟩, fun z => by omega⟩
  · have hp : Po (if (-1 : Int) = -1 then v_X6_of P glyph 1 else -1) := hp
    rw [if_pos rfl] at hp
    have e : (((v_X6_of P glyph 1).toNat : Nat) : Int) = v_X6_of P glyph 1 := Int.toNat_of_nonneg b.1
    rw [e]
    exact r2 _ ⟨by omega, by omega⟩ ⟨of_p g0 g1 (by decide) (by decide), fun z => by omega, fun _ => hp⟩
def p_X6_stem (P : hGM) (glyph : Int) (place : Int) (width : Int) : Prop := mOK P
/-- whether a new stem lies clear of those beside it -/
def clrM (P : hGM) (g p w : Int) : Bool := decide (v_X6_ahead P g p = 0 ∨ v_X6_endOf P g (v_X6_ahead P g p - 1) ≤ p) && decide (v_X6_ahead P g p = v_X6_of P g 1 ∨ p + w ≤ v_X6_ofStem P g (v_X6_ahead P g p) 0)
def stP (L : hGM) (g n p w : Int) : hGM := aset (aset (aset L 1 (v_X6_at g n 0) p) 1 (v_X6_at g n 1) w) 1 (v_X6_at g n 2) 0
/-- the model's row with one stem more -/
def stI (P : hGM) (g n p w : Int) : hGM := aset (stP (mvU P 1 3 (v_X6_at g n 0) (v_X6_at g (v_X6_of P g 1) 0)) g n p w) 1 ((9 + (20 * g)) + 1) (stP (mvU P 1 3 (v_X6_at g n 0) (v_X6_at g (v_X6_of P g 1) 0)) g n p w 1 ((9 + (20 * g)) + 1) + 1)
def v_X6_stem (P : hGM) (glyph : Int) (place : Int) (width : Int) : Int := if v_X6_isGlyph P glyph = 0 ∨ v_X6_in place 0 999 = 0 ∨ v_X6_in width 1 300 = 0 then -1000001 else if clrM P glyph place width = false then -1000002 else if v_X6_of P glyph 1 = 6 then -1000003 else v_X6_ahead P glyph place
def m_X6_stem (P : hGM) (glyph : Int) (place : Int) (width : Int) : hGM := if v_X6_isGlyph P glyph = 0 ∨ v_X6_in place 0 999 = 0 ∨ v_X6_in width 1 300 = 0 then P else if clrM P glyph place width = false then P else if v_X6_of P glyph 1 = 6 then P else stI (m_X6_changes P) glyph (v_X6_ahead P glyph place) place width
theorem stP_many {L : hGM} {g n p w : Int} (h : 0 ≤ n) : stP L g n p w 1 ((9 + (20 * g)) + 1) = L 1 ((9 + (20 * g)) + 1) := by
  unfold stP v_X6_at
  rw [aset_ne (by omega), aset_ne (by omega), aset_ne (by omega)]
theorem mvU_many {L : hGM} {g n b : Int} (h : 0 ≤ n) : mvU L 1 3 (v_X6_at g n 0) b 1 ((9 + (20 * g)) + 1) = L 1 ((9 + (20 * g)) + 1) := by
  unfold mvU v_X6_at
  rw [if_neg (by omega)]
set_option maxHeartbeats 4000000 in
theorem x_X6_stem (P : hGM) (glyph : Int) (place : Int) (width : Int) (h_glyph : hIn glyph) (h_place : hIn place) (h_width : hIn width) (hRP : ∀ (i : Nat) (k : Int), i < 100 → hIn (P i k)) (hp : p_X6_stem P glyph place width) (B144 : Int → Int → hGM → Prop) (Po : Int → hGM → Prop) 
  (r144 : ∀ (y4 : Int) (y7 : Int) (P1 : hGM), hIn y4 → hIn y7 → ((∀ (i : Nat) (k : Int), i < 100 → hIn (P1 i k)) → (p_X6_at glyph y4 0 ∧ ((y7 < (v_X6_at glyph y4 0) → ((0 ≤ (v_X6_at glyph y4 0) ∧ (v_X6_at glyph y4 0) < 273) ∧ (p_X6_at glyph y4 1 ∧ ((0 ≤ (v_X6_at glyph y4 1) ∧ (v_X6_at glyph y4 1) < 273) ∧ (p_X6_at glyph y4 2 ∧ ((0 ≤ (v_X6_at glyph y4 2) ∧ (v_X6_at glyph y4 2) < 273) ∧ ((0 ≤ ((9 + (20 * glyph)) + 1) ∧ ((9 + (20 * glyph)) + 1) < 273) ∧ (hIn (((aset (aset (aset P1 1 (v_X6_at glyph y4 0) place) 1 (v_X6_at glyph y4 1) width) 1 (v_X6_at glyph y4 2) 0) 1 ((9 + (20 * glyph)) + 1)) + 1) ∧ (Po y4 (aset (aset (aset (aset P1 1 (v_X6_at glyph y4 0) place) 1 (v_X6_at glyph y4 1) width) 1 (v_X6_at glyph y4 2) 0) 1 ((9 + (20 * glyph)) + 1) (((aset (aset (aset P1 1 (v_X6_at glyph y4 0) place) 1 (v_X6_at glyph y4 1) width) 1 (v_X6_at glyph y4 2) 0) 1 ((9 + (20 * glyph)) + 1)) + 1))))))))))) ∧ (¬ y7 < (v_X6_at glyph y4 0) → ((0 ≤ y7 ∧ y7 < 273) ∧ ((0 ≤ (y7 + 3) ∧ (y7 + 3) < 273) ∧ (B144 y4 (y7 + (-1)) (aset P1 1 (y7 + 3) (P1 1 y7))))))))) → (B144 y4 y7 P1)) 
  (hpost : Po (v_X6_stem P glyph place width) (m_X6_stem P glyph place width)) : (((v_X6_isGlyph P glyph) = 0 → (Po (-1000001) P)) ∧ (¬ (v_X6_isGlyph P glyph) = 0 → (((v_X6_in place 0 999) = 0 → (Po (-1000001) P)) ∧ (¬ (v_X6_in place 0 999) = 0 → (((v_X6_in width 1 300) = 0 → (Po (-1000001) P)) ∧ (¬ (v_X6_in width 1 300) = 0 → (p_X6_ahead P glyph place ∧ (((v_X6_ahead P glyph place) = 0 → (p_X6_of P glyph 1 ∧ (((v_X6_ahead P glyph place) = (v_X6_of P glyph 1) → (((v_X6_of P glyph 1) = 6 → (Po (-1000003) P)) ∧ (¬ (v_X6_of P glyph 1) = 6 → (p_X6_changes P ∧ (p_X6_of (m_X6_changes P) glyph 1 ∧ (p_X6_at glyph (v_X6_of (m_X6_changes P) glyph 1) 0 ∧ (B144 (v_X6_ahead P glyph place) ((v_X6_at glyph (v_X6_of (m_X6_changes P) glyph 1) 0) - 1) (m_X6_changes P)))))))) ∧ (¬ (v_X6_ahead P glyph place) = (v_X6_of P glyph 1) → (p_X6_ofStem P glyph (v_X6_ahead P glyph place) 0 ∧ (hIn (place + width) ∧ (((place + width) ≤ (v_X6_ofStem P glyph (v_X6_ahead P glyph place) 0) → (((v_X6_of P glyph 1) = 6 → (Po (-1000003) P)) ∧ (¬ (v_X6_of P glyph 1) = 6 → (p_X6_changes P ∧ (p_X6_of (m_X6_changes P) glyph 1 ∧ (p_X6_at glyph (v_X6_of (m_X6_changes P) glyph 1) 0 ∧ (B144 (v_X6_ahead P glyph place) ((v_X6_at glyph (v_X6_of (m_X6_changes P) glyph 1) 0) - 1) (m_X6_changes P)))))))) ∧ (¬ (place + width) ≤ (v_X6_ofStem P glyph (v_X6_ahead P glyph place) 0) → (Po (-1000002) P))))))))) ∧ (¬ (v_X6_ahead P glyph place) = 0 → (hIn ((v_X6_ahead P glyph place) - 1) ∧ (p_X6_endOf P glyph ((v_X6_ahead P glyph place) - 1) ∧ (((v_X6_endOf P glyph ((v_X6_ahead P glyph place) - 1)) ≤ place → (p_X6_of P glyph 1 ∧ (((v_X6_ahead P glyph place) = (v_X6_of P glyph 1) → (((v_X6_of P glyph 1) = 6 → (Po (-1000003) P)) ∧ (¬ (v_X6_of P glyph 1) = 6 → (p_X6_changes P ∧ (p_X6_of (m_X6_changes P) glyph 1 ∧ (p_X6_at glyph (v_X6_of (m_X6_changes P) glyph 1) 0 ∧ (B144 (v_X6_ahead P glyph place) ((v_X6_at glyph (v_X6_of (m_X6_changes P) glyph 1) 0) - 1) (m_X6_changes P)))))))) ∧ (¬ (v_X6_ahead P glyph place) = (v_X6_of P glyph 1) → (p_X6_ofStem P glyph (v_X6_ahead P glyph place) 0 ∧ (hIn (place + width) ∧ (((place + width) ≤ (v_X6_ofStem P glyph (v_X6_ahead P glyph place) 0) → (((v_X6_of P glyph 1) = 6 → (Po (-1000003) P)) ∧ (¬ (v_X6_of P glyph 1) = 6 → (p_X6_changes P ∧ (p_X6_of (m_X6_changes P) glyph 1 ∧ (p_X6_at glyph (v_X6_of (m_X6_changes P) glyph 1) 0 ∧ (B144 (v_X6_ahead P glyph place) ((v_X6_at glyph (v_X6_of (m_X6_changes P) glyph 1) 0) - 1) (m_X6_changes P)))))))) ∧ (¬ (place + width) ≤ (v_X6_ofStem P glyph (v_X6_ahead P glyph place) 0) → (Po (-1000002) P))))))))) ∧ (¬ (v_X6_endOf P glyph ((v_X6_ahead P glyph place) - 1)) ≤ place → (p_X6_of P glyph 1 ∧ (((v_X6_ahead P glyph place) = (v_X6_of P glyph 1) → (Po (-1000002) P)) ∧ (¬ (v_X6_ahead P glyph place) = (v_X6_of P glyph 1) → (p_X6_ofStem P glyph (v_X6_ahead P glyph place) 0 ∧ (hIn (place + width) ∧ (((place + width) ≤ (v_X6_ofStem P glyph (v_X6_ahead P glyph place) 0) → (Po (-1000002) P)) ∧ (¬ (place + width) ≤ (v_X6_ofStem P glyph (v_X6_ahead P glyph place) 0) → (Po (-1000002) P))))))))))))))))))))) := by
  obtain ⟨hm, q0, q1⟩ := hp
  unfold v_X6_stem m_X6_stem at hpost
  refine ⟨fun c => ?_, fun c1 => ⟨fun c => ?_, fun c2 => ⟨fun c => ?_, fun c3 => ?_⟩⟩⟩
  · rw [if_pos (Or.inl c), if_pos (Or.inl c)] at hpost; exact hpost
  · rw [if_pos (Or.inr (Or.inl c)), if_pos (Or.inr (Or.inl c))] at hpost; exact hpost
  · rw [if_pos (Or.inr (Or.inr c)), if_pos (Or.inr (Or.inr c))] at hpost; exact hpost
  · have hn : ¬ (v_X6_isGlyph P glyph = 0 ∨ v_X6_in place 0 999 = 0 ∨ v_X6_in width 1 300 = 0) := by
      intro z; rcases z with z | z | z
      · exact c1 z
      · exact c2 z
      · exact c3 z
    rw [if_neg hn, if_neg hn] at hpost
    have g1 := Decidable.not_not.mp (fun z => c1 (isGlyph_0.mpr z))
    have g2 := Decidable.not_not.mp (fun z => c2 (in_0.mpr z))
    have g3 := Decidable.not_not.mp (fun z => c3 (in_0.mpr z))
    have n0 := hm.1
    have mb := of_bd hm g1.1 (show glyph < 8 by omega)
    have ab := ahead_bd (P := P) (g := glyph) (p := place) mb.1
    have ha : p_X6_ahead P glyph place := ⟨hm, g1.1, by omega⟩
    have e1 : m_X6_changes P 1 = P 1 := changes_row (by decide) (by decide)
    have eo : v_X6_of (m_X6_changes P) glyph 1 = v_X6_of P glyph 1 := by unfold v_X6_of; rw [e1]
    have hgo : clrM P glyph place width = true → ¬ v_X6_of P glyph 1 = 6 → p_X6_changes P ∧ (p_X6_of (m_X6_changes P) glyph 1 ∧ (p_X6_at glyph (v_X6_of (m_X6_changes P) glyph 1) 0 ∧ (B144 (v_X6_ahead P glyph place) ((v_X6_at glyph (v_X6_of (m_X6_changes P) glyph 1) 0) - 1) (m_X6_changes P)))) := by
      intro z1 z2
      rw [z1, if_neg (show ¬ true = false by decide), if_neg (show ¬ true = false by decide), if_neg z2, if_neg z2] at hpost
      refine ⟨⟨q0, q1⟩, of_p g1.1 (by omega) (by decide) (by decide), at_p g1.1 (by omega) (by omega) (by omega) (by decide) (by decide), ?_⟩
      have em : (m_X6_changes P) 1 ((9 + (20 * glyph)) + 1) = v_X6_of P glyph 1 := by rw [e1]; rfl
      unfold stI at hpost
      generalize v_X6_ahead P glyph place = n at hpost ab ⊢
      rw [eo] at hpost ⊢
      have hd : ∀ (d : Nat) (y : Int), y + 1 = v_X6_at glyph n 0 + d → y < v_X6_at glyph (v_X6_of P glyph 1) 0 → B144 n y (mvU (m_X6_changes P) 1 3 (y + 1) (v_X6_at glyph (v_X6_of P glyph 1) 0)) := by
        have ea : ∀ k : Int, v_X6_at glyph k 0 = 11 + 20 * glyph + 3 * k := fun k => by unfold v_X6_at; omega
        have ea1 : v_X6_at glyph n 1 = 12 + 20 * glyph + 3 * n := by unfold v_X6_at; omega
        have ea2 : v_X6_at glyph n 2 = 13 + 20 * glyph + 3 * n := by unfold v_X6_at; omega
        have en := ea n
        have em2 := ea (v_X6_of P glyph 1)
        intro d
        induction d with
        | zero =>
          intro y h1 h2
          have ey : y + 1 = v_X6_at glyph n 0 := by omega
          rw [ey]
          refine r144 _ _ _ ⟨by omega, by omega⟩ ⟨by omega, by omega⟩ (fun _ => ⟨at_p g1.1 (by omega) ab.1 (by omega) (by decide) (by decide), fun _ => ⟨⟨by omega, by omega⟩, at_p g1.1 (by omega) ab.1 (by omega) (by decide) (by decide), ⟨by omega, by omega⟩, at_p g1.1 (by omega) ab.1 (by omega) (by decide) (by decide), ⟨by omega, by omega⟩, ⟨by omega, by omega⟩, ?_, hpost⟩, fun z => by omega⟩)
          have ev : stP (mvU (m_X6_changes P) 1 3 (v_X6_at glyph n 0) (v_X6_at glyph (v_X6_of P glyph 1) 0)) glyph n place width 1 ((9 + (20 * glyph)) + 1) = v_X6_of P glyph 1 := by
            rw [stP_many ab.1, mvU_many ab.1, em]
          unfold stP at ev
          rw [ev]
          exact ⟨by omega, by omega⟩
        | succ d ih =>
          intro y h1 h2
          refine r144 _ _ _ ⟨by omega, by omega⟩ ⟨by omega, by omega⟩ (fun _ => ⟨at_p g1.1 (by omega) ab.1 (by omega) (by decide) (by decide), fun z => by omega, fun _ => ⟨⟨by omega, by omega⟩, ⟨by omega, by omega⟩, ?_⟩⟩)
          have es := mvU_step (A := m_X6_changes P) (i := 1) (d := 3) (a := y + 1) (b := v_X6_at glyph (v_X6_of P glyph 1) 0) (by decide) (by omega)
          rw [show y + 1 - 1 = y by omega] at es
          rw [es]
          have h := ih (y + (-1)) (by omega) (by omega)
          rw [show y + (-1) + 1 = y by omega] at h
          exact h
      have ea : ∀ k : Int, v_X6_at glyph k 0 = 11 + 20 * glyph + 3 * k := fun k => by unfold v_X6_at; omega
      have h := hd (v_X6_at glyph (v_X6_of P glyph 1) 0 - v_X6_at glyph n 0).toNat (v_X6_at glyph (v_X6_of P glyph 1) 0 - 1) (by rw [ea n, ea]; omega) (by omega)
      rw [show v_X6_at glyph (v_X6_of P glyph 1) 0 - 1 + 1 = v_X6_at glyph (v_X6_of P glyph 1) 0 by omega, mvU_0] at h
      exact h
    have hlim : clrM P glyph place width = true → v_X6_of P glyph 1 = 6 → Po (-1000003) P := by
      intro z1 z2
      rw [z1, if_neg (show ¬ true = false by decide), if_neg (show ¬ true = false by decide), if_pos z2, if_pos z2] at hpost
      exact hpost
    have hbad : clrM P glyph place width = false → Po (-1000002) P := by
      intro z1
      rw [z1, if_pos rfl, if_pos rfl] at hpost
      exact hpost
    have hend : ¬ v_X6_ahead P glyph place = 0 → hIn (v_X6_ahead P glyph place - 1) ∧ p_X6_endOf P glyph (v_X6_ahead P glyph place - 1) := fun z => ⟨⟨by omega, by omega⟩, endOf_p hm g1.1 (by omega) (by omega) (by omega)⟩
    have hof : p_X6_of P glyph 1 := of_p g1.1 (by omega) (by decide) (by decide)
    have hst : ¬ v_X6_ahead P glyph place = v_X6_of P glyph 1 → p_X6_ofStem P glyph (v_X6_ahead P glyph place) 0 := fun z => ofStem_p g1.1 (by omega) ab.1 (by omega) (by decide) (by decide)
    have hpw : hIn (place + width) := ⟨by omega, by omega⟩
    have T : ∀ a b : Prop, ∀ [Decidable a] [Decidable b], a → b → (decide a && decide b) = true := fun a b _ _ x y => by rw [decide_eq_true x, decide_eq_true y]; rfl
    have F1 : ∀ a b : Prop, ∀ [Decidable a] [Decidable b], ¬ a → (decide a && decide b) = false := fun a b _ _ x => by rw [decide_eq_false x]; rfl
    have F2 : ∀ a b : Prop, ∀ [Decidable a] [Decidable b], ¬ b → (decide a && decide b) = false := fun a b _ _ x => by rw [decide_eq_false x, Bool.and_false]
    have two : ∀ hl : v_X6_ahead P glyph place = 0 ∨ v_X6_endOf P glyph (v_X6_ahead P glyph place - 1) ≤ place, (p_X6_of P glyph 1 ∧ (((v_X6_ahead P glyph place) = (v_X6_of P glyph 1) → (((v_X6_of P glyph 1) = 6 → (Po (-1000003) P)) ∧ (¬ (v_X6_of P glyph 1) = 6 → (p_X6_changes P ∧ (p_X6_of (m_X6_changes P) glyph 1 ∧ (p_X6_at glyph (v_X6_of (m_X6_changes P) glyph 1) 0 ∧ (B144 (v_X6_ahead P glyph place) ((v_X6_at glyph (v_X6_of (m_X6_changes P) glyph 1) 0) - 1) (m_X6_changes P)))))))) ∧ (¬ (v_X6_ahead P glyph place) = (v_X6_of P glyph 1) → (p_X6_ofStem P glyph (v_X6_ahead P glyph place) 0 ∧ (hIn (place + width) ∧ (((place + width) ≤ (v_X6_ofStem P glyph (v_X6_ahead P glyph place) 0) → (((v_X6_of P glyph 1) = 6 → (Po (-1000003) P)) ∧ (¬ (v_X6_of P glyph 1) = 6 → (p_X6_changes P ∧ (p_X6_of (m_X6_changes P) glyph 1 ∧ (p_X6_at glyph (v_X6_of (m_X6_changes P) glyph 1) 0 ∧ (B144 (v_X6_ahead P glyph place) ((v_X6_at glyph (v_X6_of (m_X6_changes P) glyph 1) 0) - 1) (m_X6_changes P)))))))) ∧ (¬ (place + width) ≤ (v_X6_ofStem P glyph (v_X6_ahead P glyph place) 0) → (Po (-1000002) P)))))))) := by
      intro hl
      exact ⟨hof, fun z => ⟨hlim (T _ _ hl (Or.inl z)), hgo (T _ _ hl (Or.inl z))⟩, fun z => ⟨hst z, hpw, fun z2 => ⟨hlim (T _ _ hl (Or.inr z2)), hgo (T _ _ hl (Or.inr z2))⟩, fun z2 => hbad (F2 _ _ (fun y => y.elim z z2))⟩⟩
    exact ⟨ha, fun z => two (Or.inl z), fun z => ⟨(hend z).1, (hend z).2, fun z2 => two (Or.inr z2), fun z2 => ⟨hof, fun _ => hbad (F1 _ _ (fun y => y.elim z z2)), fun z3 => ⟨hst z3, hpw, fun _ => hbad (F1 _ _ (fun y => y.elim z z2)), fun _ => hbad (F1 _ _ (fun y => y.elim z z2))⟩⟩⟩⟩
def p_X6_cut (P : hGM) (glyph : Int) (stem : Int) : Prop := mOK P
/-- the model's row with one stem less -/
def stO (P : hGM) (g k : Int) : hGM := mvD (aset P 1 ((9 + (20 * g)) + 1) (P 1 ((9 + (20 * g)) + 1) - 1)) 1 3 (v_X6_at g k 0) (v_X6_at g (v_X6_of P g 1 - 1) 0)
def v_X6_cut (P : hGM) (glyph : Int) (stem : Int) : Int := if v_X6_isStem P glyph stem = 0 then -1000001 else v_X6_of P glyph 1 - 1
def m_X6_cut (P : hGM) (glyph : Int) (stem : Int) : hGM := if v_X6_isStem P glyph stem = 0 then P else stO (m_X6_changes P) glyph stem
set_option maxHeartbeats 4000000 in
theorem x_X6_cut (P : hGM) (glyph : Int) (stem : Int) (h_glyph : hIn glyph) (h_stem : hIn stem) (hRP : ∀ (i : Nat) (k : Int), i < 100 → hIn (P i k)) (hp : p_X6_cut P glyph stem) (B41 : Int → hGM → Prop) (Po : Int → hGM → Prop) 
  (r41 : ∀ (y3 : Int) (P1 : hGM), hIn y3 → ((∀ (i : Nat) (k : Int), i < 100 → hIn (P1 i k)) → (p_X6_of P1 glyph 1 ∧ (p_X6_at glyph (v_X6_of P1 glyph 1) 0 ∧ ((y3 < (v_X6_at glyph (v_X6_of P1 glyph 1) 0) → ((0 ≤ (y3 + 3) ∧ (y3 + 3) < 273) ∧ ((0 ≤ y3 ∧ y3 < 273) ∧ (B41 (y3 + 1) (aset P1 1 y3 (P1 1 (y3 + 3))))))) ∧ (¬ y3 < (v_X6_at glyph (v_X6_of P1 glyph 1) 0) → (Po (v_X6_of P1 glyph 1) P1)))))) → (B41 y3 P1)) 
  (hpost : Po (v_X6_cut P glyph stem) (m_X6_cut P glyph stem)) : (p_X6_isStem P glyph stem ∧ (((v_X6_isStem P glyph stem) = 0 → (Po (-1000001) P)) ∧ (¬ (v_X6_isStem P glyph stem) = 0 → (p_X6_changes P ∧ ((0 ≤ ((9 + (20 * glyph)) + 1) ∧ ((9 + (20 * glyph)) + 1) < 273) ∧ (hIn (((m_X6_changes P) 1 ((9 + (20 * glyph)) + 1)) - 1) ∧ (p_X6_at glyph stem 0 ∧ (B41 (v_X6_at glyph stem 0) (aset (m_X6_changes P) 1 ((9 + (20 * glyph)) + 1) (((m_X6_changes P) 1 ((9 + (20 * glyph)) + 1)) - 1)))))))))) := by
  obtain ⟨hm, q0, q1⟩ := hp
  unfold v_X6_cut m_X6_cut at hpost
  refine ⟨isStem_p hm glyph stem, fun c => ?_, fun c => ?_⟩
  · rw [if_pos c, if_pos c] at hpost; exact hpost
  · rw [if_neg c, if_neg c] at hpost
    have g := Decidable.not_not.mp (fun z => c (isStem_0.mpr z))
    have n0 := hm.1
    have mb := of_bd hm g.1.1 (show glyph < 8 by omega)
    have e1 : m_X6_changes P 1 = P 1 := changes_row (by decide) (by decide)
    have em : (m_X6_changes P) 1 ((9 + (20 * glyph)) + 1) = v_X6_of P glyph 1 := by rw [e1]; rfl
    have eo : v_X6_of (m_X6_changes P) glyph 1 = v_X6_of P glyph 1 := em
    unfold stO at hpost
    rw [eo, em] at hpost
    rw [em]
    refine ⟨⟨q0, q1⟩, ⟨by omega, by omega⟩, ⟨by omega, by omega⟩, at_p g.1.1 (by omega) (by omega) (by omega) (by decide) (by decide), ?_⟩
    have ea : ∀ k : Int, v_X6_at glyph k 0 = 11 + 20 * glyph + 3 * k := fun k => by unfold v_X6_at; omega
    generalize v_X6_of P glyph 1 = n at hpost mb g ⊢
    have ev : ∀ b : Int, v_X6_of (mvD (aset (m_X6_changes P) 1 ((9 + (20 * glyph)) + 1) (n - 1)) 1 3 (v_X6_at glyph stem 0) b) glyph 1 = n - 1 := by
      intro b
      unfold v_X6_of mvD
      rw [if_neg (by rw [ea]; omega), aset_at]
    have hd : ∀ (d : Nat) (y : Int), y + d = v_X6_at glyph (n - 1) 0 → v_X6_at glyph stem 0 ≤ y → B41 y (mvD (aset (m_X6_changes P) 1 ((9 + (20 * glyph)) + 1) (n - 1)) 1 3 (v_X6_at glyph stem 0) y) := by
      have e2 := ea (n - 1)
      have e3 := ea stem
      intro d
      induction d with
      | zero =>
        intro y h1 h2
        have ey : y = v_X6_at glyph (n - 1) 0 := by omega
        subst ey
        refine r41 _ _ ⟨by omega, by omega⟩ (fun _ => ⟨of_p g.1.1 (by omega) (by decide) (by decide), ?_⟩)
        rw [ev]
        exact ⟨at_p g.1.1 (by omega) (by omega) (by omega) (by decide) (by decide), fun z => by omega, fun _ => hpost⟩
      | succ d ih =>
        intro y h1 h2
        refine r41 _ _ ⟨by omega, by omega⟩ (fun _ => ⟨of_p g.1.1 (by omega) (by decide) (by decide), ?_⟩)
        rw [ev]
        refine ⟨at_p g.1.1 (by omega) (by omega) (by omega) (by decide) (by decide), fun _ => ⟨⟨by omega, by omega⟩, ⟨by omega, by omega⟩, ?_⟩, fun z => by omega⟩
        rw [mvD_step (by decide) h2]
        exact ih (y + 1) (by omega) (by omega)
    have h := hd (v_X6_at glyph (n - 1) 0 - v_X6_at glyph stem 0).toNat (v_X6_at glyph stem 0) (by rw [ea, ea]; omega) (Int.le_refl _)
    rw [mvD_0] at h
    exact h
def p_X6_hint (P : hGM) (glyph : Int) (stem : Int) (hint : Int) : Prop := (p_X6_isStem P glyph stem ∧ (((v_X6_isStem P glyph stem) = 0 → True) ∧ (¬ (v_X6_isStem P glyph stem) = 0 → (((v_X6_in hint 0 3) = 0 → True) ∧ (¬ (v_X6_in hint 0 3) = 0 → (p_X6_changes P ∧ (p_X6_ofStem (m_X6_changes P) glyph stem 2 ∧ (p_X6_at glyph stem 2 ∧ ((0 ≤ (v_X6_at glyph stem 2) ∧ (v_X6_at glyph stem 2) < 273) ∧ True)))))))))
def v_X6_hint (P : hGM) (glyph : Int) (stem : Int) (hint : Int) : Int := (if (v_X6_isStem P glyph stem) = 0 then (-1000001) else (if (v_X6_in hint 0 3) = 0 then (-1000001) else (v_X6_ofStem (m_X6_changes P) glyph stem 2)))
def m_X6_hint (P : hGM) (glyph : Int) (stem : Int) (hint : Int) : hGM := (if (v_X6_isStem P glyph stem) = 0 then P else (if (v_X6_in hint 0 3) = 0 then P else (aset (m_X6_changes P) 1 (v_X6_at glyph stem 2) hint)))
def p_X6_wideAt (P : hGM) (width : Int) : Prop := 0 ≤ P 1 1 ∧ P 1 1 ≤ 3
def v_X6_wideAt (P : hGM) (width : Int) : Int := if firstN (fun k => decide (P 1 (2 + k) = width)) (P 1 1).toNat = -1 then -1000004 else firstN (fun k => decide (P 1 (2 + k) = width)) (P 1 1).toNat
set_option maxHeartbeats 4000000 in
theorem x_X6_wideAt (P : hGM) (width : Int) (h_width : hIn width) (hRP : ∀ (i : Nat) (k : Int), i < 100 → hIn (P i k)) (hp : p_X6_wideAt P width) (B2 : Int → Prop) (Po : Int → Prop) 
  (r2 : ∀ (y2 : Int), hIn y2 → (((y2 < (P 1 1) → ((0 ≤ (2 + y2) ∧ (2 + y2) < 273) ∧ (((P 1 (2 + y2)) = width → (Po y2)) ∧ (¬ (P 1 (2 + y2)) = width → (B2 (y2 + 1)))))) ∧ (¬ y2 < (P 1 1) → (Po (-1000004))))) → (B2 y2)) 
  (hpost : Po (v_X6_wideAt P width)) : (B2 0) := by
  obtain ⟨q0, q1⟩ := hp
  have e : (((P 1 1).toNat : Nat) : Int) = P 1 1 := Int.toNat_of_nonneg q0
  unfold v_X6_wideAt at hpost
  refine firstLoop (B := B2) (Po := fun r => Po (if r = -1 then -1000004 else r)) (fun k => decide (P 1 (2 + k) = width)) (P 1 1).toNat (fun k h0 h1 hk hp => ?_) (fun k h0 h1 hk hb => ?_) (fun hp => ?_) hpost
  · have hk := of_decide_eq_true hk
    have hp : Po (if k = -1 then -1000004 else k) := hp
    rw [if_neg (by omega)] at hp
    exact r2 _ ⟨by omega, by omega⟩ ⟨fun _ => ⟨⟨by omega, by omega⟩, fun _ => hp, fun z => absurd hk z⟩, fun z => by omega⟩
  · have hk := of_decide_eq_false hk
    exact r2 _ ⟨by omega, by omega⟩ ⟨fun _ => ⟨⟨by omega, by omega⟩, fun z => absurd z hk, fun _ => hb⟩, fun z => by omega⟩
  · have hp : Po (if (-1 : Int) = -1 then -1000004 else -1) := hp
    rw [if_pos rfl] at hp
    exact r2 _ ⟨by omega, by omega⟩ ⟨fun z => by omega, fun _ => hp⟩
def p_X6_size (v1 : Int) : Prop := ((v1 < 0 → (hIn (-v1) ∧ True)) ∧ (¬ v1 < 0 → True))
def v_X6_size (v1 : Int) : Int := (if v1 < 0 then (-v1) else v1)
def p_X6_snaps (P : hGM) (width : Int) : Prop := mNum (P 1) ∧ 0 ≤ width ∧ width ≤ 1000
def v_X6_snaps (P : hGM) (width : Int) : Int := (snapM (fun k => P 1 (2 + k)) (P 1 5) width (P 1 1).toNat).1
theorem size_v (x : Int) : v_X6_size x = absI x := rfl
set_option maxHeartbeats 4000000 in
theorem x_X6_snaps (P : hGM) (width : Int) (h_width : hIn width) (hRP : ∀ (i : Nat) (k : Int), i < 100 → hIn (P i k)) (hp : p_X6_snaps P width) (B13 : Int → Int → Int → Prop) (Po : Int → Prop) 
  (r13 : ∀ (y2 : Int) (y3 : Int) (y4 : Int), hIn y2 → hIn y3 → hIn y4 → (((y4 < (P 1 1) → ((0 ≤ (2 + y4) ∧ (2 + y4) < 273) ∧ (hIn ((P 1 (2 + y4)) - width) ∧ (p_X6_size ((P 1 (2 + y4)) - width) ∧ ((y2 < 0 → (((v_X6_size ((P 1 (2 + y4)) - width)) ≤ y3 → (B13 (P 1 (2 + y4)) (v_X6_size ((P 1 (2 + y4)) - width)) (y4 + 1))) ∧ (¬ (v_X6_size ((P 1 (2 + y4)) - width)) ≤ y3 → (B13 y2 y3 (y4 + 1))))) ∧ (¬ y2 < 0 → (((v_X6_size ((P 1 (2 + y4)) - width)) < y3 → (B13 (P 1 (2 + y4)) (v_X6_size ((P 1 (2 + y4)) - width)) (y4 + 1))) ∧ (¬ (v_X6_size ((P 1 (2 + y4)) - width)) < y3 → (B13 y2 y3 (y4 + 1)))))))))) ∧ (¬ y4 < (P 1 1) → (Po y2)))) → (B13 y2 y3 y4)) 
  (hpost : Po (v_X6_snaps P width)) : (B13 (-1000004) (P 1 5) 0) := by
  obtain ⟨⟨-, n1, n2, n5, -⟩, w0, w1⟩ := hp
  have e : (((P 1 1).toNat : Nat) : Int) = P 1 1 := Int.toNat_of_nonneg n1.1
  have bd := fun n : Nat => snapM_bd (st := fun k => P 1 (2 + k)) (cut := P 1 5) (w := width) (c := 1000) n ⟨w0, w1⟩
  refine upN (C := fun k => B13 (snapM (fun k => P 1 (2 + k)) (P 1 5) width k).1 (snapM (fun k => P 1 (2 + k)) (P 1 5) width k).2 (k : Int)) (P 1 1).toNat ?_ ?_
  · have b := bd (P 1 1).toNat (fun k a1 a2 => by have := n2 k a1 (by omega); exact ⟨this.1, by have := this.2; show P 1 (2 + k) ≤ 1000; omega⟩) (by omega)
    exact r13 _ _ _ ⟨by omega, by omega⟩ ⟨by omega, by omega⟩ ⟨by omega, by omega⟩ ⟨fun _ => by omega, fun _ => hpost⟩
  · intro k hk h
    have b := bd k (fun k a1 a2 => by have := n2 k a1 (by omega); exact ⟨this.1, by have := this.2; show P 1 (2 + k) ≤ 1000; omega⟩) (by omega)
    have c := n2 k (by omega) (by omega)
    refine r13 _ _ _ ⟨by omega, by omega⟩ ⟨by omega, by omega⟩ ⟨by omega, by omega⟩ ⟨fun _ => ⟨⟨by omega, by omega⟩, ⟨by omega, by omega⟩, ⟨fun _ => ⟨⟨by omega, by omega⟩, trivial⟩, fun _ => trivial⟩, fun z => ⟨fun z2 => ?_, fun z2 => ?_⟩, fun z => ⟨fun z2 => ?_, fun z2 => ?_⟩⟩, fun _ => by omega⟩
    · rw [size_v] at z2 ⊢
      have e1 : snapM (fun k => P 1 (2 + k)) (P 1 5) width (k + 1) = (P 1 (2 + k), absI (P 1 (2 + k) - width)) := (if_pos z).trans (if_pos z2)
      rw [e1] at h; exact h
    · rw [size_v] at z2
      have e1 : snapM (fun k => P 1 (2 + k)) (P 1 5) width (k + 1) = snapM (fun k => P 1 (2 + k)) (P 1 5) width k := (if_pos z).trans (if_neg z2)
      rw [e1] at h; exact h
    · rw [size_v] at z2 ⊢
      have e1 : snapM (fun k => P 1 (2 + k)) (P 1 5) width (k + 1) = (P 1 (2 + k), absI (P 1 (2 + k) - width)) := (if_neg z).trans (if_pos z2)
      rw [e1] at h; exact h
    · rw [size_v] at z2
      have e1 : snapM (fun k => P 1 (2 + k)) (P 1 5) width (k + 1) = snapM (fun k => P 1 (2 + k)) (P 1 5) width k := (if_neg z).trans (if_neg z2)
      rw [e1] at h; exact h
def p_X6_hinted (P : hGM) (glyph : Int) (stem : Int) : Prop := (p_X6_ofStem P glyph stem 1 ∧ (p_X6_snaps P (v_X6_ofStem P glyph stem 1) ∧ (((v_X6_snaps P (v_X6_ofStem P glyph stem 1)) < 0 → True) ∧ (¬ (v_X6_snaps P (v_X6_ofStem P glyph stem 1)) < 0 → True))))
def v_X6_hinted (P : hGM) (glyph : Int) (stem : Int) : Int := (if (v_X6_snaps P (v_X6_ofStem P glyph stem 1)) < 0 then (v_X6_ofStem P glyph stem 1) else (v_X6_snaps P (v_X6_ofStem P glyph stem 1)))
def p_X6_standard (P : hGM) (width : Int) : Prop := mOK P
/-- two loops, one in the other, that add up -/
def dbl (f : Int → Int → Int) (M : Int → Nat) (N : Nat) : Int := sumN (fun g => sumN (f g) (M g)) N
theorem dblLoop {B1 : Int → Int → Prop} {B2 : Int → Int → Int → Prop} (f : Int → Int → Int) (M : Int → Nat) (N : Nat) {c : Int}
    (hM : ∀ g : Int, 0 ≤ g → g < N → M g ≤ 6) (hN : N ≤ 8) (hc : 0 ≤ c ∧ c ≤ 1000) (hf : ∀ g k : Int, 0 ≤ g → g < N → 0 ≤ k → k < M g → 0 ≤ f g k ∧ f g k ≤ c)
    (h1 : ∀ g y : Int, 0 ≤ g → g < N → (0 ≤ y ∧ y ≤ 48000) → B2 y g 0 → B1 y g)
    (h1e : ∀ y : Int, (0 ≤ y ∧ y ≤ 48000) → y = dbl f M N → B1 y N)
    (h2 : ∀ g k y : Int, 0 ≤ g → g < N → 0 ≤ k → k < M g → (0 ≤ y ∧ y + f g k ≤ 48000) → B2 (y + f g k) g (k + 1) → B2 y g k)
    (h2e : ∀ g y : Int, 0 ≤ g → g < N → (0 ≤ y ∧ y ≤ 48000) → B1 y (g + 1) → B2 y g (M g)) : B1 0 0 := by
  have c6 : ∀ n : Nat, n ≤ 6 → c * (n : Int) ≤ 6000 := fun n hn => by
    have := Int.mul_le_mul hc.2 (show (n : Int) ≤ 6 by omega) (by omega) (by omega)
    omega
  have hin : ∀ g : Int, 0 ≤ g → g < N → ∀ k : Nat, k ≤ M g → 0 ≤ sumN (f g) k ∧ sumN (f g) k ≤ 6000 := fun g g0 g1 k hk => by
    have := sumN_bd (f := f g) (c := c) k (fun j a b => hf g j g0 g1 a (by omega))
    have := c6 k (by have := hM g g0 g1; omega)
    omega
  have hout : ∀ n : Nat, n ≤ N → 0 ≤ dbl f M n ∧ dbl f M n ≤ 6000 * n := fun n hn => sumN_bd (c := 6000) n (fun g a b => hin g a (by omega) _ (Nat.le_refl _))
  have key : B1 (dbl f M 0) ((0 : Nat) : Int) := by
    refine upN (C := fun n => B1 (dbl f M n) (n : Int)) N ?_ ?_
    · have b := hout N (Nat.le_refl _)
      exact h1e _ ⟨by omega, by omega⟩ rfl
    · intro g hg h
      have b := hout g (by omega)
      have bi := hin g (by omega) (by omega)
      refine h1 _ _ (by omega) (by omega) ⟨by omega, by omega⟩ ?_
      have hk : B2 (dbl f M g + sumN (f g) 0) g ((0 : Nat) : Int) := by
        refine upN (C := fun n => B2 (dbl f M g + sumN (f g) n) g (n : Int)) (M g) ?_ ?_
        · have b2 := bi (M g) (Nat.le_refl _)
          refine h2e _ _ (by omega) (by omega) ⟨by omega, by omega⟩ ?_
          exact h
        · intro k hk h
          have b2 := bi k (by omega)
          have b3 := bi (k + 1) (by omega)
          have es : sumN (f g) (k + 1) = sumN (f g) k + f g k := rfl
          rw [es] at b3
          refine h2 _ _ _ (by omega) (by omega) (by omega) (by omega) ⟨by omega, by omega⟩ ?_
          have h : B2 (dbl f M g + (sumN (f g) k + f g k)) g ((k + 1 : Nat) : Int) := h
          rw [show dbl f M g + sumN (f g) k + f g k = dbl f M g + (sumN (f g) k + f g k) by omega, show (k : Int) + 1 = ((k + 1 : Nat) : Int) by omega]
          exact h
      rw [show dbl f M g + sumN (f g) 0 = dbl f M g from Int.add_zero _] at hk
      exact hk
  exact key
/-- where a new standard width goes -/
def swPos (P : hGM) (w : Int) : Nat → Int
  | 0 => 0
  | n + 1 => if P 1 (2 + n) ≤ w then (n : Int) + 1 else swPos P w n
theorem swPos_bd (P : hGM) (w : Int) (n : Nat) : 0 ≤ swPos P w n ∧ swPos P w n ≤ n := by
  induction n with
  | zero => exact ⟨Int.le_refl _, Int.le_refl _⟩
  | succ n ih => unfold swPos; split <;> omega
/-- the model's row with one standard width more -/
def swI (P : hGM) (w : Int) : hGM := aset (aset (mvU P 1 1 (2 + swPos P w (P 1 1).toNat) (2 + P 1 1)) 1 (2 + swPos P w (P 1 1).toNat) w) 1 1 (P 1 1 + 1)
def snapsTo (P : hGM) (w : Int) : Int := dbl (fun g k => if v_X6_snaps P (v_X6_ofStem P g k 1) = w then 1 else 0) (fun g => (v_X6_of P g 1).toNat) (P 1 0).toNat
def v_X6_standard (P : hGM) (width : Int) : Int := if v_X6_in width 1 300 = 0 then -1000001 else if ¬ v_X6_wideAt P width < 0 then -1000002 else if P 1 1 = 3 then -1000003 else snapsTo (swI (m_X6_changes P) width) width
def m_X6_standard (P : hGM) (width : Int) : hGM := if v_X6_in width 1 300 = 0 then P else if ¬ v_X6_wideAt P width < 0 then P else if P 1 1 = 3 then P else swI (m_X6_changes P) width
theorem swI_out {P : hGM} {w : Int} {j : Nat} {q : Int} (h0 : 0 ≤ P 1 1 ∧ P 1 1 < 3) (h : ¬ (j = 1 ∧ 1 ≤ q ∧ q ≤ 4)) : swI P w j q = P j q := by
  have b := swPos_bd P w (P 1 1).toNat
  unfold swI
  rw [aset_ne (by omega), aset_ne (by omega)]
  unfold mvU
  rw [if_neg (by omega)]
theorem swI_num {P : hGM} {w : Int} (h : mNum (P 1)) (h1 : P 1 1 < 3) (w0 : 0 ≤ w ∧ w ≤ 300) : mNum (swI P w 1) := by
  have n1 := h.2.1
  have o : ∀ q : Int, ¬ (1 ≤ q ∧ q ≤ 4) → swI P w 1 q = P 1 q := fun q z => swI_out ⟨n1.1, h1⟩ (by omega)
  have e1 : swI P w 1 1 = P 1 1 + 1 := by unfold swI; rw [aset_at]
  have e2 : ∀ k : Int, 0 ≤ k → k < 3 → 0 ≤ swI P w 1 (2 + k) ∧ swI P w 1 (2 + k) ≤ 300 := by
    intro k k0 k3
    have b := swPos_bd P w (P 1 1).toNat
    unfold swI
    rw [aset_ne (by omega)]
    unfold aset
    split
    · exact w0
    · unfold mvU
      split
      · have := h.2.2.1 (k - 1) (by omega) (by omega)
        rw [show 2 + k - 1 = 2 + (k - 1) by omega]
        exact this
      · exact h.2.2.1 k k0 k3
  obtain ⟨a0, -, -, a5, a6, a7, a8, a9, a10⟩ := h
  refine ⟨by rw [o 0 (by omega)]; exact a0, by rw [e1]; omega, e2, by rw [o 5 (by omega)]; exact a5, by rw [o 6 (by omega)]; exact a6, by rw [o 7 (by omega)]; exact a7, by rw [o 8 (by omega)]; exact a8, ?_, ?_⟩
  · intro g g0 g1
    have a := a9 g g0 g1
    rw [o (9 + 20 * g) (by omega), o (9 + 20 * g + 1) (by omega)]
    refine ⟨a.1, a.2.1, fun k k0 k1 => ?_⟩
    rw [o (9 + 20 * g + 2 + 3 * k) (by omega), o (9 + 20 * g + 2 + 3 * k + 1) (by omega), o (9 + 20 * g + 2 + 3 * k + 2) (by omega)]
    exact a.2.2 k k0 k1
  · intro i i0 i1
    have a := a10 i i0 i1
    rw [o (169 + 10 * i) (by omega), o (169 + 10 * i + 1) (by omega)]
    refine ⟨a.1, a.2.1, fun g g0 g1 => ?_⟩
    rw [o (169 + 10 * i + (2 + g)) (by omega)]
    exact a.2.2 g g0 g1
set_option maxHeartbeats 4000000 in
theorem x_X6_standard (P : hGM) (width : Int) (h_width : hIn width) (hRP : ∀ (i : Nat) (k : Int), i < 100 → hIn (P i k)) (hp : p_X6_standard P width) (B49 : Int → hGM → Prop) (B115 : Int → Int → hGM → Prop) (B129 : Int → Int → Int → hGM → Prop) (Po : Int → hGM → Prop) 
  (r49 : ∀ (y2 : Int) (P1 : hGM), hIn y2 → ((∀ (i : Nat) (k : Int), i < 100 → hIn (P1 i k)) → ((y2 ≤ 0 → ((0 ≤ (2 + y2) ∧ (2 + y2) < 273) ∧ (hIn (((aset P1 1 (2 + y2) width) 1 1) + 1) ∧ (B115 0 0 (aset (aset P1 1 (2 + y2) width) 1 1 (((aset P1 1 (2 + y2) width) 1 1) + 1)))))) ∧ (¬ y2 ≤ 0 → ((0 ≤ ((2 + y2) - 1) ∧ ((2 + y2) - 1) < 273) ∧ (((P1 1 ((2 + y2) - 1)) ≤ width → ((0 ≤ (2 + y2) ∧ (2 + y2) < 273) ∧ (hIn (((aset P1 1 (2 + y2) width) 1 1) + 1) ∧ (B115 0 0 (aset (aset P1 1 (2 + y2) width) 1 1 (((aset P1 1 (2 + y2) width) 1 1) + 1)))))) ∧ (¬ (P1 1 ((2 + y2) - 1)) ≤ width → ((0 ≤ (2 + y2) ∧ (2 + y2) < 273) ∧ (B49 (y2 + (-1)) (aset P1 1 (2 + y2) (P1 1 ((2 + y2) - 1))))))))))) → (B49 y2 P1)) 
  (r115 : ∀ (y3 : Int) (y4 : Int) (P1 : hGM), hIn y3 → hIn y4 → ((∀ (i : Nat) (k : Int), i < 100 → hIn (P1 i k)) → ((y4 < (P1 1 0) → (B129 y3 y4 0 P1)) ∧ (¬ y4 < (P1 1 0) → (Po y3 P1)))) → (B115 y3 y4 P1)) 
  (r129 : ∀ (y3 : Int) (y4 : Int) (y5 : Int) (P1 : hGM), hIn y3 → hIn y4 → hIn y5 → ((∀ (i : Nat) (k : Int), i < 100 → hIn (P1 i k)) → (p_X6_of P1 y4 1 ∧ ((y5 < (v_X6_of P1 y4 1) → (p_X6_ofStem P1 y4 y5 1 ∧ (p_X6_snaps P1 (v_X6_ofStem P1 y4 y5 1) ∧ (((v_X6_snaps P1 (v_X6_ofStem P1 y4 y5 1)) = width → (B129 (y3 + 1) y4 (y5 + 1) P1)) ∧ (¬ (v_X6_snaps P1 (v_X6_ofStem P1 y4 y5 1)) = width → (B129 (y3 + 0) y4 (y5 + 1) P1)))))) ∧ (¬ y5 < (v_X6_of P1 y4 1) → (B115 y3 (y4 + 1) P1))))) → (B129 y3 y4 y5 P1)) 
  (hpost : Po (v_X6_standard P width) (m_X6_standard P width)) : (((v_X6_in width 1 300) = 0 → (Po (-1000001) P)) ∧ (¬ (v_X6_in width 1 300) = 0 → (p_X6_wideAt P width ∧ (((v_X6_wideAt P width) < 0 → (((P 1 1) = 3 → (Po (-1000003) P)) ∧ (¬ (P 1 1) = 3 → (p_X6_changes P ∧ (B49 ((m_X6_changes P) 1 1) (m_X6_changes P)))))) ∧ (¬ (v_X6_wideAt P width) < 0 → (Po (-1000002) P)))))) := by
  obtain ⟨hm, q0, q1⟩ := hp
  have n0 := hm.1
  have n1 := hm.2.1
  unfold v_X6_standard m_X6_standard at hpost
  refine ⟨fun c => ?_, fun c => ⟨n1, fun c2 => ⟨fun c3 => ?_, fun c3 => ?_⟩, fun c2 => ?_⟩⟩
  · rw [if_pos c, if_pos c] at hpost; exact hpost
  · rw [if_neg c, if_neg c, if_neg (Decidable.not_not.mpr c2), if_neg (Decidable.not_not.mpr c2), if_pos c3, if_pos c3] at hpost
    exact hpost
  · rw [if_neg c, if_neg c, if_neg (Decidable.not_not.mpr c2), if_neg (Decidable.not_not.mpr c2), if_neg c3, if_neg c3] at hpost
    have g3 := Decidable.not_not.mp (fun z => c (in_0.mpr z))
    have e1 : m_X6_changes P 1 = P 1 := changes_row (by decide) (by decide)
    have hmC : mNum (m_X6_changes P 1) := by rw [e1]; exact hm
    have hmZ : mNum (swI (m_X6_changes P) width 1) := swI_num hmC (by rw [e1]; omega) (by omega)
    refine ⟨⟨q0, q1⟩, ?_⟩
    have n1C := hmC.2.1
    have lt : m_X6_changes P 1 1 < 3 := by rw [e1]; omega
    generalize m_X6_changes P = C at hmC hmZ n1C lt hpost ⊢
    have hend : B115 0 0 (swI C width) := by
      have n0Z := hmZ.1
      generalize swI C width = Z at hmZ n0Z hpost ⊢
      have e0 : (((Z 1 0).toNat : Nat) : Int) = Z 1 0 := Int.toNat_of_nonneg n0Z.1
      have em : ∀ g : Int, 0 ≤ g → g < 8 → (((v_X6_of Z g 1).toNat : Nat) : Int) = v_X6_of Z g 1 := fun g g0 g1 => Int.toNat_of_nonneg (of_bd hmZ g0 g1).1
      refine dblLoop (B1 := fun y g => B115 y g Z) (B2 := fun y g k => B129 y g k Z) (fun g k => if v_X6_snaps Z (v_X6_ofStem Z g k 1) = width then 1 else 0) (fun g => (v_X6_of Z g 1).toNat) (Z 1 0).toNat (c := 1) ?_ (by omega) (by decide) ?_ ?_ ?_ ?_ ?_
      · intro g g0 g1
        have := of_bd hmZ g0 (show g < 8 by omega)
        show (v_X6_of Z g 1).toNat ≤ 6
        omega
      · intro g k _ _ _ _
        show 0 ≤ (if _ then (1 : Int) else 0) ∧ (if _ then (1 : Int) else 0) ≤ 1
        split <;> decide
      · intro g y g0 g1 hy h
        exact r115 _ _ _ ⟨by omega, by omega⟩ ⟨by omega, by omega⟩ (fun _ => ⟨fun _ => h, fun z => by omega⟩)
      · intro y hy ey
        refine r115 _ _ _ ⟨by omega, by omega⟩ ⟨by omega, by omega⟩ (fun _ => ⟨fun z => by omega, fun _ => ?_⟩)
        rw [ey]
        exact hpost
      · intro g k y g0 g1 k0 k1 hy h
        have e2 := em g g0 (by omega)
        have b2 := of_bd hmZ g0 (show g < 8 by omega)
        have k1 : k < (((v_X6_of Z g 1).toNat : Nat) : Int) := k1
        have b3 := ofStem_bd hmZ g0 (show g < 8 by omega) k0 (show k < 6 by omega)
        refine r129 _ _ _ _ ⟨by omega, by omega⟩ ⟨by omega, by omega⟩ ⟨by omega, by omega⟩ (fun _ => ⟨of_p g0 (by omega) (by decide) (by decide), fun _ => ⟨ofStem_p g0 (by omega) k0 (by omega) (by decide) (by decide), ⟨hmZ, by omega, by omega⟩, fun z => ?_, fun z => ?_⟩, fun z => by omega⟩)
        · have h : B129 (y + if v_X6_snaps Z (v_X6_ofStem Z g k 1) = width then 1 else 0) g (k + 1) Z := h
          rw [if_pos z] at h; exact h
        · have h : B129 (y + if v_X6_snaps Z (v_X6_ofStem Z g k 1) = width then 1 else 0) g (k + 1) Z := h
          rw [if_neg z] at h; exact h
      · intro g y g0 g1 hy h
        have e2 := em g g0 (by omega)
        have b2 := of_bd hmZ g0 (show g < 8 by omega)
        show B129 y g (((v_X6_of Z g 1).toNat : Nat) : Int) Z
        rw [e2]
        exact r129 _ _ _ _ ⟨by omega, by omega⟩ ⟨by omega, by omega⟩ ⟨by omega, by omega⟩ (fun _ => ⟨of_p g0 (by omega) (by decide) (by decide), fun z => by omega, fun _ => h⟩)
    have e : (((C 1 1).toNat : Nat) : Int) = C 1 1 := Int.toNat_of_nonneg n1C.1
    have hput : ∀ n : Nat, n ≤ (C 1 1).toNat → swPos C width (C 1 1).toNat = n → aset (aset (mvU C 1 1 (2 + n) (2 + C 1 1)) 1 (2 + n) width) 1 1 (aset (mvU C 1 1 (2 + n) (2 + C 1 1)) 1 (2 + n) width 1 1 + 1) = swI C width ∧ hIn (aset (mvU C 1 1 (2 + n) (2 + C 1 1)) 1 (2 + n) width 1 1 + 1) := by
      intro n hn hs
      have ev : aset (mvU C 1 1 (2 + n) (2 + C 1 1)) 1 (2 + n) width 1 1 = C 1 1 := by
        rw [aset_ne (by omega)]
        unfold mvU
        rw [if_neg (by omega)]
      rw [ev]
      unfold swI
      rw [hs]
      exact ⟨rfl, by omega, by omega⟩
    have key : ∀ n : Nat, n ≤ (C 1 1).toNat → swPos C width n = swPos C width (C 1 1).toNat → B49 (n : Int) (mvU C 1 1 (2 + n) (2 + C 1 1)) := by
      intro n
      induction n with
      | zero =>
        intro h1 h2
        have hs : swPos C width (C 1 1).toNat = ((0 : Nat) : Int) := by rw [← h2]; rfl
        have hq := hput 0 (by omega) hs
        refine r49 _ _ ⟨by omega, by omega⟩ (fun _ => ⟨fun _ => ⟨⟨by omega, by omega⟩, hq.2, ?_⟩, fun z => by omega⟩)
        rw [hq.1]; exact hend
      | succ n ih =>
        intro h1 h2
        have em : mvU C 1 1 (2 + ((n + 1 : Nat) : Int)) (2 + C 1 1) 1 (2 + ((n + 1 : Nat) : Int) - 1) = C 1 (2 + n) := by
          unfold mvU
          rw [if_neg (by omega), show 2 + ((n + 1 : Nat) : Int) - 1 = 2 + n by omega]
        refine r49 _ _ ⟨by omega, by omega⟩ (fun _ => ⟨fun z => by omega, fun _ => ⟨⟨by omega, by omega⟩, fun z => ?_, fun z => ?_⟩⟩)
        · rw [em] at z
          have hs : swPos C width (C 1 1).toNat = ((n + 1 : Nat) : Int) := by
            rw [← h2]
            show (if C 1 (2 + n) ≤ width then (n : Int) + 1 else swPos C width n) = _
            rw [if_pos z]; omega
          have hq := hput (n + 1) h1 hs
          refine ⟨⟨by omega, by omega⟩, hq.2, ?_⟩
          rw [hq.1]; exact hend
        · have z2 := z
          rw [em] at z2
          refine ⟨⟨by omega, by omega⟩, ?_⟩
          have h3 : swPos C width n = swPos C width (C 1 1).toNat := by
            rw [← h2]
            show _ = (if C 1 (2 + n) ≤ width then (n : Int) + 1 else swPos C width n)
            rw [if_neg z2]
          have h := ih (by omega) h3
          have es := mvU_step (A := C) (i := 1) (d := 1) (a := 2 + ((n + 1 : Nat) : Int)) (b := 2 + C 1 1) (by decide) (by omega)
          rw [show 2 + ((n + 1 : Nat) : Int) - 1 + 1 = 2 + ((n + 1 : Nat) : Int) by omega] at es
          rw [es, show 2 + ((n + 1 : Nat) : Int) - 1 = 2 + n by omega, show ((n + 1 : Nat) : Int) + (-1) = n by omega]
          exact h
    have h := key (C 1 1).toNat (Nat.le_refl _) rfl
    rw [e, mvU_0] at h
    exact h
  · rw [if_neg c, if_neg c, if_pos c2, if_pos c2] at hpost; exact hpost
def p_X6_drop (P : hGM) (width : Int) : Prop := mOK P
/-- the model's row with one standard width less -/
def swO (P : hGM) (a : Int) : hGM := mvD (aset P 1 1 (P 1 1 - 1)) 1 1 (2 + a) (2 + (P 1 1 - 1))
def v_X6_drop (P : hGM) (width : Int) : Int := if v_X6_in width 1 300 = 0 then -1000001 else if v_X6_wideAt P width < 0 then -1000002 else P 1 1 - 1
def m_X6_drop (P : hGM) (width : Int) : hGM := if v_X6_in width 1 300 = 0 then P else if v_X6_wideAt P width < 0 then P else swO (m_X6_changes P) (v_X6_wideAt P width)
theorem wideAt_bd {P : hGM} {w : Int} (h : 0 ≤ P 1 1) : v_X6_wideAt P w < 0 ∨ (0 ≤ v_X6_wideAt P w ∧ v_X6_wideAt P w < P 1 1) := by
  have s := firstN_spec (fun k => decide (P 1 (2 + k) = w)) (P 1 1).toNat
  unfold v_X6_wideAt
  split
  · exact Or.inl (by decide)
  · exact Or.inr (by omega)
set_option maxHeartbeats 4000000 in
theorem x_X6_drop (P : hGM) (width : Int) (h_width : hIn width) (hRP : ∀ (i : Nat) (k : Int), i < 100 → hIn (P i k)) (hp : p_X6_drop P width) (B43 : Int → hGM → Prop) (Po : Int → hGM → Prop) 
  (r43 : ∀ (y3 : Int) (P1 : hGM), hIn y3 → ((∀ (i : Nat) (k : Int), i < 100 → hIn (P1 i k)) → ((y3 < (P1 1 1) → ((0 ≤ ((2 + y3) + 1) ∧ ((2 + y3) + 1) < 273) ∧ ((0 ≤ (2 + y3) ∧ (2 + y3) < 273) ∧ (B43 (y3 + 1) (aset P1 1 (2 + y3) (P1 1 ((2 + y3) + 1))))))) ∧ (¬ y3 < (P1 1 1) → (Po (P1 1 1) P1)))) → (B43 y3 P1)) 
  (hpost : Po (v_X6_drop P width) (m_X6_drop P width)) : (((v_X6_in width 1 300) = 0 → (Po (-1000001) P)) ∧ (¬ (v_X6_in width 1 300) = 0 → (p_X6_wideAt P width ∧ (((v_X6_wideAt P width) < 0 → (Po (-1000002) P)) ∧ (¬ (v_X6_wideAt P width) < 0 → (p_X6_changes P ∧ (hIn (((m_X6_changes P) 1 1) - 1) ∧ (B43 (v_X6_wideAt P width) (aset (m_X6_changes P) 1 1 (((m_X6_changes P) 1 1) - 1)))))))))) := by
  obtain ⟨hm, q0, q1⟩ := hp
  have n1 := hm.2.1
  unfold v_X6_drop m_X6_drop at hpost
  refine ⟨fun c => ?_, fun c => ⟨n1, fun c2 => ?_, fun c2 => ?_⟩⟩
  · rw [if_pos c, if_pos c] at hpost; exact hpost
  · rw [if_neg c, if_neg c, if_pos c2, if_pos c2] at hpost; exact hpost
  · rw [if_neg c, if_neg c, if_neg c2, if_neg c2] at hpost
    have wb : 0 ≤ v_X6_wideAt P width ∧ v_X6_wideAt P width < P 1 1 := (wideAt_bd n1.1).resolve_left c2
    have e1 : m_X6_changes P 1 = P 1 := changes_row (by decide) (by decide)
    unfold swO at hpost
    rw [e1] at hpost ⊢
    generalize v_X6_wideAt P width = a at hpost wb ⊢
    refine ⟨⟨q0, q1⟩, ⟨by omega, by omega⟩, ?_⟩
    have ev : ∀ b : Int, (mvD (aset (m_X6_changes P) 1 1 (P 1 1 - 1)) 1 1 (2 + a) b) 1 1 = P 1 1 - 1 := by
      intro b
      unfold mvD
      rw [if_neg (by omega), aset_at]
    have hd : ∀ (d : Nat) (y : Int), y + d = P 1 1 - 1 → a ≤ y → B43 y (mvD (aset (m_X6_changes P) 1 1 (P 1 1 - 1)) 1 1 (2 + a) (2 + y)) := by
      intro d
      induction d with
      | zero =>
        intro y h1 h2
        have ey : y = P 1 1 - 1 := by omega
        subst ey
        refine r43 _ _ ⟨by omega, by omega⟩ (fun _ => ?_)
        rw [ev]
        exact ⟨fun z => by omega, fun _ => hpost⟩
      | succ d ih =>
        intro y h1 h2
        refine r43 _ _ ⟨by omega, by omega⟩ (fun _ => ?_)
        rw [ev]
        refine ⟨fun _ => ⟨⟨by omega, by omega⟩, ⟨by omega, by omega⟩, ?_⟩, fun z => by omega⟩
        rw [mvD_step (by decide) (by omega)]
        have h := ih (y + 1) (by omega) (by omega)
        rw [show 2 + (y + 1) = 2 + y + 1 by omega] at h
        exact h
    have h := hd (P 1 1 - 1 - a).toNat a (by omega) (Int.le_refl _)
    rw [mvD_0] at h
    exact h

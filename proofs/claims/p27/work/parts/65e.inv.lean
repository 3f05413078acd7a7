/-! what holds between the law's calls -/
def Inv27 (S : hS) : Prop := RLA (S 0) (S 10) ∧ HisI S ∧ S 8 0 1 = 0 ∧ (0 ≤ S 0 7 0 ∧ S 0 7 0 ≤ 1000)
def Nxt (S S1 : hS) : Prop := RLA (S1 0) (S1 10) ∧ HisI S1 ∧ S1 8 0 1 = 0 ∧ (0 ≤ S1 0 7 0 ∧ S1 0 7 0 ≤ S 0 7 0 + 1)
theorem nxt_of {S S0 S1 : hS} {A' : hGM} (h : Inv27 S) (st : St27 S0 S1 A') (e8 : S0 8 = S 8) (hr : RLA A' (S0 10)) (b : 0 ≤ A' 7 0 ∧ A' 7 0 ≤ S 0 7 0 + 1) : Nxt S S1 := by
  obtain ⟨s0, s10, s8, sh⟩ := st
  exact ⟨by rw [s0, s10]; exact hr, sh, by rw [s8, e8]; exact h.2.2.1, by rw [s0]; exact b⟩
theorem nxt_same {S S1 : hS} (h : Inv27 S) (st : St27 S S1 (S 0)) : Nxt S S1 := nxt_of h st rfl h.1 ⟨h.2.2.2.1, by omega⟩
theorem inv_same {S S1 : hS} (h : Inv27 S) (st : St27 S S1 (S 0)) : Inv27 S1 := by
  obtain ⟨s0, s10, s8, sh⟩ := st
  exact ⟨by rw [s0, s10]; exact h.1, sh, by rw [s8]; exact h.2.2.1, by rw [s0]; exact h.2.2.2⟩
theorem st_trans {S S1 S2 : hS} (h : St27 S S1 (S 0)) (h2 : St27 S1 S2 (S1 0)) : St27 S S2 (S 0) :=
  ⟨h2.1.trans h.1, h2.2.1.trans h.2.1, h2.2.2.1.trans h.2.2.1, h2.2.2.2⟩
/-! answers of refused calls, and of those that are not refused -/
theorem within_y {x a b : Int} (h : a ≤ x ∧ x ≤ b) : ¬ v_X5_within x a b = 0 := fun z => within_0.mp z h
theorem glyph_no {A : hGM} {g : Int} (h : ¬ (0 ≤ g ∧ g < A 0 0)) : v_X1_hasGlyph A g = 0 := within_0.mpr (by omega)
theorem glyph_y {A : hGM} {g : Int} (h : 0 ≤ g ∧ g < A 0 0) : ¬ v_X1_hasGlyph A g = 0 := within_y (by omega)
theorem hasStem_no {A : hGM} (hn : fNum A) {g k : Int} (h : ¬ ((0 ≤ g ∧ g < A 0 0) ∧ 0 ≤ k ∧ k < A 2 g)) : v_X1_hasStem A g k = 0 := Decidable.byContradiction (fun z => h (hasStem_y hn z))
theorem hasStem_yes {A : hGM} (hn : fNum A) {g k : Int} (h : (0 ≤ g ∧ g < A 0 0) ∧ 0 ≤ k ∧ k < A 2 g) : ¬ v_X1_hasStem A g k = 0 := fun z => hasStem_n hn z h
theorem stem_bad {A : hGM} {g p w : Int} (h : ¬ (0 ≤ g ∧ g < A 0 0)) : v_X1_addStem A g p w = -1000001 ∧ m_X1_addStem A g p w = A := by
  unfold v_X1_addStem m_X1_addStem
  have c := glyph_no h
  rw [if_pos (Or.inl c), if_pos (Or.inl c)]
  exact ⟨rfl, rfl⟩
theorem cut_bad {A : hGM} (hn : fNum A) {g k : Int} (h : ¬ ((0 ≤ g ∧ g < A 0 0) ∧ 0 ≤ k ∧ k < A 2 g)) : v_X1_cutStem A g k = -1000001 ∧ m_X1_cutStem A g k = A := by
  have c := hasStem_no hn h
  unfold v_X1_cutStem m_X1_cutStem
  rw [if_pos c, if_pos c]
  exact ⟨rfl, rfl⟩
theorem hint_bad {A : hGM} (hn : fNum A) {g k v : Int} (h : ¬ ((0 ≤ g ∧ g < A 0 0) ∧ 0 ≤ k ∧ k < A 2 g)) : v_X1_hintStem A g k v = -1000001 ∧ m_X1_hintStem A g k v = A := by
  have c := hasStem_no hn h
  unfold v_X1_hintStem m_X1_hintStem
  rw [if_pos c, if_pos c]
  exact ⟨rfl, rfl⟩
theorem stem_ok {A : hGM} {g p w : Int} (hg : 0 ≤ g ∧ g < A 0 0) (hp : 0 ≤ p ∧ p ≤ 999) (hw : 1 ≤ w ∧ w ≤ 300) : v_X1_addStem A g p w = (if ¬ ovAt A g p w = -1 then -1000002 else if A 2 g < 6 then lfN A g p (A 2 g).toNat else -1000003) ∧ m_X1_addStem A g p w = (if ¬ ovAt A g p w = -1 then A else if A 2 g < 6 then aset (put3 (shR A (g * 6 + lfN A g p (A 2 g).toNat) (g * 6 + A 2 g)) (g * 6 + lfN A g p (A 2 g).toNat) p w 0) 2 g (A 2 g + 1) else A) := by
  have c : ¬ (v_X1_hasGlyph A g = 0 ∨ v_X5_within p 0 999 = 0 ∨ v_X5_within w 1 300 = 0) := by
    rintro (z | z | z)
    · exact glyph_y hg z
    · exact within_y hp z
    · exact within_y hw z
  unfold v_X1_addStem m_X1_addStem
  rw [if_neg c, if_neg c]
  exact ⟨rfl, rfl⟩
theorem cut_ok {A : hGM} (hn : fNum A) {g k : Int} (h : (0 ≤ g ∧ g < A 0 0) ∧ 0 ≤ k ∧ k < A 2 g) : v_X1_cutStem A g k = A 2 g - 1 ∧ m_X1_cutStem A g k = aset (put3 (shL A (g * 6 + k) (g * 6 + (A 2 g - 1))) (g * 6 + (A 2 g - 1)) 0 0 0) 2 g (A 2 g - 1) := by
  have c := hasStem_yes hn h
  unfold v_X1_cutStem m_X1_cutStem
  rw [if_neg c, if_neg c]
  exact ⟨rfl, rfl⟩
theorem hint_ok {A : hGM} (hn : fNum A) {g k v : Int} (h : (0 ≤ g ∧ g < A 0 0) ∧ 0 ≤ k ∧ k < A 2 g) (hv : 0 ≤ v ∧ v ≤ 3) : v_X1_hintStem A g k v = A 5 (g * 6 + k) ∧ m_X1_hintStem A g k v = aset A 5 (g * 6 + k) v := by
  have c := hasStem_yes hn h
  have n := hn.1
  have b := (hn.2.2.2.2.2.2 g (by omega) (by omega)).2
  unfold v_X1_hintStem m_X1_hintStem
  rw [if_neg c, if_neg c, if_neg (within_y hv), if_neg (within_y hv), cell_in (by omega) (by omega), put_in (by omega) (by omega)]
  exact ⟨rfl, rfl⟩
/-- whether one of the first stems lies in the way -/
def ovN (A : hGM) (g p w : Int) : Nat → Int
  | 0 => 0
  | n + 1 => if ovN A g p w n = 0 then (if p < A 3 (g * 6 + n) + A 4 (g * 6 + n) ∧ A 3 (g * 6 + n) < p + w then 1 else 0) else 1
theorem ovN_01 (A : hGM) (g p w : Int) (n : Nat) : ovN A g p w n = 0 ∨ ovN A g p w n = 1 := by
  cases n with
  | zero => exact Or.inl rfl
  | succ n => unfold ovN; split; split; exact Or.inr rfl; exact Or.inl rfl; exact Or.inr rfl
theorem ovN_c (A : hGM) (g p w : Int) (n : Nat) : ovN A g p w n = 0 ↔ ∀ k : Int, 0 ≤ k → k < n → ¬ (p < A 3 (g * 6 + k) + A 4 (g * 6 + k) ∧ A 3 (g * 6 + k) < p + w) := by
  induction n with
  | zero => exact ⟨fun _ k a b => by omega, fun _ => rfl⟩
  | succ n ih =>
    have e : ovN A g p w (n + 1) = if ovN A g p w n = 0 then (if p < A 3 (g * 6 + n) + A 4 (g * 6 + n) ∧ A 3 (g * 6 + n) < p + w then 1 else 0) else 1 := rfl
    rw [e]
    by_cases c : ovN A g p w n = 0
    · rw [if_pos c]
      have i1 := ih.mp c
      by_cases d : p < A 3 (g * 6 + n) + A 4 (g * 6 + n) ∧ A 3 (g * 6 + n) < p + w
      · rw [if_pos d]
        exact ⟨fun z => absurd z (by decide), fun z => absurd d (z n (by omega) (by omega))⟩
      · rw [if_neg d]
        refine ⟨fun _ k a b => ?_, fun _ => rfl⟩
        by_cases f : k = n
        · rw [f]; exact d
        · exact i1 k a (by omega)
    · rw [if_neg c]
      exact ⟨fun z => absurd z (by decide), fun z => absurd (ih.mpr (fun k a b => z k a (by omega))) c⟩
theorem ovAt_c {A : hGM} {g p w : Int} (h0 : 0 ≤ A 2 g) : ovAt A g p w = -1 ↔ ovN A g p w (A 2 g).toNat = 0 := by
  rw [ovN_c]
  unfold ovAt
  constructor
  · intro q k a b
    rcases firstN_spec (fun k => decide (p < A 3 (g * 6 + k) + A 4 (g * 6 + k) ∧ A 3 (g * 6 + k) < p + w)) (A 2 g).toNat with ⟨_, f⟩ | ⟨x, y, _, _⟩
    · exact of_decide_eq_false (f k a b)
    · omega
  · intro q
    exact firstN_none (fun j a b => decide_eq_false (q j a b))

def p_X4_copy (A : hGM) (B : hGM) : Prop := True
def c_X4_copy (A : hGM) (B : hGM) : hGM := m_X5_copyRow (m_X5_copyRow (m_X5_copyRow (m_X5_copyRow (aset A 7 0 (B 7 0)) B 8 4 8 4) B 9 4 9 4) B 10 4 10 4) B 11 32 11 32
def m_X4_copy (A : hGM) (B : hGM) : hGM := cpR (c_X4_copy A B) 112 (B 112) 32
set_option maxHeartbeats 4000000 in
theorem x_X4_copy (A : hGM) (B : hGM) (hRA : ∀ (i : Nat) (k : Int), i < 100 → hIn (A i k)) (hRB : ∀ (i : Nat) (k : Int), i < 100 → hIn (B i k)) (hp : p_X4_copy A B) (B54 : Int → hGM → Prop) (Po : hGM → Prop) 
  (r54 : ∀ (y2 : Int) (A1 : hGM), hIn y2 → ((∀ (i : Nat) (k : Int), i < 100 → hIn (A1 i k)) → ((y2 < 32 → ((0 ≤ y2 ∧ y2 < 32) ∧ (B54 (y2 + 1) (aset A1 112 y2 (B 112 y2))))) ∧ (¬ y2 < 32 → (Po A1)))) → (B54 y2 A1)) 
  (hpost : Po (m_X4_copy A B)) : (p_X5_copyRow (aset A 7 0 (B 7 0)) B 8 4 8 4 ∧ (p_X5_copyRow (m_X5_copyRow (aset A 7 0 (B 7 0)) B 8 4 8 4) B 9 4 9 4 ∧ (p_X5_copyRow (m_X5_copyRow (m_X5_copyRow (aset A 7 0 (B 7 0)) B 8 4 8 4) B 9 4 9 4) B 10 4 10 4 ∧ (p_X5_copyRow (m_X5_copyRow (m_X5_copyRow (m_X5_copyRow (aset A 7 0 (B 7 0)) B 8 4 8 4) B 9 4 9 4) B 10 4 10 4) B 11 32 11 32 ∧ (B54 0 (m_X5_copyRow (m_X5_copyRow (m_X5_copyRow (m_X5_copyRow (aset A 7 0 (B 7 0)) B 8 4 8 4) B 9 4 9 4) B 10 4 10 4) B 11 32 11 32)))))) := by
  refine ⟨trivial, trivial, trivial, trivial, ?_⟩
  have h : B54 0 (cpR (c_X4_copy A B) 112 (B 112) 0) := by
    refine upI (C := fun k => B54 k (cpR (c_X4_copy A B) 112 (B 112) k)) (lo := 0) (hi := 32) (by decide) ?_ ?_
    · exact r54 _ _ ⟨by omega, by omega⟩ (fun _ => ⟨fun _ => by omega, fun _ => hpost⟩)
    · intro k h0 hk h
      refine r54 _ _ ⟨by omega, by omega⟩ (fun _ => ⟨fun _ => ⟨⟨by omega, by omega⟩, ?_⟩, fun _ => by omega⟩)
      rw [cpR_succ (by omega)]
      exact h
  rw [cpR_0] at h
  exact h
def v_X4_isMade (A : hGM) (slot : Int) : Int := (if (v_X5_cell A 8 4 slot) ≤ 0 then 0 else 1)
theorem z_X4_isMade (A : hGM) (slot : Int) : v_X4_isMade A slot = 0 ∨ v_X4_isMade A slot = 1 := by
  unfold v_X4_isMade
  (repeat' split) <;> first | exact Or.inl rfl | exact Or.inr rfl
def p_X4_held (A : hGM) : Prop := True
def v_X4_held (A : hGM) : Int := sumN (fun k => if v_X4_isMade A k = 0 then 0 else 1) 4
set_option maxHeartbeats 4000000 in
theorem x_X4_held (A : hGM) (hRA : ∀ (i : Nat) (k : Int), i < 100 → hIn (A i k)) (hp : p_X4_held A) (B4 : Int → Int → Prop) (Po : Int → Prop) 
  (r4 : ∀ (y1 : Int) (y2 : Int), hIn y1 → hIn y2 → (((y2 < 4 → (((v_X4_isMade A y2) = 0 → (B4 y1 (y2 + 1))) ∧ (¬ (v_X4_isMade A y2) = 0 → (B4 (y1 + 1) (y2 + 1))))) ∧ (¬ y2 < 4 → (Po y1)))) → (B4 y1 y2)) 
  (hpost : Po (v_X4_held A)) : (B4 0 0) := by
  have bd : ∀ n : Nat, 0 ≤ sumN (fun k => if v_X4_isMade A k = 0 then 0 else 1) n ∧ sumN (fun k => if v_X4_isMade A k = 0 then 0 else 1) n ≤ 1 * n := fun n => sumN_bd n (fun k _ _ => by constructor <;> split <;> decide)
  refine upN (C := fun k => B4 (sumN (fun k => if v_X4_isMade A k = 0 then 0 else 1) k) (k : Int)) 4 ?_ ?_
  · exact r4 _ _ (by have := bd 4; exact ⟨by omega, by omega⟩) ⟨by omega, by omega⟩ ⟨fun _ => by omega, fun _ => hpost⟩
  · intro k hk h
    have b := bd k
    refine r4 _ _ ⟨by omega, by omega⟩ ⟨by omega, by omega⟩ ⟨fun _ => ⟨fun c => ?_, fun c => ?_⟩, fun _ => by omega⟩
    · unfold sumN at h; rw [if_pos c] at h; simpa using h
    · unfold sumN at h; rw [if_neg c] at h; simpa using h
def p_X4_slotOf (A : hGM) (size : Int) : Prop := True
def v_X4_slotOf (A : hGM) (size : Int) : Int := firstN (fun k => decide (¬ v_X4_isMade A k = 0 ∧ v_X5_cell A 9 4 k = size)) 4
set_option maxHeartbeats 4000000 in
theorem x_X4_slotOf (A : hGM) (size : Int) (h_size : hIn size) (hRA : ∀ (i : Nat) (k : Int), i < 100 → hIn (A i k)) (hp : p_X4_slotOf A size) (B2 : Int → Prop) (Po : Int → Prop) 
  (r2 : ∀ (y2 : Int), hIn y2 → (((y2 < 4 → (((v_X4_isMade A y2) = 0 → (B2 (y2 + 1))) ∧ (¬ (v_X4_isMade A y2) = 0 → (((v_X5_cell A 9 4 y2) = size → (Po y2)) ∧ (¬ (v_X5_cell A 9 4 y2) = size → (B2 (y2 + 1))))))) ∧ (¬ y2 < 4 → (Po (-1))))) → (B2 y2)) 
  (hpost : Po (v_X4_slotOf A size)) : (B2 0) := by
  refine firstLoop (B := B2) _ 4 (fun k h0 h1 hk hp => ?_) (fun k h0 h1 hk hb => ?_) (fun hp => ?_) hpost
  · have hk := of_decide_eq_true hk
    exact r2 k ⟨by omega, by omega⟩ ⟨fun _ => ⟨fun c => absurd c hk.1, fun _ => ⟨fun _ => hp, fun c => absurd hk.2 c⟩⟩, fun c => by omega⟩
  · have hk := of_decide_eq_false hk
    exact r2 k ⟨by omega, by omega⟩ ⟨fun _ => ⟨fun _ => hb, fun c1 => ⟨fun c2 => absurd ⟨c1, c2⟩ hk, fun _ => hb⟩⟩, fun c => by omega⟩
  · exact r2 4 ⟨by omega, by omega⟩ ⟨fun _ => by omega, fun _ => hp⟩
def p_X4_olderThan (A : hGM) (slot : Int) : Prop := True
def v_X4_olderThan (A : hGM) (slot : Int) : Int := sumN (fun k => if ¬ v_X4_isMade A k = 0 ∧ v_X5_cell A 8 4 k < v_X5_cell A 8 4 slot then 1 else 0) 4
set_option maxHeartbeats 4000000 in
theorem x_X4_olderThan (A : hGM) (slot : Int) (h_slot : hIn slot) (hRA : ∀ (i : Nat) (k : Int), i < 100 → hIn (A i k)) (hp : p_X4_olderThan A slot) (B4 : Int → Int → Prop) (Po : Int → Prop) 
  (r4 : ∀ (y2 : Int) (y3 : Int), hIn y2 → hIn y3 → (((y3 < 4 → (((v_X4_isMade A y3) = 0 → (B4 y2 (y3 + 1))) ∧ (¬ (v_X4_isMade A y3) = 0 → (((v_X5_cell A 8 4 y3) < (v_X5_cell A 8 4 slot) → (B4 (y2 + 1) (y3 + 1))) ∧ (¬ (v_X5_cell A 8 4 y3) < (v_X5_cell A 8 4 slot) → (B4 y2 (y3 + 1))))))) ∧ (¬ y3 < 4 → (Po y2)))) → (B4 y2 y3)) 
  (hpost : Po (v_X4_olderThan A slot)) : (B4 0 0) := by
  have bd : ∀ n : Nat, 0 ≤ sumN (fun k => if ¬ v_X4_isMade A k = 0 ∧ v_X5_cell A 8 4 k < v_X5_cell A 8 4 slot then 1 else 0) n ∧ sumN (fun k => if ¬ v_X4_isMade A k = 0 ∧ v_X5_cell A 8 4 k < v_X5_cell A 8 4 slot then 1 else 0) n ≤ 1 * n := fun n => sumN_bd n (fun k _ _ => by constructor <;> split <;> decide)
  refine upN (C := fun k => B4 (sumN (fun k => if ¬ v_X4_isMade A k = 0 ∧ v_X5_cell A 8 4 k < v_X5_cell A 8 4 slot then 1 else 0) k) (k : Int)) 4 ?_ ?_
  · exact r4 _ _ (by have := bd 4; exact ⟨by omega, by omega⟩) ⟨by omega, by omega⟩ ⟨fun _ => by omega, fun _ => hpost⟩
  · intro k hk h
    have b := bd k
    refine r4 _ _ ⟨by omega, by omega⟩ ⟨by omega, by omega⟩ ⟨fun _ => ⟨fun c => ?_, fun c => ⟨fun c2 => ?_, fun c2 => ?_⟩⟩, fun _ => by omega⟩
    · unfold sumN at h; rw [if_neg (fun q => q.1 c)] at h; simpa using h
    · unfold sumN at h; rw [if_pos ⟨c, c2⟩] at h; simpa using h
    · unfold sumN at h; rw [if_neg (fun q => c2 q.2)] at h; simpa using h
def p_X4_slotAt (A : hGM) (index : Int) : Prop := True
def v_X4_slotAt (A : hGM) (index : Int) : Int := firstN (fun k => decide (¬ v_X4_isMade A k = 0 ∧ v_X4_olderThan A k = index)) 4
set_option maxHeartbeats 4000000 in
theorem x_X4_slotAt (A : hGM) (index : Int) (h_index : hIn index) (hRA : ∀ (i : Nat) (k : Int), i < 100 → hIn (A i k)) (hp : p_X4_slotAt A index) (B2 : Int → Prop) (Po : Int → Prop) 
  (r2 : ∀ (y2 : Int), hIn y2 → (((y2 < 4 → (((v_X4_isMade A y2) = 0 → (B2 (y2 + 1))) ∧ (¬ (v_X4_isMade A y2) = 0 → (p_X4_olderThan A y2 ∧ (((v_X4_olderThan A y2) = index → (Po y2)) ∧ (¬ (v_X4_olderThan A y2) = index → (B2 (y2 + 1)))))))) ∧ (¬ y2 < 4 → (Po (-1))))) → (B2 y2)) 
  (hpost : Po (v_X4_slotAt A index)) : (B2 0) := by
  refine firstLoop (B := B2) _ 4 (fun k h0 h1 hk hp => ?_) (fun k h0 h1 hk hb => ?_) (fun hp => ?_) hpost
  · have hk := of_decide_eq_true hk
    exact r2 k ⟨by omega, by omega⟩ ⟨fun _ => ⟨fun c => absurd c hk.1, fun _ => ⟨trivial, fun _ => hp, fun c => absurd hk.2 c⟩⟩, fun c => by omega⟩
  · have hk := of_decide_eq_false hk
    exact r2 k ⟨by omega, by omega⟩ ⟨fun _ => ⟨fun _ => hb, fun c1 => ⟨trivial, fun c2 => absurd ⟨c1, c2⟩ hk, fun _ => hb⟩⟩, fun c => by omega⟩
  · exact r2 4 ⟨by omega, by omega⟩ ⟨fun _ => by omega, fun _ => hp⟩
def p_X4_slotToMake (A : hGM) (size : Int) : Prop := True
/-- the place of the least turn among the first places -/
def leastAt (f : Int → Int) : Nat → Int
  | 0 => 0
  | n + 1 => if f n < f (leastAt f n) then n else leastAt f n
theorem leastAt_bd (f : Int → Int) (n : Nat) : 0 ≤ leastAt f n ∧ leastAt f n ≤ n := by
  induction n with
  | zero => exact ⟨Int.le_refl _, Int.le_refl _⟩
  | succ n ih => unfold leastAt; split <;> omega
def v_X4_slotToMake (A : hGM) (size : Int) : Int := if v_X4_slotOf A size < 0 then leastAt (fun k => v_X5_cell A 8 4 k) 4 else v_X4_slotOf A size
set_option maxHeartbeats 4000000 in
theorem x_X4_slotToMake (A : hGM) (size : Int) (h_size : hIn size) (hRA : ∀ (i : Nat) (k : Int), i < 100 → hIn (A i k)) (hp : p_X4_slotToMake A size) (B17 : Int → Int → Prop) (Po : Int → Prop) 
  (r17 : ∀ (y3 : Int) (y4 : Int), hIn y3 → hIn y4 → (((y4 < 4 → (((v_X5_cell A 8 4 y4) < (v_X5_cell A 8 4 y3) → (B17 y4 (y4 + 1))) ∧ (¬ (v_X5_cell A 8 4 y4) < (v_X5_cell A 8 4 y3) → (B17 y3 (y4 + 1))))) ∧ (¬ y4 < 4 → (Po y3)))) → (B17 y3 y4)) 
  (hpost : Po (v_X4_slotToMake A size)) : (p_X4_slotOf A size ∧ (((v_X4_slotOf A size) < 0 → (B17 0 1)) ∧ (¬ (v_X4_slotOf A size) < 0 → (Po (v_X4_slotOf A size))))) := by
  refine ⟨trivial, fun c => ?_, fun c => ?_⟩
  · unfold v_X4_slotToMake at hpost
    rw [if_pos c] at hpost
    have h : ∀ n : Nat, 1 ≤ n → n ≤ 4 → B17 (leastAt (fun k => v_X5_cell A 8 4 k) n) n := by
      have key : ∀ d n : Nat, n + d = 4 → 1 ≤ n → B17 (leastAt (fun k => v_X5_cell A 8 4 k) n) n := by
        intro d
        induction d with
        | zero =>
          intro n h1 h2
          have e : n = 4 := by omega
          subst e
          have b := leastAt_bd (fun k => v_X5_cell A 8 4 k) 4
          exact r17 _ _ ⟨by omega, by omega⟩ ⟨by omega, by omega⟩ ⟨fun _ => by omega, fun _ => hpost⟩
        | succ d ih =>
          intro n h1 h2
          have b := leastAt_bd (fun k => v_X5_cell A 8 4 k) n
          have h := ih (n + 1) (by omega) (by omega)
          refine r17 _ _ ⟨by omega, by omega⟩ ⟨by omega, by omega⟩ ⟨fun _ => ⟨fun c => ?_, fun c => ?_⟩, fun _ => by omega⟩
          · unfold leastAt at h; rw [if_pos c] at h; exact h
          · unfold leastAt at h; rw [if_neg c] at h; exact h
      intro n a b
      exact key (4 - n) n (by omega) a
    have h1 := h 1 (by decide) (by decide)
    have e : leastAt (fun k => v_X5_cell A 8 4 k) 1 = 0 := by
      show (if v_X5_cell A 8 4 ((0 : Nat) : Int) < v_X5_cell A 8 4 0 then ((0 : Nat) : Int) else 0) = 0
      split <;> rfl
    rw [e] at h1
    exact h1
  · unfold v_X4_slotToMake at hpost
    rw [if_neg c] at hpost
    exact hpost
def p_X4_begin (A : hGM) (slot : Int) (size : Int) (glyphCount : Int) : Prop := (hIn ((A 7 0) + 1) ∧ True)
def m_X4_begin (A : hGM) (slot : Int) (size : Int) (glyphCount : Int) : hGM := (m_X5_put (m_X5_put (m_X5_put (aset A 7 0 ((A 7 0) + 1)) 8 4 slot ((aset A 7 0 ((A 7 0) + 1)) 7 0)) 9 4 slot size) 10 4 slot glyphCount)
def m_X4_keep (A : hGM) (at1 : Int) (columnCount : Int) (litColumns : Int) : hGM := (if at1 < 0 then (m_X5_put A 11 32 at1 columnCount) else (if at1 < 32 then (aset (m_X5_put A 11 32 at1 columnCount) 112 at1 litColumns) else (m_X5_put A 11 32 at1 columnCount)))
def v_X4_litAt (A : hGM) (at1 : Int) : Int := (if at1 < 0 then 0 else (if at1 < 32 then (A 112 at1) else 0))
def p_X4_litTogether (A : hGM) (slot : Int) : Prop := 0 ≤ slot ∧ slot < 4 ∧ v_X5_cell A 10 4 slot ≤ 8 ∧ ∀ k : Int, 0 ≤ k → k < 32 → 0 ≤ v_J13_bitCount_95d88 (v_X4_litAt A k) ∧ v_J13_bitCount_95d88 (v_X4_litAt A k) ≤ 64
def v_X4_litTogether (A : hGM) (slot : Int) : Int := sumN (fun k => v_J13_bitCount_95d88 (v_X4_litAt A (slot * 8 + k))) (v_X5_cell A 10 4 slot).toNat
set_option maxHeartbeats 4000000 in
theorem x_X4_litTogether (A : hGM) (slot : Int) (h_slot : hIn slot) (hRA : ∀ (i : Nat) (k : Int), i < 100 → hIn (A i k)) (hp : p_X4_litTogether A slot) (B4 : Int → Int → Prop) (Po : Int → Prop) 
  (r4 : ∀ (y2 : Int) (y3 : Int), hIn y2 → hIn y3 → (((y3 < (v_X5_cell A 10 4 slot) → (hIn ((slot * 8) + y3) ∧ (B4 (y2 + (v_J13_bitCount_95d88 (v_X4_litAt A ((slot * 8) + y3)))) (y3 + 1)))) ∧ (¬ y3 < (v_X5_cell A 10 4 slot) → (Po y2)))) → (B4 y2 y3)) 
  (hpost : Po (v_X4_litTogether A slot)) : (B4 0 0) := by
  obtain ⟨q1, q2, q3, q4⟩ := hp
  have bd : ∀ n : Nat, n ≤ 8 → 0 ≤ sumN (fun k => v_J13_bitCount_95d88 (v_X4_litAt A (slot * 8 + k))) n ∧ sumN (fun k => v_J13_bitCount_95d88 (v_X4_litAt A (slot * 8 + k))) n ≤ 64 * n := fun n hn => sumN_bd n (fun k a b => q4 _ (by omega) (by omega))
  refine upN (C := fun k => B4 (sumN (fun k => v_J13_bitCount_95d88 (v_X4_litAt A (slot * 8 + k))) k) (k : Int)) (v_X5_cell A 10 4 slot).toNat ?_ ?_
  · exact r4 _ _ (by have := bd _ (show (v_X5_cell A 10 4 slot).toNat ≤ 8 by omega); exact ⟨by omega, by omega⟩) ⟨by omega, by omega⟩ ⟨fun _ => by omega, fun _ => hpost⟩
  · intro k hk h
    have b := bd k (by omega)
    exact r4 _ _ ⟨by omega, by omega⟩ ⟨by omega, by omega⟩ ⟨fun _ => ⟨⟨by omega, by omega⟩, h⟩, fun _ => by omega⟩

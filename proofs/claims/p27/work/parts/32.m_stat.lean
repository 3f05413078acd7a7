def v_X5_within (value : Int) (least : Int) (greatest : Int) : Int := (if value < least then 0 else (if value ≤ greatest then 1 else 0))
theorem z_X5_within (value : Int) (least : Int) (greatest : Int) : v_X5_within value least greatest = 0 ∨ v_X5_within value least greatest = 1 := by
  unfold v_X5_within
  (repeat' split) <;> first | exact Or.inl rfl | exact Or.inr rfl
-- AFTER
theorem within_0 {x a b : Int} : v_X5_within x a b = 0 ↔ ¬ (a ≤ x ∧ x ≤ b) := by
  unfold v_X5_within
  split
  · exact ⟨fun _ q => by omega, fun _ => rfl⟩
  · split
    · exact ⟨fun q => by omega, fun q => by omega⟩
    · exact ⟨fun _ q => by omega, fun _ => rfl⟩
def v_X5_isSize (size : Int) : Int := (v_X5_within size 6 48)
theorem z_X5_isSize (size : Int) : v_X5_isSize size = 0 ∨ v_X5_isSize size = 1 := by
  unfold v_X5_isSize
  (repeat' split) <;> first | exact Or.inl rfl | exact Or.inr rfl | exact z_X5_within _ _ _
def p_X5_inPixels (units : Int) (size : Int) : Prop := (hIn ((units * size) + 500) ∧ (p_J9_floorDiv_7cf53 ((units * size) + 500) 1000 ∧ True))
def v_X5_inPixels (units : Int) (size : Int) : Int := (v_J9_floorDiv_7cf53 ((units * size) + 500) 1000)
-- AFTER
theorem px_v {u z : Int} (h : hIn (u * z + 500)) : v_X5_inPixels u z = (u * z + 500) / 1000 := fdiv_v h ⟨by decide, by decide⟩ (by decide)
theorem px_p {u z : Int} (h : hIn (u * z + 500)) : p_X5_inPixels u z := ⟨h, fdiv_p h ⟨by decide, by decide⟩ (by decide), trivial⟩
def v_X5_cell (A : hGM) (i : Nat) (n : Nat) (index : Int) : Int := (if index < 0 then 0 else (if index < (n : Int) then (A i index) else 0))
def m_X5_put (A : hGM) (i : Nat) (n : Nat) (index : Int) (value : Int) : hGM := (if index < 0 then A else (if index < (n : Int) then (aset A i index value) else A))
-- AFTER
theorem cell_in {A : hGM} {i n : Nat} {k : Int} (h0 : 0 ≤ k) (h1 : k < n) : v_X5_cell A i n k = A i k := by
  unfold v_X5_cell
  rw [if_neg (by omega), if_pos h1]
theorem put_in {A : hGM} {i n : Nat} {k v : Int} (h0 : 0 ≤ k) (h1 : k < n) : m_X5_put A i n k v = aset A i k v := by
  unfold m_X5_put
  rw [if_neg (by omega), if_pos h1]
theorem put_row {A : hGM} {i j n : Nat} {k v : Int} (h : j ≠ i) : m_X5_put A i n k v j = A j := by
  unfold m_X5_put
  split
  · rfl
  · split
    · exact aset_row h
    · rfl
theorem cell_bd {A : hGM} {i n : Nat} {k lo hi : Int} (h0 : lo ≤ 0) (h1 : 0 ≤ hi) (h : ∀ k : Int, 0 ≤ k → k < n → lo ≤ A i k ∧ A i k ≤ hi) : lo ≤ v_X5_cell A i n k ∧ v_X5_cell A i n k ≤ hi := by
  unfold v_X5_cell
  split
  · exact ⟨h0, h1⟩
  · split
    · exact h k (by omega) (by assumption)
    · exact ⟨h0, h1⟩
def p_X5_copyRow (A : hGM) (B : hGM) (i1 : Nat) (n1 : Nat) (i2 : Nat) (n2 : Nat) : Prop := True
def m_X5_copyRow (A : hGM) (B : hGM) (i1 : Nat) (n1 : Nat) (i2 : Nat) (n2 : Nat) : hGM := cpR A i2 (B i1) ((min n1 n2 : Nat) : Int)
set_option maxHeartbeats 4000000 in
theorem x_X5_copyRow (A : hGM) (B : hGM) (i1 : Nat) (n1 : Nat) (i2 : Nat) (n2 : Nat) (h_n1 : n1 < 100000) (h_n2 : n2 < 100000) (hRA : ∀ (i : Nat) (k : Int), i < 100 → hIn (A i k)) (hRB : ∀ (i : Nat) (k : Int), i < 100 → hIn (B i k)) (hp : p_X5_copyRow A B i1 n1 i2 n2) (B2 : Int → hGM → Prop) (Po : hGM → Prop) 
  (r2 : ∀ (y2 : Int) (A1 : hGM), hIn y2 → ((∀ (i : Nat) (k : Int), i < 100 → hIn (A1 i k)) → ((y2 < (n2 : Int) → ((y2 < (n1 : Int) → ((0 ≤ y2 ∧ y2 < (n1 : Int)) ∧ ((0 ≤ y2 ∧ y2 < (n2 : Int)) ∧ (B2 (y2 + 1) (aset A1 i2 y2 (B i1 y2)))))) ∧ (¬ y2 < (n1 : Int) → (Po A1)))) ∧ (¬ y2 < (n2 : Int) → (Po A1)))) → (B2 y2 A1)) 
  (hpost : Po (m_X5_copyRow A B i1 n1 i2 n2)) : (B2 0 A) := by
  have h : B2 ((0 : Nat) : Int) (cpR A i2 (B i1) ((0 : Nat) : Int)) := by
    refine upN (C := fun k => B2 (k : Int) (cpR A i2 (B i1) (k : Int))) (min n1 n2) ?_ ?_
    · exact r2 _ _ ⟨by omega, by omega⟩ (fun _ => ⟨fun _ => ⟨fun _ => by omega, fun _ => hpost⟩, fun _ => hpost⟩)
    · intro k hk h
      refine r2 _ _ ⟨by omega, by omega⟩ (fun _ => ⟨fun _ => ⟨fun _ => ⟨⟨by omega, by omega⟩, ⟨by omega, by omega⟩, ?_⟩, fun _ => by omega⟩, fun _ => by omega⟩)
      rw [cpR_succ (by omega)]
      exact h
  rw [show ((0 : Nat) : Int) = 0 from rfl, cpR_0] at h
  exact h
def v_X5_bitOf (bits : Int) (index : Int) : Int := (jToI (jAnd (jUshr bits index) 1))

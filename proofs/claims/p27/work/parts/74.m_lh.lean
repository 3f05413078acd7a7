def p_L_areWidths (S : hS) : Prop := Inv27 S
def q_L_areWidths (S : hS) (S1 : hS) : Prop := Sam S S1
theorem StR_rank {d0 d1 d2 n s0 s1 s2 : Int} (h : StR d0 d1 d2 n s0 s1 s2) {d : Int} (h0 : 0 < d) (hd : d = d0 ∨ d = d1 ∨ d = d2) {r : Int} (hr : (if 0 < d0 ∧ d0 < d then 1 else 0) + (if 0 < d1 ∧ d1 < d then 1 else 0) + (if 0 < d2 ∧ d2 < d then 1 else 0) = r) : (r = 0 ∧ 0 < n ∧ s0 = d) ∨ (r = 1 ∧ 1 < n ∧ s1 = d) ∨ (r = 2 ∧ 2 < n ∧ s2 = d) := by
  obtain ⟨a0, a1, a2, an, ac, x0, x1, t0, t1, t2, m0, m1, m2⟩ := h
  by_cases c0 : 0 < d0 <;> by_cases c1 : 0 < d1 <;> by_cases c2 : 0 < d2 <;> simp only [c0, c1, c2, if_true, if_false, true_and, false_and, forall_const, false_implies, true_implies] at ac hr x0 x1 m0 m1 m2 <;> rcases hd with rfl | rfl | rfl <;> omega
theorem ct_w {S : hS} {x : Int} (x0 : 0 ≤ x) (x2 : x < 3) : v_X5_count S (10 + x) = if x < S 0 0 1 then S 0 6 x else -1000004 := by
  rcases (show x = 0 ∨ x = 1 ∨ x = 2 by omega) with rfl | rfl | rfl
  · show (if (0 : Int) < S 0 0 1 then v_X5_cell (S 0) 6 3 0 else -1000004) = _
    rw [cell_in (by decide) (by decide)]
  · show (if (1 : Int) < S 0 0 1 then v_X5_cell (S 0) 6 3 1 else -1000004) = _
    rw [cell_in (by decide) (by decide)]
  · show (if (2 : Int) < S 0 0 1 then v_X5_cell (S 0) 6 3 2 else -1000004) = _
    rw [cell_in (by decide) (by decide)]
set_option maxHeartbeats 4000000 in
theorem x_L_areWidths (S : hS) (hRS : ∀ (g i : Nat) (k : Int), i < 100 → hIn (S g i k)) (hp : p_L_areWidths S) (B7 : Int → Int → Int → hS → Prop) (B19 : Int → Int → Int → Int → Int → hS → Prop) (B59 : Int → Int → Int → Int → hS → Prop) (B74 : Int → Int → Int → Int → hS → Prop) (B107 : Int → Int → Int → hS → Prop) (B113 : Int → Int → hS → Prop) (Po : Int → hS → Prop) 
  (r7 : ∀ (y2 : Int) (y3 : Int) (y4 : Int) (S1 : hS), hIn y2 → hIn y3 → hIn y4 → ((∀ (g i : Nat) (k : Int), i < 100 → hIn (S1 g i k)) → ((y4 < 3 → (B19 y2 y3 y4 0 0 S1)) ∧ (¬ y4 < 3 → (B113 y2 y3 S1)))) → (B7 y2 y3 y4 S1)) 
  (r19 : ∀ (y2 : Int) (y3 : Int) (y4 : Int) (y5 : Int) (y6 : Int) (S1 : hS), hIn y2 → hIn y3 → hIn y4 → hIn y5 → hIn y6 → ((∀ (g i : Nat) (k : Int), i < 100 → hIn (S1 g i k)) → ((y6 < 3 → ((0 ≤ y6 ∧ y6 < 3) ∧ ((((S1 10) 7 y6) ≤ 0 → (B19 y2 y3 y4 (y5 + 0) (y6 + 1) S1)) ∧ (¬ ((S1 10) 7 y6) ≤ 0 → ((0 ≤ y4 ∧ y4 < 3) ∧ ((((S1 10) 7 y6) < ((S1 10) 7 y4) → (B19 y2 y3 y4 (y5 + 1) (y6 + 1) S1)) ∧ (¬ ((S1 10) 7 y6) < ((S1 10) 7 y4) → (B19 y2 y3 y4 (y5 + 0) (y6 + 1) S1)))))))) ∧ (¬ y6 < 3 → (B59 y2 y3 y4 y5 S1)))) → (B19 y2 y3 y4 y5 y6 S1)) 
  (r59 : ∀ (y2 : Int) (y3 : Int) (y4 : Int) (y5 : Int) (S1 : hS), hIn y2 → hIn y3 → hIn y4 → hIn y5 → ((∀ (g i : Nat) (k : Int), i < 100 → hIn (S1 g i k)) → ((0 ≤ y4 ∧ y4 < 3) ∧ ((((S1 10) 7 y4) ≤ 0 → (B74 (y2 + 0) y3 y4 y5 S1)) ∧ (¬ ((S1 10) 7 y4) ≤ 0 → (B74 (y2 + 1) y3 y4 y5 S1))))) → (B59 y2 y3 y4 y5 S1)) 
  (r74 : ∀ (y2 : Int) (y3 : Int) (y4 : Int) (y5 : Int) (S1 : hS), hIn y2 → hIn y3 → hIn y4 → hIn y5 → ((∀ (g i : Nat) (k : Int), i < 100 → hIn (S1 g i k)) → ((y3 = 0 → (B107 y2 0 y4 S1)) ∧ (¬ y3 = 0 → ((0 ≤ y4 ∧ y4 < 3) ∧ ((((S1 10) 7 y4) = 0 → (B107 y2 1 y4 S1)) ∧ (¬ ((S1 10) 7 y4) = 0 → (hIn (10 + y5) ∧ (p_X5_count S1 (10 + y5) ∧ (((v_X5_count S1 (10 + y5)) = (((m_X5_count S1 (10 + y5)) 10) 7 y4) → (B107 y2 1 y4 (m_X5_count S1 (10 + y5)))) ∧ (¬ (v_X5_count S1 (10 + y5)) = (((m_X5_count S1 (10 + y5)) 10) 7 y4) → (B107 y2 0 y4 (m_X5_count S1 (10 + y5))))))))))))) → (B74 y2 y3 y4 y5 S1)) 
  (r107 : ∀ (y2 : Int) (y3 : Int) (y4 : Int) (S1 : hS), hIn y2 → hIn y3 → hIn y4 → ((∀ (g i : Nat) (k : Int), i < 100 → hIn (S1 g i k)) → (B7 y2 y3 (y4 + 1) S1)) → (B107 y2 y3 y4 S1)) 
  (r113 : ∀ (y2 : Int) (y3 : Int) (S1 : hS), hIn y2 → hIn y3 → ((∀ (g i : Nat) (k : Int), i < 100 → hIn (S1 g i k)) → ((y3 = 0 → (Po 0 S1)) ∧ (¬ y3 = 0 → (p_X5_count S1 2 ∧ (((v_X5_count S1 2) = y2 → ((y2 = 3 → (p_X5_count (m_X5_count S1 2) 9 ∧ (((v_X5_count (m_X5_count S1 2) 9) = (-1000001) → (p_X5_count (m_X5_count (m_X5_count S1 2) 9) 13 ∧ (((v_X5_count (m_X5_count (m_X5_count S1 2) 9) 13) = (-1000001) → (Po 1 (m_X5_count (m_X5_count (m_X5_count S1 2) 9) 13))) ∧ (¬ (v_X5_count (m_X5_count (m_X5_count S1 2) 9) 13) = (-1000001) → (Po 0 (m_X5_count (m_X5_count (m_X5_count S1 2) 9) 13)))))) ∧ (¬ (v_X5_count (m_X5_count S1 2) 9) = (-1000001) → (Po 0 (m_X5_count (m_X5_count S1 2) 9)))))) ∧ (¬ y2 = 3 → (hIn (10 + y2) ∧ (p_X5_count (m_X5_count S1 2) (10 + y2) ∧ (((v_X5_count (m_X5_count S1 2) (10 + y2)) = (-1000004) → (p_X5_count (m_X5_count (m_X5_count S1 2) (10 + y2)) 9 ∧ (((v_X5_count (m_X5_count (m_X5_count S1 2) (10 + y2)) 9) = (-1000001) → (p_X5_count (m_X5_count (m_X5_count (m_X5_count S1 2) (10 + y2)) 9) 13 ∧ (((v_X5_count (m_X5_count (m_X5_count (m_X5_count S1 2) (10 + y2)) 9) 13) = (-1000001) → (Po 1 (m_X5_count (m_X5_count (m_X5_count (m_X5_count S1 2) (10 + y2)) 9) 13))) ∧ (¬ (v_X5_count (m_X5_count (m_X5_count (m_X5_count S1 2) (10 + y2)) 9) 13) = (-1000001) → (Po 0 (m_X5_count (m_X5_count (m_X5_count (m_X5_count S1 2) (10 + y2)) 9) 13)))))) ∧ (¬ (v_X5_count (m_X5_count (m_X5_count S1 2) (10 + y2)) 9) = (-1000001) → (Po 0 (m_X5_count (m_X5_count (m_X5_count S1 2) (10 + y2)) 9)))))) ∧ (¬ (v_X5_count (m_X5_count S1 2) (10 + y2)) = (-1000004) → (Po 0 (m_X5_count (m_X5_count S1 2) (10 + y2)))))))))) ∧ (¬ (v_X5_count S1 2) = y2 → (Po 0 (m_X5_count S1 2)))))))) → (B113 y2 y3 S1)) 
  (hpost : ∀ S2 : hS, q_L_areWidths S S2 → Po 1 S2) : (B7 0 1 0 S) := by
  have hI : Inv27 S := hp
  have hpost : ∀ S2 : hS, Sam S S2 → Po 1 S2 := hpost
  have hR := hI.1.1
  have st := hR.2.2.1
  have sd := StR_sd st
  have cb : ∀ k : Nat, 0 ≤ sumN (fun j => if 0 < S 10 7 j then 1 else 0) k ∧ sumN (fun j => if 0 < S 10 7 j then 1 else 0) k ≤ k := fun k => cnt_bd (fun j => 0 < S 10 7 j) k
  have c3 : sumN (fun j => if 0 < S 10 7 j then 1 else 0) 3 = S 0 0 1 := by
    have e : sumN (fun j => if 0 < S 10 7 j then 1 else 0) 3 = 0 + (if 0 < S 10 7 0 then 1 else 0) + (if 0 < S 10 7 1 then 1 else 0) + (if 0 < S 10 7 2 then 1 else 0) := rfl
    rw [e, ← st.2.2.2.2.1]
    omega
  refine upN (C := fun k => B7 (sumN (fun j => if 0 < S 10 7 j then 1 else 0) k) 1 (k : Int) S) 3 ?_ ?_
  · have b := cb 3
    have ib : hIn (sumN (fun j => if 0 < S 10 7 j then 1 else 0) 3) := ⟨by omega, by omega⟩
    refine r7 _ _ _ _ ib ⟨by decide, by decide⟩ ⟨by decide, by decide⟩ (fun _ => ⟨fun z => absurd z (by decide), fun _ => ?_⟩)
    refine r113 _ _ _ ib ⟨by decide, by decide⟩ (fun _ => ⟨fun z => absurd z (by decide), fun _ => ?_⟩)
    rw [ct_same (w := 2) (by decide), ct_same (w := 10 + sumN (fun j => if 0 < S 10 7 j then 1 else 0) 3) (by omega), ct_same (w := 9) (by decide), ct_same (w := 13) (by decide)]
    have e2 : v_X5_count S 2 = sumN (fun j => if 0 < S 10 7 j then 1 else 0) 3 := c3.symm
    have e9 : v_X5_count S 9 = -1000001 := rfl
    have e13 : v_X5_count S 13 = -1000001 := rfl
    have tail : p_X5_count S 9 ∧ ((v_X5_count S 9 = -1000001 → p_X5_count S 13 ∧ ((v_X5_count S 13 = -1000001 → Po 1 S) ∧ (¬ v_X5_count S 13 = -1000001 → Po 0 S))) ∧ (¬ v_X5_count S 9 = -1000001 → Po 0 S)) := ⟨ct_p hI.1 9, fun _ => ⟨ct_p hI.1 13, fun _ => hpost _ (sam_rf S), fun z => absurd e13 z⟩, fun z => absurd e9 z⟩
    refine ⟨ct_p hI.1 2, fun _ => ⟨fun _ => tail, fun y => ⟨⟨by omega, by omega⟩, ct_p hI.1 _, fun _ => tail, fun z => absurd ?_ z⟩⟩, fun z => absurd e2 z⟩
    rw [ct_w b.1 (by omega), if_neg (by omega)]
  intro k hk h
  have b := cb k
  have b' := cb (k + 1)
  have ik : hIn (k : Int) := ⟨by omega, by omega⟩
  have i1 : hIn 1 := ⟨by decide, by decide⟩
  have ib : hIn (sumN (fun j => if 0 < S 10 7 j then 1 else 0) k) := ⟨by omega, by omega⟩
  have ib' : hIn (sumN (fun j => if 0 < S 10 7 j then 1 else 0) (k + 1)) := ⟨by omega, by omega⟩
  have k3 : 0 ≤ (k : Int) ∧ (k : Int) < 3 := ⟨by omega, by omega⟩
  have dk : 0 ≤ S 10 7 k := by
    rcases (show k = 0 ∨ k = 1 ∨ k = 2 by omega) with rfl | rfl | rfl
    · exact st.1.1
    · exact st.2.1.1
    · exact st.2.2.1.1
  have ab : ∀ i : Nat, 0 ≤ sumN (fun j => if 0 < S 10 7 j ∧ S 10 7 j < S 10 7 k then 1 else 0) i ∧ sumN (fun j => if 0 < S 10 7 j ∧ S 10 7 j < S 10 7 k then 1 else 0) i ≤ i := fun i => cnt_bd (fun j => 0 < S 10 7 j ∧ S 10 7 j < S 10 7 k) i
  have h107 : B107 (sumN (fun j => if 0 < S 10 7 j then 1 else 0) (k + 1)) 1 k S := r107 _ _ _ _ ib' i1 ik (fun _ => h)
  have h74 : B74 (sumN (fun j => if 0 < S 10 7 j then 1 else 0) (k + 1)) 1 k (sumN (fun j => if 0 < S 10 7 j ∧ S 10 7 j < S 10 7 k then 1 else 0) 3) S := by
    have a3 := ab 3
    refine r74 _ _ _ _ _ ib' i1 ik ⟨by omega, by omega⟩ (fun _ => ⟨fun z => absurd z (by decide), fun _ => ⟨k3, fun _ => h107, fun y => ⟨⟨by omega, by omega⟩, ct_p hI.1 _, ?_⟩⟩⟩)
    rw [ct_same (w := 10 + sumN (fun j => if 0 < S 10 7 j ∧ S 10 7 j < S 10 7 k then 1 else 0) 3) (by omega)]
    refine ⟨fun _ => h107, fun z => absurd ?_ z⟩
    have hd : S 10 7 k = S 10 7 0 ∨ S 10 7 k = S 10 7 1 ∨ S 10 7 k = S 10 7 2 := by
      rcases (show k = 0 ∨ k = 1 ∨ k = 2 by omega) with rfl | rfl | rfl
      · exact Or.inl rfl
      · exact Or.inr (Or.inl rfl)
      · exact Or.inr (Or.inr rfl)
    have e : sumN (fun j => if 0 < S 10 7 j ∧ S 10 7 j < S 10 7 k then 1 else 0) 3 = 0 + (if 0 < S 10 7 0 ∧ S 10 7 0 < S 10 7 k then 1 else 0) + (if 0 < S 10 7 1 ∧ S 10 7 1 < S 10 7 k then 1 else 0) + (if 0 < S 10 7 2 ∧ S 10 7 2 < S 10 7 k then 1 else 0) := rfl
    rw [Int.zero_add] at e
    rcases StR_rank st (d := S 10 7 k) (by omega) hd e.symm with ⟨q, n0, s⟩ | ⟨q, n0, s⟩ | ⟨q, n0, s⟩
    · rw [q, ct_w (by decide) (by decide), if_pos n0]; exact s
    · rw [q, ct_w (by decide) (by decide), if_pos n0]; exact s
    · rw [q, ct_w (by decide) (by decide), if_pos n0]; exact s
  refine r7 _ _ _ _ ib i1 ik (fun _ => ⟨fun _ => ?_, fun z => absurd k3.2 z⟩)
  refine upN (C := fun i => B19 (sumN (fun j => if 0 < S 10 7 j then 1 else 0) k) 1 k (sumN (fun j => if 0 < S 10 7 j ∧ S 10 7 j < S 10 7 k then 1 else 0) i) (i : Int) S) 3 ?_ ?_
  · have a3 := ab 3
    have ia : hIn (sumN (fun j => if 0 < S 10 7 j ∧ S 10 7 j < S 10 7 k then 1 else 0) 3) := ⟨by omega, by omega⟩
    refine r19 _ _ _ _ _ _ ib i1 ik ia ⟨by decide, by decide⟩ (fun _ => ⟨fun z => absurd z (by decide), fun _ => ?_⟩)
    refine r59 _ _ _ _ _ ib i1 ik ia (fun _ => ⟨k3, fun y => ?_, fun y => ?_⟩)
    · rw [Int.add_zero, ← cnt_n (p := fun j => 0 < S 10 7 j) (k := k) (by omega)]; exact h74
    · rw [← cnt_y (p := fun j => 0 < S 10 7 j) (k := k) (by omega)]; exact h74
  intro i hi hh
  have a3 := ab i
  have ia : hIn (sumN (fun j => if 0 < S 10 7 j ∧ S 10 7 j < S 10 7 k then 1 else 0) i) := ⟨by omega, by omega⟩
  refine r19 _ _ _ _ _ _ ib i1 ik ia ⟨by omega, by omega⟩ (fun _ => ⟨fun _ => ⟨⟨by omega, by omega⟩, fun y => ?_, fun y => ⟨k3, fun x => ?_, fun x => ?_⟩⟩, fun z => absurd (show (i : Int) < 3 by omega) z⟩)
  · rw [Int.add_zero, ← cnt_n (p := fun j => 0 < S 10 7 j ∧ S 10 7 j < S 10 7 k) (k := i) (fun w => by have := w.1; omega)]; exact hh
  · rw [← cnt_y (p := fun j => 0 < S 10 7 j ∧ S 10 7 j < S 10 7 k) (k := i) ⟨by omega, x⟩]; exact hh
  · rw [Int.add_zero, ← cnt_n (p := fun j => 0 < S 10 7 j ∧ S 10 7 j < S 10 7 k) (k := i) (fun w => x w.2)]; exact hh
def p_L_isSo (S : hS) (vv : Int) : Prop := Inv27 S ∧ 0 ≤ vv
def q_L_isSo (S : hS) (vv : Int) (S1 : hS) : Prop := Sam S S1
set_option maxHeartbeats 4000000 in
theorem x_L_isSo (S : hS) (vv : Int) (h_vv : hIn vv) (hRS : ∀ (g i : Nat) (k : Int), i < 100 → hIn (S g i k)) (hp : p_L_isSo S vv) (Po : Int → hS → Prop) 
  (hpost : ∀ S2 : hS, q_L_isSo S vv S2 → Po 1 S2) : (p_L_areStems S ∧ (∀ (Z2 : hS), (∀ (g i : Nat) (k : Int), i < 100 → hIn (Z2 g i k)) → q_L_areStems S Z2 → (p_L_areSheets Z2 vv ∧ (∀ (Z6 : hS), (∀ (g i : Nat) (k : Int), i < 100 → hIn (Z6 g i k)) → q_L_areSheets Z2 vv Z6 → (p_L_areWidths Z6 ∧ (∀ (Z10 : hS), (∀ (g i : Nat) (k : Int), i < 100 → hIn (Z10 g i k)) → q_L_areWidths Z6 Z10 → (p_X5_count Z10 0 ∧ (((v_X5_count Z10 0) = (((m_X5_count Z10 0) 10) 1 0) → (p_X5_count (m_X5_count Z10 0) 8 ∧ (((v_X5_count (m_X5_count Z10 0) 8) = 0 → (p_X5_count (m_X5_count (m_X5_count Z10 0) 8) 20 ∧ (((v_X5_count (m_X5_count (m_X5_count Z10 0) 8) 20) = (((m_X5_count (m_X5_count (m_X5_count Z10 0) 8) 20) 10) 1 1) → (p_X5_count (m_X5_count (m_X5_count (m_X5_count Z10 0) 8) 20) 21 ∧ (((v_X5_count (m_X5_count (m_X5_count (m_X5_count Z10 0) 8) 20) 21) = (((m_X5_count (m_X5_count (m_X5_count (m_X5_count Z10 0) 8) 20) 21) 10) 1 2) → (Po 1 (m_X5_count (m_X5_count (m_X5_count (m_X5_count Z10 0) 8) 20) 21))) ∧ (¬ (v_X5_count (m_X5_count (m_X5_count (m_X5_count Z10 0) 8) 20) 21) = (((m_X5_count (m_X5_count (m_X5_count (m_X5_count Z10 0) 8) 20) 21) 10) 1 2) → (Po 0 (m_X5_count (m_X5_count (m_X5_count (m_X5_count Z10 0) 8) 20) 21)))))) ∧ (¬ (v_X5_count (m_X5_count (m_X5_count Z10 0) 8) 20) = (((m_X5_count (m_X5_count (m_X5_count Z10 0) 8) 20) 10) 1 1) → (Po 0 (m_X5_count (m_X5_count (m_X5_count Z10 0) 8) 20)))))) ∧ (¬ (v_X5_count (m_X5_count Z10 0) 8) = 0 → (Po 0 (m_X5_count (m_X5_count Z10 0) 8)))))) ∧ (¬ (v_X5_count Z10 0) = (((m_X5_count Z10 0) 10) 1 0) → (Po 0 (m_X5_count Z10 0))))))))))) := by
  have hI : Inv27 S := hp.1
  have hpost : ∀ S2 : hS, Sam S S2 → Po 1 S2 := hpost
  refine ⟨hI, fun Z2 _ q2 => ⟨⟨sam_inv hI q2, hp.2⟩, fun Z6 _ q6 => ?_⟩⟩
  have s6 : Sam S Z6 := sam_tr q2 q6
  refine ⟨sam_inv hI s6, fun Z10 _ q10 => ?_⟩
  have s10 : Sam S Z10 := sam_tr s6 q10
  have i10 := sam_inv hI s10
  have hR := i10.1.1
  rw [ct_same (w := 0) (by decide), ct_same (w := 8) (by decide), ct_same (w := 20) (by decide), ct_same (w := 21) (by decide)]
  have e0 : v_X5_count Z10 0 = Z10 10 1 0 := (rl_g hR).1.symm
  have e8 : v_X5_count Z10 8 = 0 := i10.2.2.1
  have e20 : v_X5_count Z10 20 = Z10 10 1 1 := (rl_set hR).1.1.symm
  have e21 : v_X5_count Z10 21 = Z10 10 1 2 := (rl_set hR).2.1.symm
  exact ⟨ct_p i10.1 0, fun _ => ⟨ct_p i10.1 8, fun _ => ⟨ct_p i10.1 20, fun _ => ⟨ct_p i10.1 21, fun _ => hpost _ s10, fun z => absurd e21 z⟩, fun z => absurd e20 z⟩, fun z => absurd e8 z⟩, fun z => absurd e0 z⟩

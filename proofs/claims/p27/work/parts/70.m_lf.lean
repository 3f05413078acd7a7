def p_L_areStems (S : hS) : Prop := Inv27 S
def q_L_areStems (S : hS) (S1 : hS) : Prop := Sam S S1
theorem ahead_c {A : hGM} {k : Int} (k0 : 0 ≤ k) (k1 : k < 48) : sumN (fun j => if (0 < A 4 j ∧ v_X1_hintedWidth A (A 4 j) = v_X1_hintedWidth A (A 4 k)) ∧ j < k then 1 else 0) 48 = 0 ↔ v_X1_isAlikeAhead A k = 0 := by
  have cs := cnt_some (p := fun j => (0 < A 4 j ∧ v_X1_hintedWidth A (A 4 j) = v_X1_hintedWidth A (A 4 k)) ∧ j < k) 48
  have cb := cnt_bd (fun j => (0 < A 4 j ∧ v_X1_hintedWidth A (A 4 j) = v_X1_hintedWidth A (A 4 k)) ∧ j < k) 48
  unfold v_X1_isAlikeAhead
  rcases firstN_spec (fun j => decide (0 < A 4 j ∧ v_X1_hintedWidth A (A 4 j) = v_X1_hintedWidth A (A 4 k))) k.toNat with ⟨a, f⟩ | ⟨a, d, f, _⟩
  · rw [if_pos a]
    refine ⟨fun _ => rfl, fun _ => ?_⟩
    have no : ¬ 0 < sumN (fun j => if (0 < A 4 j ∧ v_X1_hintedWidth A (A 4 j) = v_X1_hintedWidth A (A 4 k)) ∧ j < k then 1 else 0) 48 := fun z => by
      obtain ⟨j, j0, j1, j2, j3⟩ := cs.mp z
      exact (of_decide_eq_false (f j j0 (by omega))) j2
    omega
  · rw [if_neg (by omega)]
    have yes : 0 < sumN (fun j => if (0 < A 4 j ∧ v_X1_hintedWidth A (A 4 j) = v_X1_hintedWidth A (A 4 k)) ∧ j < k then 1 else 0) 48 := cs.mpr ⟨_, a, by omega, of_decide_eq_true f, by omega⟩
    exact ⟨fun z => by omega, fun z => absurd z (by decide)⟩
set_option maxHeartbeats 4000000 in
theorem x_L_areStems (S : hS) (hRS : ∀ (g i : Nat) (k : Int), i < 100 → hIn (S g i k)) (hp : p_L_areStems S) (B33 : Int → hS → Prop) (B42 : Int → Int → Int → Int → hS → Prop) (B110 : Int → Int → Int → hS → Prop) (B119 : Int → Int → Int → Int → Int → Int → hS → Prop) (B182 : Int → Int → Int → Int → Int → Int → Int → hS → Prop) (B197 : Int → Int → Int → Int → Int → Int → Int → hS → Prop) (B225 : Int → Int → Int → Int → Int → hS → Prop) (B256 : Int → Int → Int → Int → Int → hS → Prop) (B481 : Int → Int → Int → Int → hS → Prop) (Po : Int → hS → Prop) 
  (r33 : ∀ (y7 : Int) (S1 : hS), hIn y7 → ((∀ (g i : Nat) (k : Int), i < 100 → hIn (S1 g i k)) → (B42 y7 0 0 0 S1)) → (B33 y7 S1)) 
  (r42 : ∀ (y7 : Int) (y8 : Int) (y9 : Int) (y10 : Int) (S1 : hS), hIn y7 → hIn y8 → hIn y9 → hIn y10 → ((∀ (g i : Nat) (k : Int), i < 100 → hIn (S1 g i k)) → ((y10 < 48 → ((y7 = 0 → (Po 0 S1)) ∧ (¬ y7 = 0 → (0 ≤ y10 ∧ (hIn (y10 / 6) ∧ (((y10 / 6) < ((S1 10) 1 0) → ((0 ≤ (y10 / 6) ∧ (y10 / 6) < 8) ∧ (hIn (y10 % 6) ∧ (((y10 % 6) < ((S1 10) 3 (y10 / 6)) → (B110 y8 y9 y10 S1)) ∧ (¬ (y10 % 6) < ((S1 10) 3 (y10 / 6)) → (p_X5_stemOf S1 (y10 / 6) (y10 % 6) 0 ∧ (((v_X5_stemOf S1 (y10 / 6) (y10 % 6) 0) = (-1000001) → (B481 1 y8 y9 y10 S1)) ∧ (¬ (v_X5_stemOf S1 (y10 / 6) (y10 % 6) 0) = (-1000001) → (B481 0 y8 y9 y10 S1))))))))) ∧ (¬ (y10 / 6) < ((S1 10) 1 0) → (hIn (y10 % 6) ∧ (p_X5_stemOf S1 (y10 / 6) (y10 % 6) 0 ∧ (((v_X5_stemOf S1 (y10 / 6) (y10 % 6) 0) = (-1000001) → (B481 1 y8 y9 y10 S1)) ∧ (¬ (v_X5_stemOf S1 (y10 / 6) (y10 % 6) 0) = (-1000001) → (B481 0 y8 y9 y10 S1)))))))))))) ∧ (¬ y10 < 48 → ((y7 = 0 → (Po 0 S1)) ∧ (¬ y7 = 0 → (p_X5_count S1 1 ∧ (((v_X5_count S1 1) = y8 → (p_X5_count (m_X5_count S1 1) 5 ∧ (((v_X5_count (m_X5_count S1 1) 5) = y9 → (Po 1 (m_X5_count (m_X5_count S1 1) 5))) ∧ (¬ (v_X5_count (m_X5_count S1 1) 5) = y9 → (Po 0 (m_X5_count (m_X5_count S1 1) 5)))))) ∧ (¬ (v_X5_count S1 1) = y8 → (Po 0 (m_X5_count S1 1)))))))))) → (B42 y7 y8 y9 y10 S1)) 
  (r110 : ∀ (y8 : Int) (y9 : Int) (y10 : Int) (S1 : hS), hIn y8 → hIn y9 → hIn y10 → ((∀ (g i : Nat) (k : Int), i < 100 → hIn (S1 g i k)) → (B119 y8 y9 y10 0 0 0 S1)) → (B110 y8 y9 y10 S1)) 
  (r119 : ∀ (y8 : Int) (y9 : Int) (y10 : Int) (y11 : Int) (y12 : Int) (y13 : Int) (S1 : hS), hIn y8 → hIn y9 → hIn y10 → hIn y11 → hIn y12 → hIn y13 → ((∀ (g i : Nat) (k : Int), i < 100 → hIn (S1 g i k)) → ((y13 < 48 → (0 ≤ y13 ∧ (hIn (y13 / 6) ∧ (((y13 / 6) < ((S1 10) 1 0) → ((0 ≤ (y13 / 6) ∧ (y13 / 6) < 8) ∧ (hIn (y13 % 6) ∧ (((y13 % 6) < ((S1 10) 3 (y13 / 6)) → (p_L_hinted (S1 0) (S1 10) y13 ∧ (p_L_hinted (S1 0) (S1 10) y10 ∧ (((v_L_hinted (S1 0) (S1 10) y13) = (v_L_hinted (S1 0) (S1 10) y10) → (B182 y8 y9 y10 y11 y12 y13 1 S1)) ∧ (¬ (v_L_hinted (S1 0) (S1 10) y13) = (v_L_hinted (S1 0) (S1 10) y10) → (B182 y8 y9 y10 y11 y12 y13 0 S1)))))) ∧ (¬ (y13 % 6) < ((S1 10) 3 (y13 / 6)) → (B182 y8 y9 y10 y11 y12 y13 0 S1)))))) ∧ (¬ (y13 / 6) < ((S1 10) 1 0) → (B182 y8 y9 y10 y11 y12 y13 0 S1)))))) ∧ (¬ y13 < 48 → (B225 y8 y9 y10 y11 y12 S1)))) → (B119 y8 y9 y10 y11 y12 y13 S1)) 
  (r182 : ∀ (y8 : Int) (y9 : Int) (y10 : Int) (y11 : Int) (y12 : Int) (y13 : Int) (y14 : Int) (S1 : hS), hIn y8 → hIn y9 → hIn y10 → hIn y11 → hIn y12 → hIn y13 → hIn y14 → ((∀ (g i : Nat) (k : Int), i < 100 → hIn (S1 g i k)) → ((y14 = 0 → (B197 y8 y9 y10 (y11 + 0) y12 y13 y14 S1)) ∧ (¬ y14 = 0 → (B197 y8 y9 y10 (y11 + 1) y12 y13 y14 S1)))) → (B182 y8 y9 y10 y11 y12 y13 y14 S1)) 
  (r197 : ∀ (y8 : Int) (y9 : Int) (y10 : Int) (y11 : Int) (y12 : Int) (y13 : Int) (y14 : Int) (S1 : hS), hIn y8 → hIn y9 → hIn y10 → hIn y11 → hIn y12 → hIn y13 → hIn y14 → ((∀ (g i : Nat) (k : Int), i < 100 → hIn (S1 g i k)) → ((y14 = 0 → (B119 y8 y9 y10 y11 (y12 + 0) (y13 + 1) S1)) ∧ (¬ y14 = 0 → ((y13 < y10 → (B119 y8 y9 y10 y11 (y12 + 1) (y13 + 1) S1)) ∧ (¬ y13 < y10 → (B119 y8 y9 y10 y11 (y12 + 0) (y13 + 1) S1)))))) → (B197 y8 y9 y10 y11 y12 y13 y14 S1)) 
  (r225 : ∀ (y8 : Int) (y9 : Int) (y10 : Int) (y11 : Int) (y12 : Int) (S1 : hS), hIn y8 → hIn y9 → hIn y10 → hIn y11 → hIn y12 → ((∀ (g i : Nat) (k : Int), i < 100 → hIn (S1 g i k)) → ((y12 = 0 → ((0 ≤ y10 ∧ y10 < 49) ∧ (p_L_snap (S1 0) (S1 10) ((S1 10) 5 y10) ∧ (B256 (y8 + 1) (y9 + 1) y10 y11 (v_L_snap (S1 0) (S1 10) ((S1 10) 5 y10)) S1)))) ∧ (¬ y12 = 0 → ((0 ≤ y10 ∧ y10 < 49) ∧ (p_L_snap (S1 0) (S1 10) ((S1 10) 5 y10) ∧ (B256 (y8 + 1) (y9 + 0) y10 y11 (v_L_snap (S1 0) (S1 10) ((S1 10) 5 y10)) S1)))))) → (B225 y8 y9 y10 y11 y12 S1)) 
  (r256 : ∀ (y8 : Int) (y9 : Int) (y10 : Int) (y11 : Int) (y13 : Int) (S1 : hS), hIn y8 → hIn y9 → hIn y10 → hIn y11 → hIn y13 → ((∀ (g i : Nat) (k : Int), i < 100 → hIn (S1 g i k)) → (0 ≤ y10 ∧ (hIn (y10 / 6) ∧ (hIn (y10 % 6) ∧ (p_X5_stemOf S1 (y10 / 6) (y10 % 6) 0 ∧ ((0 ≤ y10 ∧ y10 < 49) ∧ (((v_X5_stemOf S1 (y10 / 6) (y10 % 6) 0) = ((S1 10) 4 y10) → (p_X5_stemOf S1 (y10 / 6) (y10 % 6) 1 ∧ (((v_X5_stemOf S1 (y10 / 6) (y10 % 6) 1) = ((S1 10) 5 y10) → (p_X5_stemOf S1 (y10 / 6) (y10 % 6) 2 ∧ (((v_X5_stemOf S1 (y10 / 6) (y10 % 6) 2) = ((S1 10) 6 y10) → (p_X5_stemOf S1 (y10 / 6) (y10 % 6) 3 ∧ (p_L_hinted (S1 0) (S1 10) y10 ∧ (((v_X5_stemOf S1 (y10 / 6) (y10 % 6) 3) = (v_L_hinted (S1 0) (S1 10) y10) → (p_X5_stemOf S1 (y10 / 6) (y10 % 6) 4 ∧ ((y13 = 0 → (((v_X5_stemOf S1 (y10 / 6) (y10 % 6) 4) = (-1000004) → (p_X5_stemOf S1 (y10 / 6) (y10 % 6) 5 ∧ (((v_X5_stemOf S1 (y10 / 6) (y10 % 6) 5) = y11 → (p_X5_stemOf S1 (y10 / 6) (y10 % 6) 6 ∧ (((y10 % 6) = 0 → (((v_X5_stemOf S1 (y10 / 6) (y10 % 6) 6) = (-1000004) → (p_X5_stemOf S1 (y10 / 6) (y10 % 6) 7 ∧ (((v_X5_stemOf S1 (y10 / 6) (y10 % 6) 7) = (-1000001) → (B481 1 y8 y9 y10 S1)) ∧ (¬ (v_X5_stemOf S1 (y10 / 6) (y10 % 6) 7) = (-1000001) → (B481 0 y8 y9 y10 S1))))) ∧ (¬ (v_X5_stemOf S1 (y10 / 6) (y10 % 6) 6) = (-1000004) → (B481 0 y8 y9 y10 S1)))) ∧ (¬ (y10 % 6) = 0 → ((0 ≤ (y10 - 1) ∧ (y10 - 1) < 49) ∧ (hIn ((((S1 10) 4 y10) - ((S1 10) 4 (y10 - 1))) - ((S1 10) 5 (y10 - 1))) ∧ (((v_X5_stemOf S1 (y10 / 6) (y10 % 6) 6) = ((((S1 10) 4 y10) - ((S1 10) 4 (y10 - 1))) - ((S1 10) 5 (y10 - 1))) → (p_X5_stemOf S1 (y10 / 6) (y10 % 6) 7 ∧ (((v_X5_stemOf S1 (y10 / 6) (y10 % 6) 7) = (-1000001) → (B481 1 y8 y9 y10 S1)) ∧ (¬ (v_X5_stemOf S1 (y10 / 6) (y10 % 6) 7) = (-1000001) → (B481 0 y8 y9 y10 S1))))) ∧ (¬ (v_X5_stemOf S1 (y10 / 6) (y10 % 6) 6) = ((((S1 10) 4 y10) - ((S1 10) 4 (y10 - 1))) - ((S1 10) 5 (y10 - 1))) → (B481 0 y8 y9 y10 S1))))))))) ∧ (¬ (v_X5_stemOf S1 (y10 / 6) (y10 % 6) 5) = y11 → (B481 0 y8 y9 y10 S1))))) ∧ (¬ (v_X5_stemOf S1 (y10 / 6) (y10 % 6) 4) = (-1000004) → (B481 0 y8 y9 y10 S1)))) ∧ (¬ y13 = 0 → (((v_X5_stemOf S1 (y10 / 6) (y10 % 6) 4) = y13 → (p_X5_stemOf S1 (y10 / 6) (y10 % 6) 5 ∧ (((v_X5_stemOf S1 (y10 / 6) (y10 % 6) 5) = y11 → (p_X5_stemOf S1 (y10 / 6) (y10 % 6) 6 ∧ (((y10 % 6) = 0 → (((v_X5_stemOf S1 (y10 / 6) (y10 % 6) 6) = (-1000004) → (p_X5_stemOf S1 (y10 / 6) (y10 % 6) 7 ∧ (((v_X5_stemOf S1 (y10 / 6) (y10 % 6) 7) = (-1000001) → (B481 1 y8 y9 y10 S1)) ∧ (¬ (v_X5_stemOf S1 (y10 / 6) (y10 % 6) 7) = (-1000001) → (B481 0 y8 y9 y10 S1))))) ∧ (¬ (v_X5_stemOf S1 (y10 / 6) (y10 % 6) 6) = (-1000004) → (B481 0 y8 y9 y10 S1)))) ∧ (¬ (y10 % 6) = 0 → ((0 ≤ (y10 - 1) ∧ (y10 - 1) < 49) ∧ (hIn ((((S1 10) 4 y10) - ((S1 10) 4 (y10 - 1))) - ((S1 10) 5 (y10 - 1))) ∧ (((v_X5_stemOf S1 (y10 / 6) (y10 % 6) 6) = ((((S1 10) 4 y10) - ((S1 10) 4 (y10 - 1))) - ((S1 10) 5 (y10 - 1))) → (p_X5_stemOf S1 (y10 / 6) (y10 % 6) 7 ∧ (((v_X5_stemOf S1 (y10 / 6) (y10 % 6) 7) = (-1000001) → (B481 1 y8 y9 y10 S1)) ∧ (¬ (v_X5_stemOf S1 (y10 / 6) (y10 % 6) 7) = (-1000001) → (B481 0 y8 y9 y10 S1))))) ∧ (¬ (v_X5_stemOf S1 (y10 / 6) (y10 % 6) 6) = ((((S1 10) 4 y10) - ((S1 10) 4 (y10 - 1))) - ((S1 10) 5 (y10 - 1))) → (B481 0 y8 y9 y10 S1))))))))) ∧ (¬ (v_X5_stemOf S1 (y10 / 6) (y10 % 6) 5) = y11 → (B481 0 y8 y9 y10 S1))))) ∧ (¬ (v_X5_stemOf S1 (y10 / 6) (y10 % 6) 4) = y13 → (B481 0 y8 y9 y10 S1))))))) ∧ (¬ (v_X5_stemOf S1 (y10 / 6) (y10 % 6) 3) = (v_L_hinted (S1 0) (S1 10) y10) → (B481 0 y8 y9 y10 S1)))))) ∧ (¬ (v_X5_stemOf S1 (y10 / 6) (y10 % 6) 2) = ((S1 10) 6 y10) → (B481 0 y8 y9 y10 S1))))) ∧ (¬ (v_X5_stemOf S1 (y10 / 6) (y10 % 6) 1) = ((S1 10) 5 y10) → (B481 0 y8 y9 y10 S1))))) ∧ (¬ (v_X5_stemOf S1 (y10 / 6) (y10 % 6) 0) = ((S1 10) 4 y10) → (B481 0 y8 y9 y10 S1))))))))) → (B256 y8 y9 y10 y11 y13 S1)) 
  (r481 : ∀ (y7 : Int) (y8 : Int) (y9 : Int) (y10 : Int) (S1 : hS), hIn y7 → hIn y8 → hIn y9 → hIn y10 → ((∀ (g i : Nat) (k : Int), i < 100 → hIn (S1 g i k)) → (B42 y7 y8 y9 (y10 + 1) S1)) → (B481 y7 y8 y9 y10 S1)) 
  (hpost : ∀ S2 : hS, q_L_areStems S S2 → Po 1 S2) : (p_X5_stemOf S ((S 10) 1 0) 0 0 ∧ (((v_X5_stemOf S ((S 10) 1 0) 0 0) = (-1000001) → (p_X5_stemOf S (-1) 0 0 ∧ (((v_X5_stemOf S (-1) 0 0) = (-1000001) → (B33 1 S)) ∧ (¬ (v_X5_stemOf S (-1) 0 0) = (-1000001) → (B33 0 S))))) ∧ (¬ (v_X5_stemOf S ((S 10) 1 0) 0 0) = (-1000001) → (B33 0 S)))) := by
  have hI : Inv27 S := hp
  have hpost : ∀ S2 : hS, Sam S S2 → Po 1 S2 := hpost
  have hR := hI.1.1
  have f := hR.1
  have ng := rl_g hR
  have hc := (rl_set hR).1
  obtain ⟨a1, a2⟩ := so_no (S := S) f (g := S 10 1 0) (k := 0) (w := 0) (fun z => by omega)
  obtain ⟨b1, b2⟩ := so_no (S := S) f (g := -1) (k := 0) (w := 0) (fun z => by omega)
  have vb : ∀ k : Nat, k ≤ 48 → (0 ≤ sumN (fun j => if 0 < S 0 4 j then 1 else 0) k ∧ sumN (fun j => if 0 < S 0 4 j then 1 else 0) k ≤ k) := fun k _ => cnt_bd (fun j => 0 < S 0 4 j) k
  have ub : ∀ k : Nat, k ≤ 48 → (0 ≤ sumN (fun j => if 0 < S 0 4 j ∧ v_X1_isAlikeAhead (S 0) j = 0 then 1 else 0) k ∧ sumN (fun j => if 0 < S 0 4 j ∧ v_X1_isAlikeAhead (S 0) j = 0 then 1 else 0) k ≤ k) := fun k _ => cnt_bd (fun j => 0 < S 0 4 j ∧ v_X1_isAlikeAhead (S 0) j = 0) k
  have h33 : B33 1 S := by
    refine r33 _ _ ⟨by decide, by decide⟩ (fun _ => ?_)
    refine upN (C := fun k => B42 1 (sumN (fun j => if 0 < S 0 4 j then 1 else 0) k) (sumN (fun j => if 0 < S 0 4 j ∧ v_X1_isAlikeAhead (S 0) j = 0 then 1 else 0) k) (k : Int) S) 48 ?_ ?_
    · have v := vb 48 (by decide)
      have u := ub 48 (by decide)
      refine r42 _ _ _ _ _ ⟨by decide, by decide⟩ ⟨by omega, by omega⟩ ⟨by omega, by omega⟩ ⟨by omega, by omega⟩ (fun _ => ⟨fun q => by omega, fun _ => ⟨fun q => absurd q (by decide), fun _ => ?_⟩⟩)
      rw [ct_same (w := 1) (by decide), ct_same (w := 5) (by decide)]
      have e1 : v_X5_count S 1 = sumN (fun j => if 0 < S 0 4 j then 1 else 0) 48 := all_stems hR
      have e5 : v_X5_count S 5 = sumN (fun j => if 0 < S 0 4 j ∧ v_X1_isAlikeAhead (S 0) j = 0 then 1 else 0) 48 := rfl
      exact ⟨ct_p hI.1 1, fun _ => ⟨ct_p hI.1 5, fun _ => hpost _ (sam_rf S), fun z => absurd e5 z⟩, fun z => absurd e1 z⟩
    · intro k hk h
      have v := vb k (by omega)
      have u := ub k (by omega)
      have vl := rl_val hR (i := (k : Int)) (by omega) (by omega)
      have ek : (k : Int) / 6 * 6 + (k : Int) % 6 = k := by omega
      -- no stem
      have hno : ¬ 0 < S 0 4 k → B481 1 (sumN (fun j => if 0 < S 0 4 j then 1 else 0) k) (sumN (fun j => if 0 < S 0 4 j ∧ v_X1_isAlikeAhead (S 0) j = 0 then 1 else 0) k) (k : Int) S := by
        intro c
        refine r481 _ _ _ _ _ ⟨by decide, by decide⟩ ⟨by omega, by omega⟩ ⟨by omega, by omega⟩ ⟨by omega, by omega⟩ (fun _ => ?_)
        have e1 := cnt_n (p := fun j => 0 < S 0 4 j) (k := k) c
        have e2 := cnt_n (p := fun j => 0 < S 0 4 j ∧ v_X1_isAlikeAhead (S 0) j = 0) (k := k) (fun z => c z.1)
        rw [← e1, ← e2]
        exact h
      -- a stem
      have hyes : 0 < S 0 4 k → B110 (sumN (fun j => if 0 < S 0 4 j then 1 else 0) k) (sumN (fun j => if 0 < S 0 4 j ∧ v_X1_isAlikeAhead (S 0) j = 0 then 1 else 0) k) (k : Int) S := by
        intro c
        have e1 := cnt_y (p := fun j => 0 < S 0 4 j) (k := k) c
        have va := vl.mp c
        have at4 := rl_at hR (i := (k : Int)) (by omega) (by omega) c
        obtain ⟨hk1, hk2⟩ := hintL hR (i := (k : Int)) (by omega) (by omega) c
        have sn := snapOf_bd f (w := S 0 4 k) (by omega) (by omega)
        have ab : ∀ i : Nat, i ≤ 48 → (0 ≤ sumN (fun j => if 0 < S 0 4 j ∧ v_X1_hintedWidth (S 0) (S 0 4 j) = v_X1_hintedWidth (S 0) (S 0 4 k) then 1 else 0) i ∧ sumN (fun j => if 0 < S 0 4 j ∧ v_X1_hintedWidth (S 0) (S 0 4 j) = v_X1_hintedWidth (S 0) (S 0 4 k) then 1 else 0) i ≤ i) := fun i _ => cnt_bd (fun j => 0 < S 0 4 j ∧ v_X1_hintedWidth (S 0) (S 0 4 j) = v_X1_hintedWidth (S 0) (S 0 4 k)) i
        have bb : ∀ i : Nat, i ≤ 48 → (0 ≤ sumN (fun j => if (0 < S 0 4 j ∧ v_X1_hintedWidth (S 0) (S 0 4 j) = v_X1_hintedWidth (S 0) (S 0 4 k)) ∧ j < (k : Int) then 1 else 0) i ∧ sumN (fun j => if (0 < S 0 4 j ∧ v_X1_hintedWidth (S 0) (S 0 4 j) = v_X1_hintedWidth (S 0) (S 0 4 k)) ∧ j < (k : Int) then 1 else 0) i ≤ i) := fun i _ => cnt_bd (fun j => (0 < S 0 4 j ∧ v_X1_hintedWidth (S 0) (S 0 4 j) = v_X1_hintedWidth (S 0) (S 0 4 k)) ∧ j < (k : Int)) i
        -- what it tells
        have h256 : ∀ u2 : Int, 0 ≤ u2 → u2 ≤ 100 → (B42 1 (sumN (fun j => if 0 < S 0 4 j then 1 else 0) k + 1) u2 ((k : Int) + 1) S) → B256 (sumN (fun j => if 0 < S 0 4 j then 1 else 0) k + 1) u2 k (sumN (fun j => if 0 < S 0 4 j ∧ v_X1_hintedWidth (S 0) (S 0 4 j) = v_X1_hintedWidth (S 0) (S 0 4 k) then 1 else 0) 48) (v_X1_snapOf (S 0) (S 0 4 k)) S := by
          intro u2 u20 u21 h2
          have a48 := ab 48 (by decide)
          have h481 : B481 1 (sumN (fun j => if 0 < S 0 4 j then 1 else 0) k + 1) u2 k S := r481 _ _ _ _ _ ⟨by decide, by decide⟩ ⟨by omega, by omega⟩ ⟨by omega, by omega⟩ ⟨by omega, by omega⟩ (fun _ => h2)
          obtain ⟨pw, w0, w1, w2, w3, w4, w5, w6, w7⟩ := so_at (S := S) hR (g := (k : Int) / 6) (k := (k : Int) % 6) ⟨⟨by omega, va.1⟩, by omega, va.2⟩
          rw [ek] at w0 w1 w2 w3 w4 w5 w6
          refine r256 _ _ _ _ _ _ ⟨by omega, by omega⟩ ⟨by omega, by omega⟩ ⟨by omega, by omega⟩ ⟨by omega, by omega⟩ ⟨by omega, by omega⟩ (fun _ => ?_)
          rw [w0, w1, w2, w3, w4, w5, w6, w7, hk2, at4.1.1, at4.1.2.1, at4.1.2.2]
          have e5 : v_X1_alikeWith (S 0) (S 0 4 k) = sumN (fun j => if 0 < S 0 4 j ∧ v_X1_hintedWidth (S 0) (S 0 4 j) = v_X1_hintedWidth (S 0) (S 0 4 k) then 1 else 0) 48 := rfl
          have h7 : p_X5_stemOf S ((k : Int) / 6) ((k : Int) % 6) 7 ∧ (((-1000001 : Int) = -1000001 → B481 1 (sumN (fun j => if 0 < S 0 4 j then 1 else 0) k + 1) u2 k S) ∧ (¬ (-1000001 : Int) = -1000001 → B481 0 (sumN (fun j => if 0 < S 0 4 j then 1 else 0) k + 1) u2 k S)) := ⟨pw 7, fun _ => h481, fun z => absurd rfl z⟩
          have gap : ¬ (k : Int) % 6 = 0 → S 10 4 ((k : Int) - 1) = S 0 3 ((k : Int) / 6 * 6 + ((k : Int) % 6 - 1)) ∧ S 10 5 ((k : Int) - 1) = S 0 4 ((k : Int) / 6 * 6 + ((k : Int) % 6 - 1)) ∧ (0 ≤ S 0 3 ((k : Int) / 6 * 6 + ((k : Int) % 6 - 1)) ∧ S 0 3 ((k : Int) / 6 * 6 + ((k : Int) % 6 - 1)) ≤ 999) ∧ (1 ≤ S 0 4 ((k : Int) / 6 * 6 + ((k : Int) % 6 - 1)) ∧ S 0 4 ((k : Int) / 6 * 6 + ((k : Int) % 6 - 1)) ≤ 300) := fun z => by
            have q := rl_stem hR (g := (k : Int) / 6) (k := (k : Int) % 6 - 1) (by omega) (by omega) (by omega) (by omega)
            rw [show (k : Int) - 1 = (k : Int) / 6 * 6 + ((k : Int) % 6 - 1) by omega]
            exact ⟨q.1.1, q.1.2.1, q.2.1, q.2.2.1⟩
          refine ⟨by omega, ⟨by omega, by omega⟩, ⟨by omega, by omega⟩, pw 0, ⟨by omega, by omega⟩, fun _ => ⟨pw 1, fun _ => ⟨pw 2, fun _ => ⟨pw 3, hk1, fun _ => ⟨pw 4, fun y => ⟨fun _ => ?_, fun z => absurd (if_pos y) z⟩, fun y => ⟨fun _ => ?_, fun z => absurd (if_neg y) z⟩⟩, fun z => absurd rfl z⟩, fun z => absurd rfl z⟩, fun z => absurd rfl z⟩, fun z => absurd rfl z⟩
          all_goals exact ⟨pw 5, fun _ => ⟨pw 6, fun z => ⟨fun _ => h7, fun y => absurd (if_pos z) y⟩, fun z => ⟨⟨by omega, by omega⟩, by rw [(gap z).1, (gap z).2.1]; have := (gap z).2.2; exact ⟨by omega, by omega⟩, fun _ => h7, fun y => absurd (by rw [if_neg z, (gap z).1, (gap z).2.1]; omega) y⟩⟩, fun z => absurd e5 z⟩
        -- behind the look at all others
        have h225 : B225 (sumN (fun j => if 0 < S 0 4 j then 1 else 0) k) (sumN (fun j => if 0 < S 0 4 j ∧ v_X1_isAlikeAhead (S 0) j = 0 then 1 else 0) k) k (sumN (fun j => if 0 < S 0 4 j ∧ v_X1_hintedWidth (S 0) (S 0 4 j) = v_X1_hintedWidth (S 0) (S 0 4 k) then 1 else 0) 48) (sumN (fun j => if (0 < S 0 4 j ∧ v_X1_hintedWidth (S 0) (S 0 4 j) = v_X1_hintedWidth (S 0) (S 0 4 k)) ∧ j < (k : Int) then 1 else 0) 48) S := by
          have a48 := ab 48 (by decide)
          have b48 := bb 48 (by decide)
          have ac := ahead_c (A := S 0) (k := (k : Int)) (by omega) (by omega)
          refine r225 _ _ _ _ _ _ ⟨by omega, by omega⟩ ⟨by omega, by omega⟩ ⟨by omega, by omega⟩ ⟨by omega, by omega⟩ ⟨by omega, by omega⟩ (fun _ => ?_)
          rw [at4.1.2.1]
          refine ⟨fun z => ⟨⟨by omega, by omega⟩, ⟨hR, by omega, by omega⟩, h256 _ (by omega) (by omega) ?_⟩, fun z => ⟨⟨by omega, by omega⟩, ⟨hR, by omega, by omega⟩, h256 _ (by omega) (by omega) ?_⟩⟩
          · have e2 := cnt_y (p := fun j => 0 < S 0 4 j ∧ v_X1_isAlikeAhead (S 0) j = 0) (k := k) ⟨c, ac.mp z⟩
            rw [← e1, ← e2]
            exact h
          · have e2 := cnt_n (p := fun j => 0 < S 0 4 j ∧ v_X1_isAlikeAhead (S 0) j = 0) (k := k) (fun y => z (ac.mpr y.2))
            rw [Int.add_zero, ← e1, ← e2]
            exact h
        refine r110 _ _ _ _ ⟨by omega, by omega⟩ ⟨by omega, by omega⟩ ⟨by omega, by omega⟩ (fun _ => ?_)
        refine upN (C := fun i => B119 (sumN (fun j => if 0 < S 0 4 j then 1 else 0) k) (sumN (fun j => if 0 < S 0 4 j ∧ v_X1_isAlikeAhead (S 0) j = 0 then 1 else 0) k) k (sumN (fun j => if 0 < S 0 4 j ∧ v_X1_hintedWidth (S 0) (S 0 4 j) = v_X1_hintedWidth (S 0) (S 0 4 k) then 1 else 0) i) (sumN (fun j => if (0 < S 0 4 j ∧ v_X1_hintedWidth (S 0) (S 0 4 j) = v_X1_hintedWidth (S 0) (S 0 4 k)) ∧ j < (k : Int) then 1 else 0) i) (i : Int) S) 48 ?_ ?_
        · have a48 := ab 48 (by decide)
          have b48 := bb 48 (by decide)
          exact r119 _ _ _ _ _ _ _ ⟨by omega, by omega⟩ ⟨by omega, by omega⟩ ⟨by omega, by omega⟩ ⟨by omega, by omega⟩ ⟨by omega, by omega⟩ ⟨by omega, by omega⟩ (fun _ => ⟨fun q => by omega, fun _ => h225⟩)
        · intro i hi hh
          have ai := ab i (by omega)
          have bi := bb i (by omega)
          have il := rl_val hR (i := (i : Int)) (by omega) (by omega)
          have h182 : ∀ same : Int, (same = 1 ∧ (0 < S 0 4 i ∧ v_X1_hintedWidth (S 0) (S 0 4 i) = v_X1_hintedWidth (S 0) (S 0 4 k))) ∨ (same = 0 ∧ ¬ (0 < S 0 4 i ∧ v_X1_hintedWidth (S 0) (S 0 4 i) = v_X1_hintedWidth (S 0) (S 0 4 k))) → B182 (sumN (fun j => if 0 < S 0 4 j then 1 else 0) k) (sumN (fun j => if 0 < S 0 4 j ∧ v_X1_isAlikeAhead (S 0) j = 0 then 1 else 0) k) k (sumN (fun j => if 0 < S 0 4 j ∧ v_X1_hintedWidth (S 0) (S 0 4 j) = v_X1_hintedWidth (S 0) (S 0 4 k) then 1 else 0) i) (sumN (fun j => if (0 < S 0 4 j ∧ v_X1_hintedWidth (S 0) (S 0 4 j) = v_X1_hintedWidth (S 0) (S 0 4 k)) ∧ j < (k : Int) then 1 else 0) i) i same S := by
            intro same hs
            rcases hs with ⟨e, q⟩ | ⟨e, q⟩
            · subst e
              have f1 := cnt_y (p := fun j => 0 < S 0 4 j ∧ v_X1_hintedWidth (S 0) (S 0 4 j) = v_X1_hintedWidth (S 0) (S 0 4 k)) (k := i) q
              refine r182 _ _ _ _ _ _ _ _ ⟨by omega, by omega⟩ ⟨by omega, by omega⟩ ⟨by omega, by omega⟩ ⟨by omega, by omega⟩ ⟨by omega, by omega⟩ ⟨by omega, by omega⟩ ⟨by decide, by decide⟩ (fun _ => ⟨fun z => absurd z (by decide), fun _ => ?_⟩)
              rw [← f1]
              have ai1 := ab (i + 1) (by omega)
              refine r197 _ _ _ _ _ _ _ _ ⟨by omega, by omega⟩ ⟨by omega, by omega⟩ ⟨by omega, by omega⟩ ⟨by omega, by omega⟩ ⟨by omega, by omega⟩ ⟨by omega, by omega⟩ ⟨by decide, by decide⟩ (fun _ => ⟨fun z => absurd z (by decide), fun _ => ⟨fun z => ?_, fun z => ?_⟩⟩)
              · have f2 := cnt_y (p := fun j => (0 < S 0 4 j ∧ v_X1_hintedWidth (S 0) (S 0 4 j) = v_X1_hintedWidth (S 0) (S 0 4 k)) ∧ j < (k : Int)) (k := i) ⟨q, z⟩
                rw [← f2]; exact hh
              · have f2 := cnt_n (p := fun j => (0 < S 0 4 j ∧ v_X1_hintedWidth (S 0) (S 0 4 j) = v_X1_hintedWidth (S 0) (S 0 4 k)) ∧ j < (k : Int)) (k := i) (fun y => z y.2)
                rw [Int.add_zero, ← f2]; exact hh
            · subst e
              have f1 := cnt_n (p := fun j => 0 < S 0 4 j ∧ v_X1_hintedWidth (S 0) (S 0 4 j) = v_X1_hintedWidth (S 0) (S 0 4 k)) (k := i) q
              have f2 := cnt_n (p := fun j => (0 < S 0 4 j ∧ v_X1_hintedWidth (S 0) (S 0 4 j) = v_X1_hintedWidth (S 0) (S 0 4 k)) ∧ j < (k : Int)) (k := i) (fun y => q y.1)
              refine r182 _ _ _ _ _ _ _ _ ⟨by omega, by omega⟩ ⟨by omega, by omega⟩ ⟨by omega, by omega⟩ ⟨by omega, by omega⟩ ⟨by omega, by omega⟩ ⟨by omega, by omega⟩ ⟨by decide, by decide⟩ (fun _ => ⟨fun _ => ?_, fun z => absurd rfl z⟩)
              rw [Int.add_zero]
              refine r197 _ _ _ _ _ _ _ _ ⟨by omega, by omega⟩ ⟨by omega, by omega⟩ ⟨by omega, by omega⟩ ⟨by omega, by omega⟩ ⟨by omega, by omega⟩ ⟨by omega, by omega⟩ ⟨by decide, by decide⟩ (fun _ => ⟨fun _ => ?_, fun z => absurd rfl z⟩)
              rw [Int.add_zero, ← f1, ← f2]
              exact hh
          refine r119 _ _ _ _ _ _ _ ⟨by omega, by omega⟩ ⟨by omega, by omega⟩ ⟨by omega, by omega⟩ ⟨by omega, by omega⟩ ⟨by omega, by omega⟩ ⟨by omega, by omega⟩ (fun _ => ⟨fun _ => ⟨by omega, ⟨by omega, by omega⟩, ?_⟩, fun q => by omega⟩)
          rw [ng.1]
          refine ⟨fun z => ⟨⟨by omega, by omega⟩, ⟨by omega, by omega⟩, ?_⟩, fun z => h182 0 (Or.inr ⟨rfl, fun y => z (il.mp y.1).1⟩)⟩
          rw [(rl_many hR (g := (i : Int) / 6) (by omega) z).1.2]
          refine ⟨fun z2 => ?_, fun z2 => h182 0 (Or.inr ⟨rfl, fun y => z2 (il.mp y.1).2⟩)⟩
          have pos := il.mpr ⟨z, z2⟩
          obtain ⟨hi1, hi2⟩ := hintL hR (i := (i : Int)) (by omega) (by omega) pos
          rw [hi2, hk2]
          exact ⟨hi1, hk1, fun y => h182 1 (Or.inl ⟨rfl, pos, y⟩), fun y => h182 0 (Or.inr ⟨rfl, fun w => y w.2⟩)⟩
      refine r42 _ _ _ _ _ ⟨by decide, by decide⟩ ⟨by omega, by omega⟩ ⟨by omega, by omega⟩ ⟨by omega, by omega⟩ (fun _ => ⟨fun _ => ⟨fun q => absurd q (by decide), fun _ => ⟨by omega, ⟨by omega, by omega⟩, ?_⟩⟩, fun q => by omega⟩)
      rw [ng.1]
      have no : ¬ ((k : Int) / 6 < S 0 0 0 ∧ (k : Int) % 6 < S 0 2 ((k : Int) / 6)) → p_X5_stemOf S ((k : Int) / 6) ((k : Int) % 6) 0 ∧ (v_X5_stemOf S ((k : Int) / 6) ((k : Int) % 6) 0 = -1000001 → B481 1 (sumN (fun j => if 0 < S 0 4 j then 1 else 0) k) (sumN (fun j => if 0 < S 0 4 j ∧ v_X1_isAlikeAhead (S 0) j = 0 then 1 else 0) k) (k : Int) S) ∧ (¬ v_X5_stemOf S ((k : Int) / 6) ((k : Int) % 6) 0 = -1000001 → B481 0 (sumN (fun j => if 0 < S 0 4 j then 1 else 0) k) (sumN (fun j => if 0 < S 0 4 j ∧ v_X1_isAlikeAhead (S 0) j = 0 then 1 else 0) k) (k : Int) S) := fun z => by
        obtain ⟨x1, x2⟩ := so_no (S := S) f (g := (k : Int) / 6) (k := (k : Int) % 6) (w := 0) (fun y => z ⟨y.1.2, y.2.2⟩)
        exact ⟨x1, fun _ => hno (fun y => z (vl.mp y)), fun y => absurd x2 y⟩
      refine ⟨fun z => ⟨⟨by omega, by omega⟩, ⟨by omega, by omega⟩, ?_⟩, fun z => ⟨⟨by omega, by omega⟩, no (fun y => z y.1)⟩⟩
      rw [(rl_many hR (g := (k : Int) / 6) (by omega) z).1.2]
      exact ⟨fun z2 => hyes (vl.mpr ⟨z, z2⟩), fun z2 => no (fun y => z2 y.2)⟩
  exact ⟨a1, fun _ => ⟨b1, fun _ => h33, fun z => absurd b2 z⟩, fun z => absurd a2 z⟩

def p_L_areSheets (S : hS) (vv : Int) : Prop := Inv27 S ∧ 0 ≤ vv
def q_L_areSheets (S : hS) (vv : Int) (S1 : hS) : Prop := Sam S S1
/-- sheets that are stale, as the law counts them -/
def stA (A P : hGM) (N : Int) (k : Nat) : Int := sumN (fun j => if j < N then stL A P j (P 9 j).toNat else 0) k
theorem stA_s (A P : hGM) (N : Int) (k : Nat) : stA A P N (k + 1) = stA A P N k + (if (k : Int) < N then stL A P k (P 9 k).toNat else 0) := rfl
theorem stA_bd (A P : hGM) (N : Int) (k : Nat) : 0 ≤ stA A P N k ∧ stA A P N k ≤ k := by
  have h := sumN_bd (f := fun j => if j < N then stL A P j (P 9 j).toNat else 0) (c := 1) k (fun j _ _ => by
    rcases stL_01 A P j (P 9 j).toNat with e | e
    · constructor <;> (split <;> omega)
    · constructor <;> (split <;> omega))
  unfold stA
  omega
theorem stA_end (A P : hGM) {N : Int} (hN : 0 ≤ N ∧ N ≤ 4) : stA A P N 4 = sumN (fun j => stL A P j (P 9 j).toNat) N.toNat := by
  unfold stA
  rw [sumN_cut (m := N.toNat) (n := 4) (by omega) (fun k a b => if_neg (by omega))]
  exact sumN_congr _ (fun k a b => if_pos (by omega))
theorem shN_s (P : hGM) (k : Nat) : shN P (k + 1) = shN P k + (if P 8 k ≤ 0 then 0 else 1) := rfl
set_option maxHeartbeats 4000000 in
theorem x_L_areSheets (S : hS) (vv : Int) (h_vv : hIn vv) (hRS : ∀ (g i : Nat) (k : Int), i < 100 → hIn (S g i k)) (hp : p_L_areSheets S vv) (B35 : Int → Int → Int → hS → Prop) (B38 : Int → Int → Int → Int → hS → Prop) (B75 : Int → Int → Int → Int → hS → Prop) (B81 : Int → Int → Int → Int → Int → Int → hS → Prop) (B118 : Int → Int → Int → Int → Int → Int → hS → Prop) (B191 : Int → Int → Int → Int → Int → Int → hS → Prop) (B197 : Int → Int → Int → Int → Int → hS → Prop) (B215 : Int → Int → Int → Int → Int → hS → Prop) (B230 : Int → Int → Int → Int → Int → hS → Prop) (B327 : Int → Int → Int → Int → hS → Prop) (B344 : Int → Int → Int → Int → Int → Int → hS → Prop) (B428 : Int → Int → Int → Int → hS → Prop) (B434 : Int → Int → Int → hS → Prop) (Po : Int → hS → Prop) 
  (r35 : ∀ (y13 : Int) (y14 : Int) (y15 : Int) (S1 : hS), hIn y13 → hIn y14 → hIn y15 → ((∀ (g i : Nat) (k : Int), i < 100 → hIn (S1 g i k)) → (0 ≤ (8 * (0 : Int).toNat) ∧ (B38 y13 y14 y15 0 S1))) → (B35 y13 y14 y15 S1)) 
  (r38 : ∀ (y13 : Int) (y14 : Int) (y15 : Int) (y16 : Int) (S1 : hS), hIn y13 → hIn y14 → hIn y15 → hIn y16 → ((∀ (g i : Nat) (k : Int), i < 100 → hIn (S1 g i k)) → ((y16 < 4 → ((y15 = 0 → ((8 * (y16 : Int).toNat) ≤ 32 ∧ (B434 y13 y14 y15 S1))) ∧ (¬ y15 = 0 → ((0 ≤ y16 ∧ y16 < 4) ∧ ((((S1 10) 8 y16) ≤ 0 → (B75 y13 y14 y16 0 S1)) ∧ (¬ ((S1 10) 8 y16) ≤ 0 → ((((S1 10) 9 y16) = ((S1 10) 1 0) → (B75 y13 y14 y16 0 S1)) ∧ (¬ ((S1 10) 9 y16) = ((S1 10) 1 0) → (B75 y13 y14 y16 1 S1))))))))) ∧ (¬ y16 < 4 → ((8 * (y16 : Int).toNat) ≤ 32 ∧ (B434 y13 y14 y15 S1))))) → (B38 y13 y14 y15 y16 S1)) 
  (r75 : ∀ (y13 : Int) (y14 : Int) (y16 : Int) (y17 : Int) (S1 : hS), hIn y13 → hIn y14 → hIn y16 → hIn y17 → ((∀ (g i : Nat) (k : Int), i < 100 → hIn (S1 g i k)) → ((8 * (y16 : Int).toNat) ≤ (8 * (y16 : Int).toNat + (0 : Int).toNat) ∧ (B81 y13 y14 y16 y17 0 0 S1))) → (B75 y13 y14 y16 y17 S1)) 
  (r81 : ∀ (y13 : Int) (y14 : Int) (y16 : Int) (y17 : Int) (y18 : Int) (y19 : Int) (S1 : hS), hIn y13 → hIn y14 → hIn y16 → hIn y17 → hIn y18 → hIn y19 → ((∀ (g i : Nat) (k : Int), i < 100 → hIn (S1 g i k)) → ((0 ≤ y16 ∧ y16 < 4) ∧ ((y19 < ((S1 10) 9 y16) → ((((S1 10) 8 y16) ≤ 0 → ((8 * (y16 : Int).toNat + (y19 : Int).toNat) ≤ (8 * (y16 : Int).toNat + 8) ∧ (B197 y13 y14 y16 y17 y18 S1))) ∧ (¬ ((S1 10) 8 y16) ≤ 0 → ((0 ≤ ((8 * y16) + y19) ∧ ((8 * y16) + y19) < 32) ∧ (p_L_many ((S1 10) 111 ((8 * y16) + y19)) ∧ ((8 * (y16 : Int).toNat + (y19 : Int).toNat) ≤ 32 ∧ (B118 y13 y14 y16 y17 (y18 + (v_L_many ((S1 10) 111 ((8 * y16) + y19)))) y19 S1))))))) ∧ (¬ y19 < ((S1 10) 9 y16) → ((8 * (y16 : Int).toNat + (y19 : Int).toNat) ≤ (8 * (y16 : Int).toNat + 8) ∧ (B197 y13 y14 y16 y17 y18 S1)))))) → (B81 y13 y14 y16 y17 y18 y19 S1)) 
  (r118 : ∀ (y13 : Int) (y14 : Int) (y16 : Int) (y17 : Int) (y18 : Int) (y19 : Int) (S1 : hS), hIn y13 → hIn y14 → hIn y16 → hIn y17 → hIn y18 → hIn y19 → ((∀ (g i : Nat) (k : Int), i < 100 → hIn (S1 g i k)) → ((y17 = 0 → ((0 ≤ ((8 * y16) + y19) ∧ ((8 * y16) + y19) < 32) ∧ ((0 ≤ y16 ∧ y16 < 4) ∧ (p_L_columns (S1 0) (S1 10) y19 ((S1 10) 8 y16) ∧ ((8 * (y16 : Int).toNat + (y19 : Int).toNat) ≤ 32 ∧ ((((S1 10) 10 ((8 * y16) + y19)) = (v_L_columns (S1 0) (S1 10) y19 ((S1 10) 8 y16)) → (p_L_lit (S1 0) (S1 10) y19 ((S1 10) 8 y16) ∧ (((8 * (y16 : Int).toNat + (y19 : Int).toNat) + 1) ≤ 32 ∧ (((jCmp ((S1 10) 111 ((8 * y16) + y19)) (v_L_lit (S1 0) (S1 10) y19 ((S1 10) 8 y16))) = 0 → (((8 * (y16 : Int).toNat + (y19 : Int).toNat) + 1) ≤ (8 * (y16 : Int).toNat + (y19 : Int).toNat + 1) ∧ (B191 y13 y14 y16 0 y18 y19 S1))) ∧ (¬ (jCmp ((S1 10) 111 ((8 * y16) + y19)) (v_L_lit (S1 0) (S1 10) y19 ((S1 10) 8 y16))) = 0 → (((8 * (y16 : Int).toNat + (y19 : Int).toNat) + 1) ≤ (8 * (y16 : Int).toNat + (y19 : Int).toNat + 1) ∧ (B191 y13 y14 y16 1 y18 y19 S1))))))) ∧ (¬ ((S1 10) 10 ((8 * y16) + y19)) = (v_L_columns (S1 0) (S1 10) y19 ((S1 10) 8 y16)) → ((8 * (y16 : Int).toNat + (y19 : Int).toNat) ≤ (8 * (y16 : Int).toNat + (y19 : Int).toNat + 1) ∧ (B191 y13 y14 y16 1 y18 y19 S1))))))))) ∧ (¬ y17 = 0 → ((8 * (y16 : Int).toNat + (y19 : Int).toNat) ≤ (8 * (y16 : Int).toNat + (y19 : Int).toNat + 1) ∧ (B191 y13 y14 y16 1 y18 y19 S1))))) → (B118 y13 y14 y16 y17 y18 y19 S1)) 
  (r191 : ∀ (y13 : Int) (y14 : Int) (y16 : Int) (y17 : Int) (y18 : Int) (y19 : Int) (S1 : hS), hIn y13 → hIn y14 → hIn y16 → hIn y17 → hIn y18 → hIn y19 → ((∀ (g i : Nat) (k : Int), i < 100 → hIn (S1 g i k)) → ((8 * (y16 : Int).toNat + (y19 : Int).toNat + 1) ≤ (8 * (y16 : Int).toNat + ((y19 + 1) : Int).toNat) ∧ (B81 y13 y14 y16 y17 y18 (y19 + 1) S1))) → (B191 y13 y14 y16 y17 y18 y19 S1)) 
  (r197 : ∀ (y13 : Int) (y14 : Int) (y16 : Int) (y17 : Int) (y18 : Int) (S1 : hS), hIn y13 → hIn y14 → hIn y16 → hIn y17 → hIn y18 → ((∀ (g i : Nat) (k : Int), i < 100 → hIn (S1 g i k)) → ((0 ≤ y16 ∧ y16 < 4) ∧ ((((S1 10) 8 y16) ≤ 0 → (B215 (y13 + 0) y14 y16 y17 y18 S1)) ∧ (¬ ((S1 10) 8 y16) ≤ 0 → (B215 (y13 + 1) y14 y16 y17 y18 S1))))) → (B197 y13 y14 y16 y17 y18 S1)) 
  (r215 : ∀ (y13 : Int) (y14 : Int) (y16 : Int) (y17 : Int) (y18 : Int) (S1 : hS), hIn y13 → hIn y14 → hIn y16 → hIn y17 → hIn y18 → ((∀ (g i : Nat) (k : Int), i < 100 → hIn (S1 g i k)) → ((y17 = 0 → (B230 y13 (y14 + 0) y16 y17 y18 S1)) ∧ (¬ y17 = 0 → (B230 y13 (y14 + 1) y16 y17 y18 S1)))) → (B215 y13 y14 y16 y17 y18 S1)) 
  (r230 : ∀ (y13 : Int) (y14 : Int) (y16 : Int) (y17 : Int) (y18 : Int) (S1 : hS), hIn y13 → hIn y14 → hIn y16 → hIn y17 → hIn y18 → ((∀ (g i : Nat) (k : Int), i < 100 → hIn (S1 g i k)) → ((0 ≤ y16 ∧ y16 < 4) ∧ ((((S1 10) 8 y16) = 0 → (p_X5_sheetOf S1 y16 0 ∧ ((8 * (y16 : Int).toNat + 8) ≤ 32 ∧ (((v_X5_sheetOf S1 y16 0) = (-1000004) → (B327 y13 y14 1 y16 (m_X5_sheetOf S1 y16 0))) ∧ (¬ (v_X5_sheetOf S1 y16 0) = (-1000004) → (B327 y13 y14 0 y16 (m_X5_sheetOf S1 y16 0))))))) ∧ (¬ ((S1 10) 8 y16) = 0 → (p_X5_sheetOf S1 y16 0 ∧ ((8 * (y16 : Int).toNat + 8) ≤ 32 ∧ (((v_X5_sheetOf S1 y16 0) = (((m_X5_sheetOf S1 y16 0) 10) 8 y16) → (p_X5_sheetOf (m_X5_sheetOf S1 y16 0) y16 1 ∧ (((v_X5_sheetOf (m_X5_sheetOf S1 y16 0) y16 1) = (((m_X5_sheetOf (m_X5_sheetOf S1 y16 0) y16 1) 10) 9 y16) → (p_X5_sheetOf (m_X5_sheetOf (m_X5_sheetOf S1 y16 0) y16 1) y16 2 ∧ ((y17 = 0 → (((v_X5_sheetOf (m_X5_sheetOf (m_X5_sheetOf S1 y16 0) y16 1) y16 2) = 0 → (p_X5_sheetOf (m_X5_sheetOf (m_X5_sheetOf (m_X5_sheetOf S1 y16 0) y16 1) y16 2) y16 3 ∧ (((v_X5_sheetOf (m_X5_sheetOf (m_X5_sheetOf (m_X5_sheetOf S1 y16 0) y16 1) y16 2) y16 3) = y18 → (B327 y13 y14 1 y16 (m_X5_sheetOf (m_X5_sheetOf (m_X5_sheetOf (m_X5_sheetOf S1 y16 0) y16 1) y16 2) y16 3))) ∧ (¬ (v_X5_sheetOf (m_X5_sheetOf (m_X5_sheetOf (m_X5_sheetOf S1 y16 0) y16 1) y16 2) y16 3) = y18 → (B327 y13 y14 0 y16 (m_X5_sheetOf (m_X5_sheetOf (m_X5_sheetOf (m_X5_sheetOf S1 y16 0) y16 1) y16 2) y16 3)))))) ∧ (¬ (v_X5_sheetOf (m_X5_sheetOf (m_X5_sheetOf S1 y16 0) y16 1) y16 2) = 0 → (B327 y13 y14 0 y16 (m_X5_sheetOf (m_X5_sheetOf (m_X5_sheetOf S1 y16 0) y16 1) y16 2))))) ∧ (¬ y17 = 0 → (((v_X5_sheetOf (m_X5_sheetOf (m_X5_sheetOf S1 y16 0) y16 1) y16 2) = 1 → (p_X5_sheetOf (m_X5_sheetOf (m_X5_sheetOf (m_X5_sheetOf S1 y16 0) y16 1) y16 2) y16 3 ∧ (((v_X5_sheetOf (m_X5_sheetOf (m_X5_sheetOf (m_X5_sheetOf S1 y16 0) y16 1) y16 2) y16 3) = y18 → (B327 y13 y14 1 y16 (m_X5_sheetOf (m_X5_sheetOf (m_X5_sheetOf (m_X5_sheetOf S1 y16 0) y16 1) y16 2) y16 3))) ∧ (¬ (v_X5_sheetOf (m_X5_sheetOf (m_X5_sheetOf (m_X5_sheetOf S1 y16 0) y16 1) y16 2) y16 3) = y18 → (B327 y13 y14 0 y16 (m_X5_sheetOf (m_X5_sheetOf (m_X5_sheetOf (m_X5_sheetOf S1 y16 0) y16 1) y16 2) y16 3)))))) ∧ (¬ (v_X5_sheetOf (m_X5_sheetOf (m_X5_sheetOf S1 y16 0) y16 1) y16 2) = 1 → (B327 y13 y14 0 y16 (m_X5_sheetOf (m_X5_sheetOf (m_X5_sheetOf S1 y16 0) y16 1) y16 2)))))))) ∧ (¬ (v_X5_sheetOf (m_X5_sheetOf S1 y16 0) y16 1) = (((m_X5_sheetOf (m_X5_sheetOf S1 y16 0) y16 1) 10) 9 y16) → (B327 y13 y14 0 y16 (m_X5_sheetOf (m_X5_sheetOf S1 y16 0) y16 1)))))) ∧ (¬ (v_X5_sheetOf S1 y16 0) = (((m_X5_sheetOf S1 y16 0) 10) 8 y16) → (B327 y13 y14 0 y16 (m_X5_sheetOf S1 y16 0)))))))))) → (B230 y13 y14 y16 y17 y18 S1)) 
  (r327 : ∀ (y13 : Int) (y14 : Int) (y15 : Int) (y16 : Int) (S1 : hS), hIn y13 → hIn y14 → hIn y15 → hIn y16 → ((∀ (g i : Nat) (k : Int), i < 100 → hIn (S1 g i k)) → (0 ≤ vv ∧ (hIn (vv / 8) ∧ (0 ≤ (vv / 8) ∧ (B344 y13 y14 y15 y16 (vv % 8) ((vv / 8) % 64) S1))))) → (B327 y13 y14 y15 y16 S1)) 
  (r344 : ∀ (y13 : Int) (y14 : Int) (y15 : Int) (y16 : Int) (y19 : Int) (y20 : Int) (S1 : hS), hIn y13 → hIn y14 → hIn y15 → hIn y16 → hIn y19 → hIn y20 → ((∀ (g i : Nat) (k : Int), i < 100 → hIn (S1 g i k)) → ((y15 = 0 → (B428 y13 y14 0 y16 S1)) ∧ (¬ y15 = 0 → ((0 ≤ y16 ∧ y16 < 4) ∧ ((((S1 10) 8 y16) = 0 → (B428 y13 y14 1 y16 S1)) ∧ (¬ ((S1 10) 8 y16) = 0 → (p_X5_inSheet S1 ((S1 10) 8 y16) y19 y20 ∧ ((8 * (y16 : Int).toNat + 8) ≤ 32 ∧ ((y19 < ((S1 10) 9 y16) → ((0 ≤ ((8 * y16) + y19) ∧ ((8 * y16) + y19) < 32) ∧ ((y20 < ((S1 10) 10 ((8 * y16) + y19)) → (((v_X5_inSheet S1 ((S1 10) 8 y16) y19 y20) = (jToI (jAnd (jShr ((S1 10) 111 ((8 * y16) + y19)) y20) 1)) → (B428 y13 y14 1 y16 S1)) ∧ (¬ (v_X5_inSheet S1 ((S1 10) 8 y16) y19 y20) = (jToI (jAnd (jShr ((S1 10) 111 ((8 * y16) + y19)) y20) 1)) → (B428 y13 y14 0 y16 S1)))) ∧ (¬ y20 < ((S1 10) 10 ((8 * y16) + y19)) → (((v_X5_inSheet S1 ((S1 10) 8 y16) y19 y20) = (-1000004) → (B428 y13 y14 1 y16 S1)) ∧ (¬ (v_X5_inSheet S1 ((S1 10) 8 y16) y19 y20) = (-1000004) → (B428 y13 y14 0 y16 S1))))))) ∧ (¬ y19 < ((S1 10) 9 y16) → (((v_X5_inSheet S1 ((S1 10) 8 y16) y19 y20) = (-1000004) → (B428 y13 y14 1 y16 S1)) ∧ (¬ (v_X5_inSheet S1 ((S1 10) 8 y16) y19 y20) = (-1000004) → (B428 y13 y14 0 y16 S1))))))))))))) → (B344 y13 y14 y15 y16 y19 y20 S1)) 
  (r428 : ∀ (y13 : Int) (y14 : Int) (y15 : Int) (y16 : Int) (S1 : hS), hIn y13 → hIn y14 → hIn y15 → hIn y16 → ((∀ (g i : Nat) (k : Int), i < 100 → hIn (S1 g i k)) → ((8 * (y16 : Int).toNat + 8) ≤ (8 * ((y16 + 1) : Int).toNat) ∧ (B38 y13 y14 y15 (y16 + 1) S1))) → (B428 y13 y14 y15 y16 S1)) 
  (r434 : ∀ (y13 : Int) (y14 : Int) (y15 : Int) (S1 : hS), hIn y13 → hIn y14 → hIn y15 → ((∀ (g i : Nat) (k : Int), i < 100 → hIn (S1 g i k)) → ((y15 = 0 → (Po 0 S1)) ∧ (¬ y15 = 0 → (p_X5_count S1 3 ∧ (((v_X5_count S1 3) = y13 → (p_X5_count (m_X5_count S1 3) 4 ∧ (((v_X5_count (m_X5_count S1 3) 4) = y14 → (p_X5_count (m_X5_count (m_X5_count S1 3) 4) 6 ∧ (((v_X5_count (m_X5_count (m_X5_count S1 3) 4) 6) = (((m_X5_count (m_X5_count (m_X5_count S1 3) 4) 6) 10) 1 3) → (Po 1 (m_X5_count (m_X5_count (m_X5_count S1 3) 4) 6))) ∧ (¬ (v_X5_count (m_X5_count (m_X5_count S1 3) 4) 6) = (((m_X5_count (m_X5_count (m_X5_count S1 3) 4) 6) 10) 1 3) → (Po 0 (m_X5_count (m_X5_count (m_X5_count S1 3) 4) 6)))))) ∧ (¬ (v_X5_count (m_X5_count S1 3) 4) = y14 → (Po 0 (m_X5_count (m_X5_count S1 3) 4)))))) ∧ (¬ (v_X5_count S1 3) = y13 → (Po 0 (m_X5_count S1 3)))))))) → (B434 y13 y14 y15 S1)) 
  (hpost : ∀ S2 : hS, q_L_areSheets S vv S2 → Po 1 S2) : (p_X5_sheetOf S (-1) 0 ∧ (((v_X5_sheetOf S (-1) 0) = (-1000001) → (p_X5_sheetOf (m_X5_sheetOf S (-1) 0) 0 4 ∧ (((v_X5_sheetOf (m_X5_sheetOf S (-1) 0) 0 4) = (-1000001) → (B35 0 0 1 (m_X5_sheetOf (m_X5_sheetOf S (-1) 0) 0 4))) ∧ (¬ (v_X5_sheetOf (m_X5_sheetOf S (-1) 0) 0 4) = (-1000001) → (B35 0 0 0 (m_X5_sheetOf (m_X5_sheetOf S (-1) 0) 0 4)))))) ∧ (¬ (v_X5_sheetOf S (-1) 0) = (-1000001) → (B35 0 0 0 (m_X5_sheetOf S (-1) 0))))) := by
  have hI : Inv27 S := hp.1
  have hv0 : 0 ≤ vv := hp.2
  have hv1 : vv ≤ 2147483647 := h_vv.2
  have hpost : ∀ S2 : hS, Sam S S2 → Po 1 S2 := hpost
  obtain ⟨hR, h13, hs0, N, o, hN, hz, hord⟩ := hI.1
  have ng := rl_g hR
  have sa := sh_all hord hN hz
  have hshl : ∀ i : Int, 0 ≤ i → i < N → (6 ≤ S 10 8 i ∧ S 10 8 i ≤ 48) ∧ 0 ≤ S 10 9 i ∧ S 10 9 i ≤ S 0 0 0 := fun i a b => by
    obtain ⟨w9, w96, w10, w100, _⟩ := (hord.1 i a b).2.2
    omega
  have look : ∀ S1 : hS, Sam S S1 → ∀ x : Int, 0 ≤ x → x < N → (∀ w : Int, p_X5_sheetOf S1 x w ∧ Sam S (m_X5_sheetOf S1 x w)) ∧ v_X5_sheetOf S1 x 0 = S 10 8 x ∧ v_X5_sheetOf S1 x 1 = S 10 9 x ∧ v_X5_sheetOf S1 x 2 = stL (S 0) (S 10) x (S 10 9 x).toNat ∧ v_X5_sheetOf S1 x 3 = lmL (S 10) x (S 10 9 x).toNat := by
    intro S1 q x x0 x1
    have q0 := q 0 (by decide)
    have h := sh_at (S := S1) (P := S 10) (N := N) (o := o) (by rw [q0]; exact hR) (by rw [q0]; exact hord) hN x0 x1
    rw [q0] at h
    exact ⟨fun w => ⟨(h.1 w).1, sam_tr q (h.1 w).2⟩, h.2⟩
  have look0 : ∀ S1 : hS, Sam S S1 → ∀ x : Int, N ≤ x → p_X5_sheetOf S1 x 0 ∧ v_X5_sheetOf S1 x 0 = -1000004 ∧ m_X5_sheetOf S1 x 0 = S1 := by
    intro S1 q x x0
    have q0 := q 0 (by decide)
    exact sh_no (S := S1) (P := S 10) (N := N) (o := o) (by rw [q0]; exact hord) hN x0 (by omega)
  have h434 : ∀ S1 : hS, Sam S S1 → B434 (shN (S 10) 4) (stA (S 0) (S 10) N 4) 1 S1 := by
    intro S1 q
    have q0 := q 0 (by decide)
    have b1 := shN_bd (S 10) 4
    have b2 := stA_bd (S 0) (S 10) N 4
    have i1 := sam_inv hI q
    have q2 : Sam S (m_X5_count S1 4) := sam_ct q 4
    have i2 := sam_inv hI q2
    have oS : OrdL (S1 0) (S 10) N o := by rw [q0]; exact hord
    have e3 : v_X5_count S1 3 = shN (S 10) 4 := by
      show v_X4_held (S1 0) = _
      rw [held_rel oS hN, sa.2]
    have e4 : v_X5_count S1 4 = stA (S 0) (S 10) N 4 := by
      show v_X5_staleSheets S1 = _
      rw [stales_eq (S := S1) (P := S 10) (by rw [q0]; exact hR) oS hN, q0]
      exact (stA_end _ _ hN).symm
    have e6 : v_X5_count (m_X5_count S1 4) 6 = m_X5_count S1 4 10 1 3 := by
      show m_X5_count S1 4 0 7 0 = _
      rw [q2 0 (by decide), q2 10 (by decide)]
      exact h13.symm
    refine r434 _ _ _ _ ⟨by omega, by omega⟩ ⟨by omega, by omega⟩ ⟨by decide, by decide⟩ (fun _ => ⟨fun z => absurd z (by decide), fun _ => ?_⟩)
    rw [ct_same (w := 3) (by decide), ct_same (w := 6) (by decide)]
    exact ⟨ct_p i1.1 3, fun _ => ⟨ct_p i1.1 4, fun _ => ⟨ct_p i2.1 6, fun _ => hpost _ q2, fun z => absurd e6 z⟩, fun z => absurd e4 z⟩, fun z => absurd e3 z⟩
  have h38 : ∀ S1 : hS, Sam S S1 → B38 0 0 1 0 S1 := by
    refine upN (C := fun k => ∀ S1 : hS, Sam S S1 → B38 (shN (S 10) k) (stA (S 0) (S 10) N k) 1 (k : Int) S1) 4 ?_ ?_
    · intro S1 q
      have b1 := shN_bd (S 10) 4
      have b2 := stA_bd (S 0) (S 10) N 4
      exact r38 _ _ _ _ _ ⟨by omega, by omega⟩ ⟨by omega, by omega⟩ ⟨by decide, by decide⟩ ⟨by decide, by decide⟩ (fun _ => ⟨fun z => absurd z (by decide), fun _ => ⟨by decide, h434 S1 q⟩⟩)
    intro k hk h S1 q
    have q0 := q 0 (by decide)
    have q10 := q 10 (by decide)
    have b1 := shN_bd (S 10) k
    have b2 := stA_bd (S 0) (S 10) N k
    have c1 := shN_bd (S 10) (k + 1)
    have c2 := stA_bd (S 0) (S 10) N (k + 1)
    have ik : hIn (k : Int) := ⟨by omega, by omega⟩
    have i1 : hIn 1 := ⟨by decide, by decide⟩
    have ib1 : hIn (shN (S 10) k) := ⟨by omega, by omega⟩
    have ib2 : hIn (stA (S 0) (S 10) N k) := ⟨by omega, by omega⟩
    have ic1 : hIn (shN (S 10) (k + 1)) := ⟨by omega, by omega⟩
    have ic2 : hIn (stA (S 0) (S 10) N (k + 1)) := ⟨by omega, by omega⟩
    have k4 : 0 ≤ (k : Int) ∧ (k : Int) < 4 := ⟨by omega, by omega⟩
    have h428 : ∀ S2 : hS, Sam S S2 → B428 (shN (S 10) (k + 1)) (stA (S 0) (S 10) N (k + 1)) 1 k S2 := fun S2 q2 =>
      r428 _ _ _ _ _ ic1 ic2 i1 ik (fun _ => ⟨by omega, h S2 q2⟩)
    by_cases c : (k : Int) < N
    · -- a sheet that is made
      have sk := hshl k k4.1 c
      have ek : shN (S 10) (k + 1) = shN (S 10) k + 1 := by rw [shN_s, if_neg (by omega)]
      have et : stA (S 0) (S 10) N (k + 1) = stA (S 0) (S 10) N k + stL (S 0) (S 10) k (S 10 9 k).toNat := by rw [stA_s, if_pos c]
      have h327 : ∀ S2 : hS, Sam S S2 → B327 (shN (S 10) (k + 1)) (stA (S 0) (S 10) N (k + 1)) 1 k S2 := by
        intro S2 q2
        have r0 := q2 0 (by decide)
        have r10 := q2 10 (by decide)
        have g8 : 0 ≤ vv % 8 ∧ vv % 8 < 8 := ⟨by omega, by omega⟩
        have c64 : 0 ≤ vv / 8 % 64 ∧ vv / 8 % 64 < 64 := ⟨by omega, by omega⟩
        obtain ⟨ip, iv⟩ := in_at (S := S2) (P := S 10) (N := N) (o := o) (by rw [r0]; exact hR) (by rw [r0]; exact hord) hN k4.1 c g8.1 g8.2 c64.1 c64.2
        refine r327 _ _ _ _ _ ic1 ic2 i1 ik (fun _ => ⟨hv0, ⟨by omega, by omega⟩, by omega, ?_⟩)
        refine r344 _ _ _ _ _ _ _ ic1 ic2 i1 ik ⟨by omega, by omega⟩ ⟨by omega, by omega⟩ (fun _ => ⟨fun z => absurd z (by decide), fun _ => ⟨k4, ?_⟩⟩)
        rw [r10]
        exact ⟨fun z => absurd z (by omega), fun _ => ⟨ip, by omega, fun y => ⟨⟨by omega, by omega⟩, fun x => ⟨fun _ => h428 S2 q2, fun z => absurd (iv.trans (if_pos ⟨y, x⟩)) z⟩, fun x => ⟨fun _ => h428 S2 q2, fun z => absurd (iv.trans (if_neg (fun w => x w.2))) z⟩⟩, fun y => ⟨fun _ => h428 S2 q2, fun z => absurd (iv.trans (if_neg (fun w => y w.1))) z⟩⟩⟩
      have o01 := stL_01 (S 0) (S 10) k (S 10 9 k).toNat
      have lb := lmL_bd (S 10) k (S 10 9 k).toNat
      have io : hIn (stL (S 0) (S 10) k (S 10 9 k).toNat) := ⟨by omega, by omega⟩
      have il : hIn (lmL (S 10) k (S 10 9 k).toNat) := ⟨by omega, by omega⟩
      have h230 : B230 (shN (S 10) (k + 1)) (stA (S 0) (S 10) N (k + 1)) k (stL (S 0) (S 10) k (S 10 9 k).toNat) (lmL (S 10) k (S 10 9 k).toNat) S1 := by
        obtain ⟨p0, a0, _, _, _⟩ := look S1 q k k4.1 c
        have q3 := (p0 0).2
        obtain ⟨p1, _, a1, _, _⟩ := look _ q3 k k4.1 c
        have q4 := (p1 1).2
        obtain ⟨p2, _, _, a2, _⟩ := look _ q4 k k4.1 c
        have q5 := (p2 2).2
        obtain ⟨p3, _, _, _, a3⟩ := look _ q5 k k4.1 c
        have q6 := (p3 3).2
        refine r230 _ _ _ _ _ _ ic1 ic2 ik io il (fun _ => ⟨k4, fun z => absurd z (by rw [q10]; omega), fun _ => ⟨(p0 0).1, by omega, fun _ => ⟨(p1 1).1, fun _ => ⟨(p2 2).1, fun y => ⟨fun _ => ⟨(p3 3).1, fun _ => h327 _ q6, fun z => absurd a3 z⟩, fun z => absurd (a2.trans y) z⟩, fun y => ⟨fun _ => ⟨(p3 3).1, fun _ => h327 _ q6, fun z => absurd a3 z⟩, fun z => absurd (a2.trans (by omega)) z⟩⟩, fun z => absurd (a1.trans (by rw [q4 10 (by decide)])) z⟩, fun z => absurd (a0.trans (by rw [q3 10 (by decide)])) z⟩⟩)
      have h197 : B197 (shN (S 10) k) (stA (S 0) (S 10) N k) k (stL (S 0) (S 10) k (S 10 9 k).toNat) (lmL (S 10) k (S 10 9 k).toNat) S1 := by
        refine r197 _ _ _ _ _ _ ib1 ib2 ik io il (fun _ => ⟨k4, fun z => absurd z (by rw [q10]; omega), fun _ => ?_⟩)
        rw [← ek]
        refine r215 _ _ _ _ _ _ ic1 ib2 ik io il (fun _ => ⟨fun y => ?_, fun y => ?_⟩)
        · rw [show stA (S 0) (S 10) N k + 0 = stA (S 0) (S 10) N (k + 1) by omega]; exact h230
        · rw [show stA (S 0) (S 10) N k + 1 = stA (S 0) (S 10) N (k + 1) by omega]; exact h230
      have h81 : B81 (shN (S 10) k) (stA (S 0) (S 10) N k) k (stL (S 0) (S 10) k 0) 0 0 S1 := by
        refine upN (C := fun i => B81 (shN (S 10) k) (stA (S 0) (S 10) N k) k (stL (S 0) (S 10) k i) (lmL (S 10) k i) (i : Int) S1) (S 10 9 k).toNat ?_ ?_
        · refine r81 _ _ _ _ _ _ _ ib1 ib2 ik io il ⟨by omega, by omega⟩ (fun _ => ⟨k4, fun z => absurd z (by rw [q10]; omega), fun _ => ⟨by omega, h197⟩⟩)
        intro i hi hh
        have u01 := stL_01 (S 0) (S 10) k i
        have u01' := stL_01 (S 0) (S 10) k (i + 1)
        have ub := lmL_bd (S 10) k i
        have ub' := lmL_bd (S 10) k (i + 1)
        have ii : hIn (i : Int) := ⟨by omega, by omega⟩
        have iu : hIn (stL (S 0) (S 10) k i) := ⟨by omega, by omega⟩
        have iu' : hIn (stL (S 0) (S 10) k (i + 1)) := ⟨by omega, by omega⟩
        have iv : hIn (lmL (S 10) k i) := ⟨by omega, by omega⟩
        have iv' : hIn (lmL (S 10) k (i + 1)) := ⟨by omega, by omega⟩
        have i8 : (i : Int) < S 0 0 0 := by omega
        obtain ⟨cp, cv⟩ := colL hR (g := (i : Int)) (z := S 10 8 k) (by omega) i8 (by omega) (by omega)
        have es := stL_s (S 0) (S 10) k i
        have h191 : B191 (shN (S 10) k) (stA (S 0) (S 10) N k) k (stL (S 0) (S 10) k (i + 1)) (lmL (S 10) k (i + 1)) i S1 :=
          r191 _ _ _ _ _ _ _ ib1 ib2 ik iu' iv' ii (fun _ => ⟨by omega, hh⟩)
        have h118 : B118 (shN (S 10) k) (stA (S 0) (S 10) N k) k (stL (S 0) (S 10) k i) (lmL (S 10) k (i + 1)) i S1 := by
          refine r118 _ _ _ _ _ _ _ ib1 ib2 ik iu iv' ii (fun _ => ⟨fun y => ?_, fun y => ?_⟩)
          · rw [if_pos y] at es
            rw [q0, q10, cv]
            refine ⟨⟨by omega, by omega⟩, k4, cp, by omega, fun x => ⟨⟨hR, ⟨by omega, i8⟩, by omega, by omega⟩, by omega, fun w => ⟨by omega, ?_⟩, fun w => ⟨by omega, ?_⟩⟩, fun x => ⟨by omega, ?_⟩⟩
            · rw [if_pos ⟨x, w⟩] at es
              rw [es] at h191; exact h191
            · rw [if_neg (fun z => w z.2)] at es
              rw [es] at h191; exact h191
            · rw [if_neg (fun z => x z.1)] at es
              rw [es] at h191; exact h191
          · rw [if_neg y] at es
            rw [es] at h191
            exact ⟨by omega, h191⟩
        refine r81 _ _ _ _ _ _ _ ib1 ib2 ik iu iv ii (fun _ => ⟨k4, fun _ => ⟨fun z => absurd z (by rw [q10]; omega), fun _ => ⟨⟨by omega, by omega⟩, trivial, by omega, ?_⟩⟩, fun z => absurd (by rw [q10]; omega) z⟩)
        rw [q10]
        exact h118
      have h75 : B75 (shN (S 10) k) (stA (S 0) (S 10) N k) k (stL (S 0) (S 10) k 0) S1 := by
        have u01 := stL_01 (S 0) (S 10) k 0
        exact r75 _ _ _ _ _ ib1 ib2 ik ⟨by omega, by omega⟩ (fun _ => ⟨by omega, h81⟩)
      refine r38 _ _ _ _ _ ib1 ib2 i1 ik (fun _ => ⟨fun _ => ⟨fun z => absurd z (by decide), fun _ => ⟨k4, fun z => absurd z (by rw [q10]; omega), fun _ => ?_⟩⟩, fun z => absurd k4.2 z⟩)
      rw [q10]
      have e0 : stL (S 0) (S 10) k 0 = if S 10 9 k = S 10 1 0 then 0 else 1 := rfl
      refine ⟨fun y => ?_, fun y => ?_⟩
      · rw [if_pos y] at e0; rw [e0] at h75; exact h75
      · rw [if_neg y] at e0; rw [e0] at h75; exact h75
    · -- no sheet
      have z8 := hz k (by omega) k4.2
      have ek : shN (S 10) (k + 1) = shN (S 10) k := by rw [shN_s, if_pos (by omega), Int.add_zero]
      have et : stA (S 0) (S 10) N (k + 1) = stA (S 0) (S 10) N k := by rw [stA_s, if_neg c, Int.add_zero]
      have i0 : hIn 0 := ⟨by decide, by decide⟩
      have h327 : ∀ S2 : hS, Sam S S2 → B327 (shN (S 10) (k + 1)) (stA (S 0) (S 10) N (k + 1)) 1 k S2 := by
        intro S2 q2
        have r10 := q2 10 (by decide)
        refine r327 _ _ _ _ _ ic1 ic2 i1 ik (fun _ => ⟨hv0, ⟨by omega, by omega⟩, by omega, ?_⟩)
        refine r344 _ _ _ _ _ _ _ ic1 ic2 i1 ik ⟨by omega, by omega⟩ ⟨by omega, by omega⟩ (fun _ => ⟨fun z => absurd z (by decide), fun _ => ⟨k4, ?_⟩⟩)
        rw [r10]
        exact ⟨fun _ => h428 S2 q2, fun z => absurd z8 z⟩
      obtain ⟨a1, a2, a3⟩ := look0 S1 q k (by omega)
      have h230 : B230 (shN (S 10) (k + 1)) (stA (S 0) (S 10) N (k + 1)) k 0 0 S1 := by
        refine r230 _ _ _ _ _ _ ic1 ic2 ik i0 i0 (fun _ => ⟨k4, fun _ => ⟨a1, by omega, fun _ => ?_, fun z => absurd a2 z⟩, fun z => absurd (by rw [q10]; exact z8) z⟩)
        rw [a3]
        exact h327 S1 q
      have h197 : B197 (shN (S 10) k) (stA (S 0) (S 10) N k) k 0 0 S1 := by
        refine r197 _ _ _ _ _ _ ib1 ib2 ik i0 i0 (fun _ => ⟨k4, fun _ => ?_, fun z => absurd (by rw [q10]; omega) z⟩)
        rw [Int.add_zero]
        refine r215 _ _ _ _ _ _ ib1 ib2 ik i0 i0 (fun _ => ⟨fun y => ?_, fun y => absurd rfl y⟩)
        rw [Int.add_zero, ← et, ← ek]
        exact h230
      have h75 : B75 (shN (S 10) k) (stA (S 0) (S 10) N k) k 0 S1 := by
        refine r75 _ _ _ _ _ ib1 ib2 ik i0 (fun _ => ⟨by omega, ?_⟩)
        exact r81 _ _ _ _ _ _ _ ib1 ib2 ik i0 i0 i0 (fun _ => ⟨k4, fun _ => ⟨fun _ => ⟨by omega, h197⟩, fun z => absurd (by rw [q10]; omega) z⟩, fun _ => ⟨by omega, h197⟩⟩)
      exact r38 _ _ _ _ _ ib1 ib2 i1 ik (fun _ => ⟨fun _ => ⟨fun z => absurd z (by decide), fun _ => ⟨k4, fun _ => h75, fun z => absurd (by rw [q10]; omega) z⟩⟩, fun z => absurd k4.2 z⟩)
  obtain ⟨a1, a2, a3⟩ := sh_bad S (x := -1) (w := 0) (Or.inl (by decide))
  obtain ⟨b1, b2, b3⟩ := sh_bad S (x := 0) (w := 4) (Or.inr (by decide))
  rw [a3, b3]
  have i0 : hIn 0 := ⟨by decide, by decide⟩
  exact ⟨a1, fun _ => ⟨b1, fun _ => r35 _ _ _ _ i0 i0 ⟨by decide, by decide⟩ (fun _ => ⟨by decide, h38 S (sam_rf S)⟩), fun z => absurd b2 z⟩, fun z => absurd a2 z⟩

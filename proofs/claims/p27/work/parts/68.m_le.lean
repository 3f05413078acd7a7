def p_L_acts (S : hS) (ss : Int) : Prop := Inv27 S
def q_L_acts (S : hS) (ss : Int) (S1 : hS) : Prop := Nxt S S1
set_option maxHeartbeats 4000000 in
theorem x_L_acts (S : hS) (ss : Int) (h_ss : hIn ss) (hRS : ∀ (g i : Nat) (k : Int), i < 100 → hIn (S g i k)) (hp : p_L_acts S ss) (B20 : Int → Int → hS → Prop) (B37 : Int → hS → Prop) (B102 : Int → Int → hS → Prop) (B147 : Int → Int → hS → Prop) (B193 : Int → Int → hS → Prop) (B282 : Int → Int → Int → hS → Prop) (B450 : Int → Int → hS → Prop) (B467 : Int → Int → hS → Prop) (B509 : Int → hS → Prop) (B552 : Int → hS → Prop) (B588 : Int → Int → hS → Prop) (Po : Int → hS → Prop) 
  (r20 : ∀ (y13 : Int) (y14 : Int) (S1 : hS), hIn y13 → hIn y14 → ((∀ (g i : Nat) (k : Int), i < 100 → hIn (S1 g i k)) → ((y14 < 3 → (0 ≤ y13 ∧ (B37 (100 + (y13 % 1401)) S1))) ∧ (¬ y14 < 3 → (B102 y13 y14 S1)))) → (B20 y13 y14 S1)) 
  (r37 : ∀ (y15 : Int) (S1 : hS), hIn y15 → ((∀ (g i : Nat) (k : Int), i < 100 → hIn (S1 g i k)) → ((((S1 10) 1 0) = 8 → (p_X5_glyph S1 y15 ∧ (((v_X5_glyph S1 y15) = (-1000003) → (Po 1 (m_X5_glyph S1 y15))) ∧ (¬ (v_X5_glyph S1 y15) = (-1000003) → (Po 0 (m_X5_glyph S1 y15)))))) ∧ (¬ ((S1 10) 1 0) = 8 → ((0 ≤ ((S1 10) 1 0) ∧ ((S1 10) 1 0) < 8) ∧ ((0 ≤ ((aset (S1 10) 2 ((S1 10) 1 0) y15) 1 0) ∧ ((aset (S1 10) 2 ((S1 10) 1 0) y15) 1 0) < 8) ∧ (hIn (((aset (aset (S1 10) 2 ((S1 10) 1 0) y15) 3 ((aset (S1 10) 2 ((S1 10) 1 0) y15) 1 0) 0) 1 0) + 1) ∧ (p_X5_glyph (gset S1 10 (aset (aset (aset (S1 10) 2 ((S1 10) 1 0) y15) 3 ((aset (S1 10) 2 ((S1 10) 1 0) y15) 1 0) 0) 1 0 (((aset (aset (S1 10) 2 ((S1 10) 1 0) y15) 3 ((aset (S1 10) 2 ((S1 10) 1 0) y15) 1 0) 0) 1 0) + 1))) y15 ∧ (hIn ((((m_X5_glyph (gset S1 10 (aset (aset (aset (S1 10) 2 ((S1 10) 1 0) y15) 3 ((aset (S1 10) 2 ((S1 10) 1 0) y15) 1 0) 0) 1 0 (((aset (aset (S1 10) 2 ((S1 10) 1 0) y15) 3 ((aset (S1 10) 2 ((S1 10) 1 0) y15) 1 0) 0) 1 0) + 1))) y15) 10) 1 0) - 1) ∧ (((v_X5_glyph (gset S1 10 (aset (aset (aset (S1 10) 2 ((S1 10) 1 0) y15) 3 ((aset (S1 10) 2 ((S1 10) 1 0) y15) 1 0) 0) 1 0 (((aset (aset (S1 10) 2 ((S1 10) 1 0) y15) 3 ((aset (S1 10) 2 ((S1 10) 1 0) y15) 1 0) 0) 1 0) + 1))) y15) = ((((m_X5_glyph (gset S1 10 (aset (aset (aset (S1 10) 2 ((S1 10) 1 0) y15) 3 ((aset (S1 10) 2 ((S1 10) 1 0) y15) 1 0) 0) 1 0 (((aset (aset (S1 10) 2 ((S1 10) 1 0) y15) 3 ((aset (S1 10) 2 ((S1 10) 1 0) y15) 1 0) 0) 1 0) + 1))) y15) 10) 1 0) - 1) → (Po 1 (m_X5_glyph (gset S1 10 (aset (aset (aset (S1 10) 2 ((S1 10) 1 0) y15) 3 ((aset (S1 10) 2 ((S1 10) 1 0) y15) 1 0) 0) 1 0 (((aset (aset (S1 10) 2 ((S1 10) 1 0) y15) 3 ((aset (S1 10) 2 ((S1 10) 1 0) y15) 1 0) 0) 1 0) + 1))) y15))) ∧ (¬ (v_X5_glyph (gset S1 10 (aset (aset (aset (S1 10) 2 ((S1 10) 1 0) y15) 3 ((aset (S1 10) 2 ((S1 10) 1 0) y15) 1 0) 0) 1 0 (((aset (aset (S1 10) 2 ((S1 10) 1 0) y15) 3 ((aset (S1 10) 2 ((S1 10) 1 0) y15) 1 0) 0) 1 0) + 1))) y15) = ((((m_X5_glyph (gset S1 10 (aset (aset (aset (S1 10) 2 ((S1 10) 1 0) y15) 3 ((aset (S1 10) 2 ((S1 10) 1 0) y15) 1 0) 0) 1 0 (((aset (aset (S1 10) 2 ((S1 10) 1 0) y15) 3 ((aset (S1 10) 2 ((S1 10) 1 0) y15) 1 0) 0) 1 0) + 1))) y15) 10) 1 0) - 1) → (Po 0 (m_X5_glyph (gset S1 10 (aset (aset (aset (S1 10) 2 ((S1 10) 1 0) y15) 3 ((aset (S1 10) 2 ((S1 10) 1 0) y15) 1 0) 0) 1 0 (((aset (aset (S1 10) 2 ((S1 10) 1 0) y15) 3 ((aset (S1 10) 2 ((S1 10) 1 0) y15) 1 0) 0) 1 0) + 1))) y15)))))))))))) → (B37 y15 S1)) 
  (r102 : ∀ (y13 : Int) (y14 : Int) (S1 : hS), hIn y13 → hIn y14 → ((∀ (g i : Nat) (k : Int), i < 100 → hIn (S1 g i k)) → ((y14 < 22 → ((y14 < 13 → (p_L_stems S1 0 y13 ∧ (∀ (Z29 : hS), (∀ (g i : Nat) (k : Int), i < 100 → hIn (Z29 g i k)) → q_L_stems S1 0 y13 Z29 → (Po 1 Z29)))) ∧ (¬ y14 < 13 → ((y14 < 20 → (p_L_stems S1 1 y13 ∧ (∀ (Z26 : hS), (∀ (g i : Nat) (k : Int), i < 100 → hIn (Z26 g i k)) → q_L_stems S1 1 y13 Z26 → (Po 1 Z26)))) ∧ (¬ y14 < 20 → (p_L_stems S1 2 y13 ∧ (∀ (Z23 : hS), (∀ (g i : Nat) (k : Int), i < 100 → hIn (Z23 g i k)) → q_L_stems S1 2 y13 Z23 → (Po 1 Z23)))))))) ∧ (¬ y14 < 22 → (B147 y13 y14 S1)))) → (B102 y13 y14 S1)) 
  (r147 : ∀ (y13 : Int) (y14 : Int) (S1 : hS), hIn y13 → hIn y14 → ((∀ (g i : Nat) (k : Int), i < 100 → hIn (S1 g i k)) → ((y14 < 27 → ((y14 < 24 → (0 ≤ y13 ∧ (hIn (y13 % 3) ∧ (((y13 % 3) = 0 → (B193 y14 (1 + (y13 % 300)) S1)) ∧ (¬ (y13 % 3) = 0 → (B193 y14 (1 + (y13 % 90)) S1)))))) ∧ (¬ y14 < 24 → (0 ≤ y13 ∧ ((0 ≤ (y13 % 3) ∧ (y13 % 3) < 3) ∧ (B193 y14 ((S1 10) 7 (y13 % 3)) S1)))))) ∧ (¬ y14 < 27 → (B467 y13 y14 S1)))) → (B147 y13 y14 S1)) 
  (r193 : ∀ (y14 : Int) (y15 : Int) (S1 : hS), hIn y14 → hIn y15 → ((∀ (g i : Nat) (k : Int), i < 100 → hIn (S1 g i k)) → (p_L_find (S1 10) y15 ∧ (p_L_find (S1 10) 0 ∧ ((y14 < 25 → ((y15 = 0 → (p_X5_standard S1 y15 ∧ (((v_X5_standard S1 y15) = (-1000001) → (Po 1 (m_X5_standard S1 y15))) ∧ (¬ (v_X5_standard S1 y15) = (-1000001) → (Po 0 (m_X5_standard S1 y15)))))) ∧ (¬ y15 = 0 → (((v_L_find (S1 10) y15) < 0 → (((v_L_find (S1 10) 0) < 0 → (p_X5_standard S1 y15 ∧ (((v_X5_standard S1 y15) = (-1000003) → (Po 1 (m_X5_standard S1 y15))) ∧ (¬ (v_X5_standard S1 y15) = (-1000003) → (Po 0 (m_X5_standard S1 y15)))))) ∧ (¬ (v_L_find (S1 10) 0) < 0 → ((0 ≤ (v_L_find (S1 10) 0) ∧ (v_L_find (S1 10) 0) < 3) ∧ (B282 y15 0 0 (gset S1 10 (aset (S1 10) 7 (v_L_find (S1 10) 0) y15))))))) ∧ (¬ (v_L_find (S1 10) y15) < 0 → (p_X5_standard S1 y15 ∧ (((v_X5_standard S1 y15) = (-1000002) → (Po 1 (m_X5_standard S1 y15))) ∧ (¬ (v_X5_standard S1 y15) = (-1000002) → (Po 0 (m_X5_standard S1 y15)))))))))) ∧ (¬ y14 < 25 → ((y15 = 0 → (p_X5_drop S1 0 ∧ (((v_X5_drop S1 0) = (-1000001) → (p_L_find ((m_X5_drop S1 0) 10) 1 ∧ (((v_L_find ((m_X5_drop S1 0) 10) 1) < 0 → (p_X5_drop (m_X5_drop S1 0) 1 ∧ (((v_X5_drop (m_X5_drop S1 0) 1) = (-1000002) → (Po 1 (m_X5_drop (m_X5_drop S1 0) 1))) ∧ (¬ (v_X5_drop (m_X5_drop S1 0) 1) = (-1000002) → (Po 0 (m_X5_drop (m_X5_drop S1 0) 1)))))) ∧ (¬ (v_L_find ((m_X5_drop S1 0) 10) 1) < 0 → (Po 1 (m_X5_drop S1 0)))))) ∧ (¬ (v_X5_drop S1 0) = (-1000001) → (Po 0 (m_X5_drop S1 0)))))) ∧ (¬ y15 = 0 → ((0 ≤ (v_L_find (S1 10) y15) ∧ (v_L_find (S1 10) y15) < 3) ∧ ((((aset (S1 10) 7 (v_L_find (S1 10) y15) 0) 7 0) ≤ 0 → ((((aset (S1 10) 7 (v_L_find (S1 10) y15) 0) 7 1) ≤ 0 → ((((aset (S1 10) 7 (v_L_find (S1 10) y15) 0) 7 2) ≤ 0 → (B450 y15 ((0 + 0) + 0) (gset S1 10 (aset (S1 10) 7 (v_L_find (S1 10) y15) 0)))) ∧ (¬ ((aset (S1 10) 7 (v_L_find (S1 10) y15) 0) 7 2) ≤ 0 → (B450 y15 ((0 + 0) + 1) (gset S1 10 (aset (S1 10) 7 (v_L_find (S1 10) y15) 0)))))) ∧ (¬ ((aset (S1 10) 7 (v_L_find (S1 10) y15) 0) 7 1) ≤ 0 → ((((aset (S1 10) 7 (v_L_find (S1 10) y15) 0) 7 2) ≤ 0 → (B450 y15 ((0 + 1) + 0) (gset S1 10 (aset (S1 10) 7 (v_L_find (S1 10) y15) 0)))) ∧ (¬ ((aset (S1 10) 7 (v_L_find (S1 10) y15) 0) 7 2) ≤ 0 → (B450 y15 ((0 + 1) + 1) (gset S1 10 (aset (S1 10) 7 (v_L_find (S1 10) y15) 0)))))))) ∧ (¬ ((aset (S1 10) 7 (v_L_find (S1 10) y15) 0) 7 0) ≤ 0 → ((((aset (S1 10) 7 (v_L_find (S1 10) y15) 0) 7 1) ≤ 0 → ((((aset (S1 10) 7 (v_L_find (S1 10) y15) 0) 7 2) ≤ 0 → (B450 y15 ((1 + 0) + 0) (gset S1 10 (aset (S1 10) 7 (v_L_find (S1 10) y15) 0)))) ∧ (¬ ((aset (S1 10) 7 (v_L_find (S1 10) y15) 0) 7 2) ≤ 0 → (B450 y15 ((1 + 0) + 1) (gset S1 10 (aset (S1 10) 7 (v_L_find (S1 10) y15) 0)))))) ∧ (¬ ((aset (S1 10) 7 (v_L_find (S1 10) y15) 0) 7 1) ≤ 0 → ((((aset (S1 10) 7 (v_L_find (S1 10) y15) 0) 7 2) ≤ 0 → (B450 y15 ((1 + 1) + 0) (gset S1 10 (aset (S1 10) 7 (v_L_find (S1 10) y15) 0)))) ∧ (¬ ((aset (S1 10) 7 (v_L_find (S1 10) y15) 0) 7 2) ≤ 0 → (B450 y15 ((1 + 1) + 1) (gset S1 10 (aset (S1 10) 7 (v_L_find (S1 10) y15) 0))))))))))))))))) → (B193 y14 y15 S1)) 
  (r282 : ∀ (y15 : Int) (y18 : Int) (y19 : Int) (S1 : hS), hIn y15 → hIn y18 → hIn y19 → ((∀ (g i : Nat) (k : Int), i < 100 → hIn (S1 g i k)) → ((y19 < 48 → (0 ≤ y19 ∧ (hIn (y19 / 6) ∧ (((y19 / 6) < ((S1 10) 1 0) → ((0 ≤ (y19 / 6) ∧ (y19 / 6) < 8) ∧ (hIn (y19 % 6) ∧ (((y19 % 6) < ((S1 10) 3 (y19 / 6)) → ((0 ≤ y19 ∧ y19 < 49) ∧ (p_L_snap (stIns (S1 0) y15) (S1 10) ((S1 10) 5 y19) ∧ (((v_L_snap (stIns (S1 0) y15) (S1 10) ((S1 10) 5 y19)) = y15 → (B282 y15 (y18 + 1) (y19 + 1) S1)) ∧ (¬ (v_L_snap (stIns (S1 0) y15) (S1 10) ((S1 10) 5 y19)) = y15 → (B282 y15 (y18 + 0) (y19 + 1) S1)))))) ∧ (¬ (y19 % 6) < ((S1 10) 3 (y19 / 6)) → (B282 y15 (y18 + 0) (y19 + 1) S1)))))) ∧ (¬ (y19 / 6) < ((S1 10) 1 0) → (B282 y15 (y18 + 0) (y19 + 1) S1)))))) ∧ (¬ y19 < 48 → (p_X5_standard S1 y15 ∧ (((v_X5_standard S1 y15) = y18 → (Po 1 (m_X5_standard S1 y15))) ∧ (¬ (v_X5_standard S1 y15) = y18 → (Po 0 (m_X5_standard S1 y15)))))))) → (B282 y15 y18 y19 S1)) 
  (r450 : ∀ (y15 : Int) (y18 : Int) (S1 : hS), hIn y15 → hIn y18 → ((∀ (g i : Nat) (k : Int), i < 100 → hIn (S1 g i k)) → (p_X5_drop S1 y15 ∧ (((v_X5_drop S1 y15) = y18 → (Po 1 (m_X5_drop S1 y15))) ∧ (¬ (v_X5_drop S1 y15) = y18 → (Po 0 (m_X5_drop S1 y15)))))) → (B450 y15 y18 S1)) 
  (r467 : ∀ (y13 : Int) (y14 : Int) (S1 : hS), hIn y13 → hIn y14 → ((∀ (g i : Nat) (k : Int), i < 100 → hIn (S1 g i k)) → ((y14 < 31 → (0 ≤ y13 ∧ (hIn (y13 % 4) ∧ (((y13 % 4) = 0 → (B509 (6 + ((y13 % 43) * 1)) S1)) ∧ (¬ (y13 % 4) = 0 → (B509 (6 + ((y13 % 5) * 9)) S1)))))) ∧ (¬ y14 < 31 → (B552 y13 S1)))) → (B467 y13 y14 S1)) 
  (r509 : ∀ (y15 : Int) (S1 : hS), hIn y15 → ((∀ (g i : Nat) (k : Int), i < 100 → hIn (S1 g i k)) → (p_L_make (S1 0) (S1 10) y15 ∧ (p_X5_make (gset S1 10 (m_L_make (S1 0) (S1 10) y15)) y15 ∧ (((v_X5_make (gset S1 10 (m_L_make (S1 0) (S1 10) y15)) y15) = (v_L_make (S1 0) (S1 10) y15) → (Po 1 (m_X5_make (gset S1 10 (m_L_make (S1 0) (S1 10) y15)) y15))) ∧ (¬ (v_X5_make (gset S1 10 (m_L_make (S1 0) (S1 10) y15)) y15) = (v_L_make (S1 0) (S1 10) y15) → (Po 0 (m_X5_make (gset S1 10 (m_L_make (S1 0) (S1 10) y15)) y15))))))) → (B509 y15 S1)) 
  (r552 : ∀ (y13 : Int) (S1 : hS), hIn y13 → ((∀ (g i : Nat) (k : Int), i < 100 → hIn (S1 g i k)) → (0 ≤ y13 ∧ ((0 ≤ (1 + (y13 % 2)) ∧ (1 + (y13 % 2)) < 4) ∧ (hIn (y13 % 2) ∧ (((y13 % 2) = 0 → (hIn (y13 / 2) ∧ (0 ≤ (y13 / 2) ∧ (hIn ((y13 / 2) % 101) ∧ (B588 (y13 % 2) ((S1 10) 1 (1 + (y13 % 2))) (gset S1 10 (aset (S1 10) 1 (1 + (y13 % 2)) ((y13 / 2) % 101)))))))) ∧ (¬ (y13 % 2) = 0 → (hIn (y13 / 2) ∧ (0 ≤ (y13 / 2) ∧ (hIn ((y13 / 2) % 4) ∧ (B588 (y13 % 2) ((S1 10) 1 (1 + (y13 % 2))) (gset S1 10 (aset (S1 10) 1 (1 + (y13 % 2)) ((y13 / 2) % 4))))))))))))) → (B552 y13 S1)) 
  (r588 : ∀ (y15 : Int) (y16 : Int) (S1 : hS), hIn y15 → hIn y16 → ((∀ (g i : Nat) (k : Int), i < 100 → hIn (S1 g i k)) → ((0 ≤ (1 + y15) ∧ (1 + y15) < 4) ∧ (p_X5_set S1 y15 ((S1 10) 1 (1 + y15)) ∧ (((v_X5_set S1 y15 ((S1 10) 1 (1 + y15))) = y16 → (Po 1 (m_X5_set S1 y15 ((S1 10) 1 (1 + y15))))) ∧ (¬ (v_X5_set S1 y15 ((S1 10) 1 (1 + y15))) = y16 → (Po 0 (m_X5_set S1 y15 ((S1 10) 1 (1 + y15))))))))) → (B588 y15 y16 S1)) 
  (hpost : ∀ S2 : hS, q_L_acts S ss S2 → Po 1 S2) : (p_L_low (iShr ss 5) 10000000 ∧ (p_L_low ss 32 ∧ (B20 (v_L_low (iShr ss 5) 10000000) (v_L_low ss 32) S))) := by
  have hI : Inv27 S := hp
  have hpost : ∀ S2 : hS, Nxt S S2 → Po 1 S2 := hpost
  have hR := hI.1
  have hH := hI.2.1
  have hn := hR.1.1
  have b7 := hI.2.2.2
  have ng := rl_g hR.1
  have fin : ∀ (v k : Int) (M : hS), v = k → Nxt S M → (v = k → Po 1 M) ∧ (¬ v = k → Po 0 M) := fun v k M e q => ⟨fun _ => hpost M q, fun z => absurd e z⟩
  obtain ⟨l1, l2, l3⟩ := low_p (v := iShr ss 5) (n := 10000000) (by decide) (by decide)
  obtain ⟨k1, k2, k3⟩ := low_p (v := ss) (n := 32) (by decide) (by decide)
  refine ⟨l1, k1, ?_⟩
  generalize v_L_low (iShr ss 5) 10000000 = v at l2 l3 ⊢
  generalize v_L_low ss 32 = way at k2 k3 ⊢
  have hset := (rl_set hR.1)
  have sd := hR.1.2.2.1
  have d300 : ∀ k : Int, 0 ≤ k → k < 3 → 0 ≤ S 10 7 k ∧ S 10 7 k ≤ 300 := fun k a b => by
    rcases (show k = 0 ∨ k = 1 ∨ k = 2 by omega) with rfl | rfl | rfl
    · exact sd.1
    · exact sd.2.1
    · exact sd.2.2.1
  -- a setting
  have h552 : B552 v S := by
    have g16 : ∀ k : Int, hIn (S 10 1 k) := fun k => hRS 10 1 k (by decide)
    refine r552 _ _ ⟨by omega, by omega⟩ (fun _ => ⟨l2, ⟨by omega, by omega⟩, ⟨by omega, by omega⟩, fun z => ⟨⟨by omega, by omega⟩, by omega, ⟨by omega, by omega⟩, ?_⟩, fun z => ⟨⟨by omega, by omega⟩, by omega, ⟨by omega, by omega⟩, ?_⟩⟩)
    · rw [z]
      have vr : 0 ≤ v / 2 % 101 ∧ v / 2 % 101 ≤ 100 := by omega
      generalize v / 2 % 101 = x at vr ⊢
      refine r588 _ _ _ ⟨by decide, by decide⟩ (g16 _) (fun _ => ⟨⟨by decide, by decide⟩, ?_⟩)
      rw [gset_at, show (1 : Int) + 0 = 1 from rfl, aset_at]
      have hP := rl_set0 hR vr.1 vr.2 (rfl : aset (S 10) 1 1 x = aset (S 10) 1 1 x)
      obtain ⟨c1, c2⟩ := set_0 (A := S 0) vr
      generalize aset (S 10) 1 1 x = P' at hP ⊢
      have e0 : gset S 10 P' 0 = S 0 := gset_ne (by decide)
      obtain ⟨a1, a2, a3⟩ := cl_set (his_10 hH P') 0 x
      rw [e0] at a2 a3
      rw [c2] at a3
      refine ⟨a1, fin _ _ _ ?_ (nxt_of hI a3 (gset_ne (by decide)) (by rw [gset_at]; exact hP) ?_)⟩
      · rw [a2, c1]; exact hset.1.1.symm
      · rw [aset_row (by decide)]; omega
    · have z : v % 2 = 1 := by omega
      rw [z]
      have vr : 0 ≤ v / 2 % 4 ∧ v / 2 % 4 ≤ 3 := by omega
      generalize v / 2 % 4 = x at vr ⊢
      refine r588 _ _ _ ⟨by decide, by decide⟩ (g16 _) (fun _ => ⟨⟨by decide, by decide⟩, ?_⟩)
      rw [gset_at, show (1 : Int) + 1 = 2 from rfl, aset_at]
      have hP := rl_set1 hR vr.1 vr.2 (rfl : aset (S 10) 1 2 x = aset (S 10) 1 2 x)
      obtain ⟨c1, c2⟩ := set_1 (A := S 0) vr
      generalize aset (S 10) 1 2 x = P' at hP ⊢
      have e0 : gset S 10 P' 0 = S 0 := gset_ne (by decide)
      obtain ⟨a1, a2, a3⟩ := cl_set (his_10 hH P') 1 x
      rw [e0] at a2 a3
      rw [c2] at a3
      refine ⟨a1, fin _ _ _ ?_ (nxt_of hI a3 (gset_ne (by decide)) (by rw [gset_at]; exact hP) ?_)⟩
      · rw [a2, c1]; exact hset.2.1.symm
      · rw [aset_row (by decide)]; omega
  -- a sheet
  have h509 : ∀ z : Int, 6 ≤ z → z ≤ 48 → B509 z S := by
    intro z z0 z1
    have pm : p_L_make (S 0) (S 10) z := ⟨hR.1, ⟨z0, z1⟩, by rw [hR.2.1]; omega⟩
    obtain ⟨m1, m2, m3⟩ := rl_make (T := S 7) hR b7.1 z0 z1
    obtain ⟨c1, c2⟩ := make_ok (S 0) (S 7) ⟨z0, z1⟩
    have ev : v_L_make (S 0) (S 10) z = toL (S 10) z + 1 := rfl
    refine r509 _ _ ⟨by omega, by omega⟩ (fun _ => ⟨pm, ?_⟩)
    rw [ev]
    generalize m_L_make (S 0) (S 10) z = P' at m1 ⊢
    have e0 : gset S 10 P' 0 = S 0 := gset_ne (by decide)
    have e7 : gset S 10 P' 7 = S 7 := gset_ne (by decide)
    obtain ⟨a1, a2, a3⟩ := cl_make (his_10 hH P') (by rw [e0]; exact hn) (by rw [e0]; omega) z
    rw [e0, e7] at a2 a3
    rw [c2] at a3
    refine ⟨a1, fin _ _ _ ?_ (nxt_of hI a3 (gset_ne (by decide)) (by rw [gset_at]; exact m1) ?_)⟩
    · rw [a2, c1]; exact m2
    · rw [m3]; omega
  have h467 : B467 v way S := by
    refine r467 _ _ _ ⟨by omega, by omega⟩ ⟨by omega, by omega⟩ (fun _ => ⟨fun _ => ⟨l2, ⟨by omega, by omega⟩, fun _ => h509 _ (by omega) (by omega), fun _ => h509 _ (by omega) (by omega)⟩, fun _ => h552⟩)
  -- standard widths
  have h193 : ∀ w : Int, 0 ≤ w → w ≤ 300 → (25 ≤ way → w = 0 ∨ ∃ j : Int, 0 ≤ j ∧ j < 3 ∧ S 10 7 j = w) → B193 way w S := by
    intro w w0 w1 hw
    have fb := fnL_bd (S 10 7) w 3
    have f0 := fnL_bd (S 10 7) 0 3
    have ef : v_L_find (S 10) w = fnL (S 10 7) w 3 := rfl
    have ef0 : v_L_find (S 10) 0 = fnL (S 10 7) 0 3 := rfl
    refine r193 _ _ _ ⟨by omega, by omega⟩ ⟨by omega, by omega⟩ (fun _ => ⟨trivial, trivial, fun c => ⟨fun e => ?_, fun e => ⟨fun d => ⟨fun d2 => ?_, fun d2 => ?_⟩, fun d => ?_⟩⟩, fun c => ⟨fun e => ?_, fun e => ?_⟩⟩)
    · subst e
      obtain ⟨a1, a2, a3⟩ := cl_standard hH hn 0
      obtain ⟨c1, c2⟩ := std_zero (S 0)
      rw [c2] at a3
      exact ⟨a1, fin _ _ _ (a2.trans c1) (nxt_same hI a3)⟩
    · rw [ef] at d
      rw [ef0] at d2
      have full := (std_full hR.1).mp (by omega)
      rcases stdAt_c hR.1 (w := w) (by omega) with ⟨x1, x2⟩ | ⟨x1, x2⟩
      · obtain ⟨a1, a2, a3⟩ := cl_standard hH hn w
        obtain ⟨c1, c2⟩ := std_three (A := S 0) (w := w) ⟨by omega, w1⟩ x1 full
        rw [c2] at a3
        exact ⟨a1, fin _ _ _ (a2.trans c1) (nxt_same hI a3)⟩
      · omega
    · rw [ef] at d
      rw [ef0] at d2 ⊢
      rcases stdAt_c hR.1 (w := w) (by omega) with ⟨x1, x2⟩ | ⟨x1, x2⟩
      · have hno : ∀ k : Int, 0 ≤ k → k < 3 → ¬ S 10 7 k = w := by
          rcases fnL_spec (S 10 7) w 3 with q | q
          · exact q.2
          · omega
        have hfr : S 10 7 (fnL (S 10 7) 0 3) = 0 := by
          rcases fnL_spec (S 10 7) 0 3 with q | q
          · omega
          · exact q.2.2
        generalize fnL (S 10 7) 0 3 = f at f0 d2 hfr ⊢
        obtain ⟨n3, hP⟩ := rl_stdIn hR (w := w) (f := f) (by omega) w1 hno (by omega) (by omega) hfr rfl
        obtain ⟨c1, c2⟩ := std_new (A := S 0) (w := w) ⟨by omega, w1⟩ x1 n3
        refine ⟨⟨by omega, by omega⟩, ?_⟩
        generalize aset (S 10) 7 f w = P' at hP ⊢
        have e0 : gset S 10 P' 0 = S 0 := gset_ne (by decide)
        have ng' := rl_g hP.1
        refine upN (C := fun k => B282 w (sumN (fun j => if 0 < stIns (S 0) w 4 j ∧ v_X1_snapOf (stIns (S 0) w) (stIns (S 0) w 4 j) = w then 1 else 0) k) (k : Int) (gset S 10 P')) 48 ?_ ?_
        · have cb := cnt_bd (fun j => 0 < stIns (S 0) w 4 j ∧ v_X1_snapOf (stIns (S 0) w) (stIns (S 0) w 4 j) = w) 48
          refine r282 _ _ _ _ ⟨by omega, by omega⟩ ⟨by omega, by omega⟩ ⟨by omega, by omega⟩ (fun _ => ⟨fun q => by omega, fun _ => ?_⟩)
          obtain ⟨a1, a2, a3⟩ := cl_standard (his_10 hH P') (by rw [e0]; exact hn) w
          rw [e0] at a2 a3
          rw [c2] at a3
          refine ⟨a1, fin _ _ _ (a2.trans c1) (nxt_of hI a3 (gset_ne (by decide)) (by rw [gset_at]; exact hP) ?_)⟩
          rw [stIns_row (by decide) (by decide)]; omega
        · intro k hk h
          have cb := cnt_bd (fun j => 0 < stIns (S 0) w 4 j ∧ v_X1_snapOf (stIns (S 0) w) (stIns (S 0) w 4 j) = w) k
          have vl := rl_val hP.1 (i := (k : Int)) (by omega) (by omega)
          have yes : (0 < stIns (S 0) w 4 k ∧ v_X1_snapOf (stIns (S 0) w) (stIns (S 0) w 4 k) = w) → B282 w (sumN (fun j => if 0 < stIns (S 0) w 4 j ∧ v_X1_snapOf (stIns (S 0) w) (stIns (S 0) w 4 j) = w then 1 else 0) k + 1) ((k : Int) + 1) (gset S 10 P') := fun q => by
            have e := cnt_y (p := fun j => 0 < stIns (S 0) w 4 j ∧ v_X1_snapOf (stIns (S 0) w) (stIns (S 0) w 4 j) = w) (k := k) q
            rw [← e]; exact h
          have no : ¬ (0 < stIns (S 0) w 4 k ∧ v_X1_snapOf (stIns (S 0) w) (stIns (S 0) w 4 k) = w) → B282 w (sumN (fun j => if 0 < stIns (S 0) w 4 j ∧ v_X1_snapOf (stIns (S 0) w) (stIns (S 0) w 4 j) = w then 1 else 0) k + 0) ((k : Int) + 1) (gset S 10 P') := fun q => by
            have e := cnt_n (p := fun j => 0 < stIns (S 0) w 4 j ∧ v_X1_snapOf (stIns (S 0) w) (stIns (S 0) w 4 j) = w) (k := k) q
            rw [Int.add_zero, ← e]; exact h
          refine r282 _ _ _ _ ⟨by omega, by omega⟩ ⟨by omega, by omega⟩ ⟨by omega, by omega⟩ (fun _ => ⟨fun _ => ⟨by omega, ⟨by omega, by omega⟩, ?_⟩, fun q => by omega⟩)
          rw [gset_at, e0, ng'.1]
          refine ⟨fun z => ⟨⟨by omega, by omega⟩, ⟨by omega, by omega⟩, ?_⟩, fun z => no (fun q => z (vl.mp q.1).1)⟩
          rw [(rl_many hP.1 (g := (k : Int) / 6) (by omega) z).1.2]
          refine ⟨fun z2 => ⟨⟨by omega, by omega⟩, ?_⟩, fun z2 => no (fun q => z2 (vl.mp q.1).2)⟩
          have pos := vl.mpr ⟨z, z2⟩
          have at4 := rl_at hP.1 (i := (k : Int)) (by omega) (by omega) pos
          rw [at4.1.2.1]
          exact ⟨⟨hP.1, by omega, by omega⟩, fun q => yes ⟨pos, q⟩, fun q => no (fun y => q y.2)⟩
      · omega
    · rw [ef] at d
      rcases stdAt_c hR.1 (w := w) (by omega) with ⟨x1, x2⟩ | ⟨x1, x2⟩
      · omega
      · obtain ⟨a1, a2, a3⟩ := cl_standard hH hn w
        obtain ⟨c1, c2⟩ := std_had (A := S 0) (w := w) ⟨by omega, w1⟩ x1.1
        rw [c2] at a3
        exact ⟨a1, fin _ _ _ (a2.trans c1) (nxt_same hI a3)⟩
    · obtain ⟨a1, a2, a3⟩ := cl_drop hH hn 0
      obtain ⟨c1, c2⟩ := drop_zero (S 0)
      rw [c2] at a3
      have hIM := inv_same hI a3
      have e0 : m_X5_drop S 0 0 = S 0 := a3.1
      have e10 : m_X5_drop S 0 10 = S 10 := a3.2.1
      refine ⟨a1, fun _ => ⟨trivial, fun z => ?_, fun z => hpost _ (nxt_same hI a3)⟩, fun z => absurd (a2.trans c1) z⟩
      rw [e10] at z
      have z : fnL (S 10 7) 1 3 < 0 := z
      rcases stdAt_c hR.1 (w := 1) (by decide) with ⟨x1, x2⟩ | ⟨x1, x2⟩
      · obtain ⟨d1, d2, d3⟩ := cl_drop hIM.2.1 hIM.1.1.1 1
        rw [e0] at d2 d3
        obtain ⟨g1, g2⟩ := drop_none (A := S 0) (w := 1) ⟨by decide, by decide⟩ x1
        rw [g2, ← e0] at d3
        exact ⟨d1, fin _ _ _ (d2.trans g1) (nxt_same hI (st_trans a3 d3))⟩
      · omega
    · rw [ef]
      rcases hw (by omega) with q | ⟨j, j0, j1, jw⟩
      · exact absurd q e
      · rcases stdAt_c hR.1 (w := w) (by omega) with ⟨x1, x2⟩ | ⟨x1, x2⟩
        · rcases fnL_spec (S 10 7) w 3 with y | y
          · exact absurd jw (y.2 j j0 j1)
          · omega
        · obtain ⟨c1, c2⟩ := drop_ok (A := S 0) (w := w) ⟨by omega, w1⟩ x1.1
          have hP := rl_stdOut hR (x := v_X1_standardAt (S 0) w) (f := fnL (S 10 7) w 3) x1.1 x1.2.1 x2.1 x2.2.1 (by rw [x2.2.2]; omega) (by rw [x2.2.2, x1.2.2]) rfl
          refine ⟨⟨by omega, by omega⟩, ?_⟩
          have dn := stDel_01 (S 0) (v_X1_standardAt (S 0) w)
          generalize aset (S 10) 7 (fnL (S 10 7) w 3) 0 = P' at hP ⊢
          have hc := hP.1.2.2.1.2.2.2.2.1
          rw [dn] at hc
          have e0 : gset S 10 P' 0 = S 0 := gset_ne (by decide)
          have n3 := hn.2.1
          have h450 : ∀ y : Int, y = S 0 0 1 - 1 → B450 w y (gset S 10 P') := by
            intro y hy
            refine r450 _ _ _ ⟨by omega, by omega⟩ ⟨by omega, by omega⟩ (fun _ => ?_)
            obtain ⟨a1, a2, a3⟩ := cl_drop (his_10 hH P') (by rw [e0]; exact hn) w
            rw [e0] at a2 a3
            rw [c2] at a3
            refine ⟨a1, fin _ _ _ ?_ (nxt_of hI a3 (gset_ne (by decide)) (by rw [gset_at]; exact hP) ?_)⟩
            · rw [a2, c1, hy]
            · rw [stDel_row (by decide) (by decide)]; omega
          clear hP
          exact ⟨fun z0 => ⟨fun z1 => ⟨fun z2 => h450 _ (by omega), fun z2 => h450 _ (by omega)⟩, fun z1 => ⟨fun z2 => h450 _ (by omega), fun z2 => h450 _ (by omega)⟩⟩, fun z0 => ⟨fun z1 => ⟨fun z2 => h450 _ (by omega), fun z2 => h450 _ (by omega)⟩, fun z1 => ⟨fun z2 => h450 _ (by omega), fun z2 => h450 _ (by omega)⟩⟩⟩
  have h147 : B147 v way S := by
    refine r147 _ _ _ ⟨by omega, by omega⟩ ⟨by omega, by omega⟩ (fun _ => ⟨fun _ => ⟨fun z => ⟨l2, ⟨by omega, by omega⟩, fun _ => h193 _ (by omega) (by omega) (fun q => by omega), fun _ => h193 _ (by omega) (by omega) (fun q => by omega)⟩, fun z => ⟨l2, ⟨by omega, by omega⟩, ?_⟩⟩, fun _ => h467⟩)
    have q := d300 (v % 3) (by omega) (by omega)
    exact h193 _ q.1 q.2 (fun _ => Or.inr ⟨v % 3, by omega, by omega, rfl⟩)
  have h102 : B102 v way S := by
    refine r102 _ _ _ ⟨by omega, by omega⟩ ⟨by omega, by omega⟩ (fun _ => ⟨fun _ => ⟨fun _ => ⟨⟨hI, Or.inl rfl, l2⟩, fun Z _ q => hpost Z q⟩, fun _ => ⟨fun _ => ⟨⟨hI, Or.inr (Or.inl rfl), l2⟩, fun Z _ q => hpost Z q⟩, fun _ => ⟨⟨hI, Or.inr (Or.inr rfl), l2⟩, fun Z _ q => hpost Z q⟩⟩⟩, fun _ => h147⟩)
  -- a glyph
  have h37 : ∀ a : Int, 100 ≤ a → a ≤ 1500 → B37 a S := by
    intro a a0 a1
    refine r37 _ _ ⟨by omega, by omega⟩ (fun _ => ?_)
    rw [aset_row (i := 2) (j := 1) (by decide), aset_row (i := 3) (j := 1) (by decide), aset_row (i := 2) (j := 1) (by decide), ng.1]
    refine ⟨fun z => ?_, fun z => ⟨⟨by omega, by omega⟩, ⟨by omega, by omega⟩, ⟨by omega, by omega⟩, ?_⟩⟩
    · obtain ⟨c1, c2⟩ := glyph_full (A := S 0) z ⟨a0, a1⟩
      obtain ⟨d1, d2, d3⟩ := cl_glyph hH hn a
      rw [c2] at d3
      exact ⟨d1, fin _ _ _ (d2.trans c1) (nxt_same hI d3)⟩
    · have hP := rl_glyphIn hR a0 a1 (by omega) rfl
      obtain ⟨c1, c2⟩ := glyph_ok (A := S 0) ng.2.1 (by omega) ⟨a0, a1⟩
      have e1 : aset (aset (aset (S 10) 2 (S 0 0 0) a) 3 (S 0 0 0) 0) 1 0 (S 0 0 0 + 1) 1 0 = S 0 0 0 + 1 := aset_at _ _ _ _
      generalize aset (aset (aset (S 10) 2 (S 0 0 0) a) 3 (S 0 0 0) 0) 1 0 (S 0 0 0 + 1) = P' at hP e1 ⊢
      have e0 : gset S 10 P' 0 = S 0 := gset_ne (by decide)
      obtain ⟨d1, d2, d3⟩ := cl_glyph (his_10 hH P') (by rw [e0]; exact hn) a
      rw [e0] at d2 d3
      rw [c2] at d3
      have e10 := d3.2.1
      rw [gset_at] at e10
      rw [e10, e1]
      refine ⟨d1, ⟨by omega, by omega⟩, fin _ _ _ ?_ (nxt_of hI d3 (gset_ne (by decide)) (by rw [gset_at]; exact hP) ?_)⟩
      · rw [d2, c1]; omega
      · rw [aset_row (by decide), aset_row (by decide)]; omega
  exact r20 _ _ _ ⟨by omega, by omega⟩ ⟨by omega, by omega⟩ (fun _ => ⟨fun _ => ⟨l2, h37 _ (by omega) (by omega)⟩, fun _ => h102⟩)

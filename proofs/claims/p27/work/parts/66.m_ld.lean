def p_L_stems (S : hS) (way : Int) (yy : Int) : Prop := Inv27 S ∧ (way = 0 ∨ way = 1 ∨ way = 2) ∧ 0 ≤ yy
def q_L_stems (S : hS) (way : Int) (yy : Int) (S1 : hS) : Prop := Nxt S S1
set_option maxHeartbeats 4000000 in
theorem x_L_stems (S : hS) (way : Int) (yy : Int) (h_way : hIn way) (h_yy : hIn yy) (hRS : ∀ (g i : Nat) (k : Int), i < 100 → hIn (S g i k)) (hp : p_L_stems S way yy) (B62 : Int → Int → hS → Prop) (B91 : Int → Int → Int → hS → Prop) (B116 : Int → Int → Int → Int → hS → Prop) (B126 : Int → Int → Int → Int → Int → Int → Int → hS → Prop) (B157 : Int → Int → Int → Int → Int → Int → Int → hS → Prop) (B256 : Int → Int → Int → Int → Int → Int → hS → Prop) (B363 : Int → Int → hS → Prop) (B413 : Int → Int → Int → hS → Prop) (B471 : Int → Int → Int → hS → Prop) (B486 : Int → Int → Int → Int → hS → Prop) (Po : Int → hS → Prop) 
  (r62 : ∀ (y8 : Int) (y9 : Int) (S1 : hS), hIn y8 → hIn y9 → ((∀ (g i : Nat) (k : Int), i < 100 → hIn (S1 g i k)) → ((way = 0 → (0 ≤ yy ∧ (hIn (yy % 3) ∧ (((yy % 3) = 0 → (hIn (yy / 8) ∧ (0 ≤ (yy / 8) ∧ (B91 y8 y9 ((yy / 8) % 1000) S1)))) ∧ (¬ (yy % 3) = 0 → (hIn (yy / 8) ∧ (0 ≤ (yy / 8) ∧ (B91 y8 y9 ((yy / 8) % 700) S1)))))))) ∧ (¬ way = 0 → (B363 y8 y9 S1)))) → (B62 y8 y9 S1)) 
  (r91 : ∀ (y8 : Int) (y9 : Int) (y10 : Int) (S1 : hS), hIn y8 → hIn y9 → hIn y10 → ((∀ (g i : Nat) (k : Int), i < 100 → hIn (S1 g i k)) → (0 ≤ yy ∧ (hIn (yy % 5) ∧ (((yy % 5) = 0 → (hIn (yy / 7) ∧ (0 ≤ (yy / 7) ∧ (B116 y8 y9 y10 (1 + ((yy / 7) % 300)) S1)))) ∧ (¬ (yy % 5) = 0 → (hIn (yy / 7) ∧ (0 ≤ (yy / 7) ∧ (B116 y8 y9 y10 (1 + ((yy / 7) % 90)) S1)))))))) → (B91 y8 y9 y10 S1)) 
  (r116 : ∀ (y8 : Int) (y9 : Int) (y10 : Int) (y11 : Int) (S1 : hS), hIn y8 → hIn y9 → hIn y10 → hIn y11 → ((∀ (g i : Nat) (k : Int), i < 100 → hIn (S1 g i k)) → (B126 y8 y9 y10 y11 0 0 y9 S1)) → (B116 y8 y9 y10 y11 S1)) 
  (r126 : ∀ (y8 : Int) (y9 : Int) (y10 : Int) (y11 : Int) (y12 : Int) (y13 : Int) (y14 : Int) (S1 : hS), hIn y8 → hIn y9 → hIn y10 → hIn y11 → hIn y12 → hIn y13 → hIn y14 → ((∀ (g i : Nat) (k : Int), i < 100 → hIn (S1 g i k)) → ((0 ≤ y8 ∧ y8 < 8) ∧ (hIn (y9 + ((S1 10) 3 y8)) ∧ ((y14 < (y9 + ((S1 10) 3 y8)) → ((0 ≤ y14 ∧ y14 < 49) ∧ ((((S1 10) 4 y14) < y10 → (B157 y8 y9 y10 y11 (y12 + 1) y13 y14 S1)) ∧ (¬ ((S1 10) 4 y14) < y10 → (B157 y8 y9 y10 y11 (y12 + 0) y13 y14 S1))))) ∧ (¬ y14 < (y9 + ((S1 10) 3 y8)) → ((y13 = 0 → ((((S1 10) 3 y8) = 6 → (p_X5_stem S1 y8 y10 y11 ∧ (((v_X5_stem S1 y8 y10 y11) = (-1000003) → (Po 1 (m_X5_stem S1 y8 y10 y11))) ∧ (¬ (v_X5_stem S1 y8 y10 y11) = (-1000003) → (Po 0 (m_X5_stem S1 y8 y10 y11)))))) ∧ (¬ ((S1 10) 3 y8) = 6 → (B256 y8 y9 y10 y11 y12 (y9 + ((S1 10) 3 y8)) S1)))) ∧ (¬ y13 = 0 → (p_X5_stem S1 y8 y10 y11 ∧ (((v_X5_stem S1 y8 y10 y11) = (-1000002) → (Po 1 (m_X5_stem S1 y8 y10 y11))) ∧ (¬ (v_X5_stem S1 y8 y10 y11) = (-1000002) → (Po 0 (m_X5_stem S1 y8 y10 y11)))))))))))) → (B126 y8 y9 y10 y11 y12 y13 y14 S1)) 
  (r157 : ∀ (y8 : Int) (y9 : Int) (y10 : Int) (y11 : Int) (y12 : Int) (y13 : Int) (y14 : Int) (S1 : hS), hIn y8 → hIn y9 → hIn y10 → hIn y11 → hIn y12 → hIn y13 → hIn y14 → ((∀ (g i : Nat) (k : Int), i < 100 → hIn (S1 g i k)) → ((y13 = 0 → ((0 ≤ y14 ∧ y14 < 49) ∧ (hIn (((S1 10) 4 y14) + ((S1 10) 5 y14)) ∧ ((y10 < (((S1 10) 4 y14) + ((S1 10) 5 y14)) → (hIn (y10 + y11) ∧ ((((S1 10) 4 y14) < (y10 + y11) → (B126 y8 y9 y10 y11 y12 1 (y14 + 1) S1)) ∧ (¬ ((S1 10) 4 y14) < (y10 + y11) → (B126 y8 y9 y10 y11 y12 0 (y14 + 1) S1))))) ∧ (¬ y10 < (((S1 10) 4 y14) + ((S1 10) 5 y14)) → (B126 y8 y9 y10 y11 y12 0 (y14 + 1) S1)))))) ∧ (¬ y13 = 0 → (B126 y8 y9 y10 y11 y12 1 (y14 + 1) S1)))) → (B157 y8 y9 y10 y11 y12 y13 y14 S1)) 
  (r256 : ∀ (y8 : Int) (y9 : Int) (y10 : Int) (y11 : Int) (y12 : Int) (y14 : Int) (S1 : hS), hIn y8 → hIn y9 → hIn y10 → hIn y11 → hIn y12 → hIn y14 → ((∀ (g i : Nat) (k : Int), i < 100 → hIn (S1 g i k)) → (hIn (y9 + y12) ∧ ((y14 ≤ (y9 + y12) → ((0 ≤ (y9 + y12) ∧ (y9 + y12) < 49) ∧ ((0 ≤ y8 ∧ y8 < 8) ∧ (hIn (((aset (aset (aset (S1 10) 4 (y9 + y12) y10) 5 (y9 + y12) y11) 6 (y9 + y12) 0) 3 y8) + 1) ∧ (p_X5_stem (gset S1 10 (aset (aset (aset (aset (S1 10) 4 (y9 + y12) y10) 5 (y9 + y12) y11) 6 (y9 + y12) 0) 3 y8 (((aset (aset (aset (S1 10) 4 (y9 + y12) y10) 5 (y9 + y12) y11) 6 (y9 + y12) 0) 3 y8) + 1))) y8 y10 y11 ∧ (((v_X5_stem (gset S1 10 (aset (aset (aset (aset (S1 10) 4 (y9 + y12) y10) 5 (y9 + y12) y11) 6 (y9 + y12) 0) 3 y8 (((aset (aset (aset (S1 10) 4 (y9 + y12) y10) 5 (y9 + y12) y11) 6 (y9 + y12) 0) 3 y8) + 1))) y8 y10 y11) = y12 → (Po 1 (m_X5_stem (gset S1 10 (aset (aset (aset (aset (S1 10) 4 (y9 + y12) y10) 5 (y9 + y12) y11) 6 (y9 + y12) 0) 3 y8 (((aset (aset (aset (S1 10) 4 (y9 + y12) y10) 5 (y9 + y12) y11) 6 (y9 + y12) 0) 3 y8) + 1))) y8 y10 y11))) ∧ (¬ (v_X5_stem (gset S1 10 (aset (aset (aset (aset (S1 10) 4 (y9 + y12) y10) 5 (y9 + y12) y11) 6 (y9 + y12) 0) 3 y8 (((aset (aset (aset (S1 10) 4 (y9 + y12) y10) 5 (y9 + y12) y11) 6 (y9 + y12) 0) 3 y8) + 1))) y8 y10 y11) = y12 → (Po 0 (m_X5_stem (gset S1 10 (aset (aset (aset (aset (S1 10) 4 (y9 + y12) y10) 5 (y9 + y12) y11) 6 (y9 + y12) 0) 3 y8 (((aset (aset (aset (S1 10) 4 (y9 + y12) y10) 5 (y9 + y12) y11) 6 (y9 + y12) 0) 3 y8) + 1))) y8 y10 y11))))))))) ∧ (¬ y14 ≤ (y9 + y12) → ((0 ≤ (y14 - 1) ∧ (y14 - 1) < 49) ∧ ((0 ≤ y14 ∧ y14 < 49) ∧ (B256 y8 y9 y10 y11 y12 (y14 + (-1)) (gset S1 10 (aset (aset (aset (S1 10) 4 y14 ((S1 10) 4 (y14 - 1))) 5 y14 ((aset (S1 10) 4 y14 ((S1 10) 4 (y14 - 1))) 5 (y14 - 1))) 6 y14 ((aset (aset (S1 10) 4 y14 ((S1 10) 4 (y14 - 1))) 5 y14 ((aset (S1 10) 4 y14 ((S1 10) 4 (y14 - 1))) 5 (y14 - 1))) 6 (y14 - 1))))))))))) → (B256 y8 y9 y10 y11 y12 y14 S1)) 
  (r363 : ∀ (y8 : Int) (y9 : Int) (S1 : hS), hIn y8 → hIn y9 → ((∀ (g i : Nat) (k : Int), i < 100 → hIn (S1 g i k)) → ((0 ≤ y8 ∧ y8 < 8) ∧ ((((S1 10) 3 y8) = 0 → (p_X5_cut S1 y8 0 ∧ (((v_X5_cut S1 y8 0) = (-1000001) → (p_X5_hint (m_X5_cut S1 y8 0) y8 0 1 ∧ (((v_X5_hint (m_X5_cut S1 y8 0) y8 0 1) = (-1000001) → (Po 1 (m_X5_hint (m_X5_cut S1 y8 0) y8 0 1))) ∧ (¬ (v_X5_hint (m_X5_cut S1 y8 0) y8 0 1) = (-1000001) → (Po 0 (m_X5_hint (m_X5_cut S1 y8 0) y8 0 1)))))) ∧ (¬ (v_X5_cut S1 y8 0) = (-1000001) → (Po 0 (m_X5_cut S1 y8 0)))))) ∧ (¬ ((S1 10) 3 y8) = 0 → (0 ≤ yy ∧ (hIn (yy / 8) ∧ (0 ≤ (yy / 8) ∧ (0 < ((S1 10) 3 y8) ∧ (B413 y8 y9 ((yy / 8) % ((S1 10) 3 y8)) S1))))))))) → (B363 y8 y9 S1)) 
  (r413 : ∀ (y8 : Int) (y9 : Int) (y10 : Int) (S1 : hS), hIn y8 → hIn y9 → hIn y10 → ((∀ (g i : Nat) (k : Int), i < 100 → hIn (S1 g i k)) → ((way = 1 → ((0 ≤ (y9 + y10) ∧ (y9 + y10) < 49) ∧ (0 ≤ yy ∧ (hIn (yy / 48) ∧ (0 ≤ (yy / 48) ∧ (hIn ((yy / 48) % 4) ∧ (p_X5_hint (gset S1 10 (aset (S1 10) 6 (y9 + y10) ((yy / 48) % 4))) y8 y10 ((aset (S1 10) 6 (y9 + y10) ((yy / 48) % 4)) 6 (y9 + y10)) ∧ (((v_X5_hint (gset S1 10 (aset (S1 10) 6 (y9 + y10) ((yy / 48) % 4))) y8 y10 ((aset (S1 10) 6 (y9 + y10) ((yy / 48) % 4)) 6 (y9 + y10))) = ((S1 10) 6 (y9 + y10)) → (Po 1 (m_X5_hint (gset S1 10 (aset (S1 10) 6 (y9 + y10) ((yy / 48) % 4))) y8 y10 ((aset (S1 10) 6 (y9 + y10) ((yy / 48) % 4)) 6 (y9 + y10))))) ∧ (¬ (v_X5_hint (gset S1 10 (aset (S1 10) 6 (y9 + y10) ((yy / 48) % 4))) y8 y10 ((aset (S1 10) 6 (y9 + y10) ((yy / 48) % 4)) 6 (y9 + y10))) = ((S1 10) 6 (y9 + y10)) → (Po 0 (m_X5_hint (gset S1 10 (aset (S1 10) 6 (y9 + y10) ((yy / 48) % 4))) y8 y10 ((aset (S1 10) 6 (y9 + y10) ((yy / 48) % 4)) 6 (y9 + y10))))))))))))) ∧ (¬ way = 1 → (B471 y8 y9 y10 S1)))) → (B413 y8 y9 y10 S1)) 
  (r471 : ∀ (y8 : Int) (y9 : Int) (y10 : Int) (S1 : hS), hIn y8 → hIn y9 → hIn y10 → ((∀ (g i : Nat) (k : Int), i < 100 → hIn (S1 g i k)) → ((0 ≤ y8 ∧ y8 < 8) ∧ (hIn (((S1 10) 3 y8) - 1) ∧ (B486 y8 y9 y10 (y9 + y10) (gset S1 10 (aset (S1 10) 3 y8 (((S1 10) 3 y8) - 1))))))) → (B471 y8 y9 y10 S1)) 
  (r486 : ∀ (y8 : Int) (y9 : Int) (y10 : Int) (y11 : Int) (S1 : hS), hIn y8 → hIn y9 → hIn y10 → hIn y11 → ((∀ (g i : Nat) (k : Int), i < 100 → hIn (S1 g i k)) → ((0 ≤ y8 ∧ y8 < 8) ∧ (hIn (y9 + ((S1 10) 3 y8)) ∧ ((y11 < (y9 + ((S1 10) 3 y8)) → ((0 ≤ (y11 + 1) ∧ (y11 + 1) < 49) ∧ ((0 ≤ y11 ∧ y11 < 49) ∧ (B486 y8 y9 y10 (y11 + 1) (gset S1 10 (aset (aset (aset (S1 10) 4 y11 ((S1 10) 4 (y11 + 1))) 5 y11 ((aset (S1 10) 4 y11 ((S1 10) 4 (y11 + 1))) 5 (y11 + 1))) 6 y11 ((aset (aset (S1 10) 4 y11 ((S1 10) 4 (y11 + 1))) 5 y11 ((aset (S1 10) 4 y11 ((S1 10) 4 (y11 + 1))) 5 (y11 + 1))) 6 (y11 + 1)))))))) ∧ (¬ y11 < (y9 + ((S1 10) 3 y8)) → (p_X5_cut S1 y8 y10 ∧ (((v_X5_cut S1 y8 y10) = (((m_X5_cut S1 y8 y10) 10) 3 y8) → (Po 1 (m_X5_cut S1 y8 y10))) ∧ (¬ (v_X5_cut S1 y8 y10) = (((m_X5_cut S1 y8 y10) 10) 3 y8) → (Po 0 (m_X5_cut S1 y8 y10)))))))))) → (B486 y8 y9 y10 y11 S1)) 
  (hpost : ∀ S2 : hS, q_L_stems S way yy S2 → Po 1 S2) : ((((S 10) 1 0) = 0 → (p_X5_stem S 0 0 1 ∧ (((v_X5_stem S 0 0 1) = (-1000001) → (p_X5_cut (m_X5_stem S 0 0 1) 0 0 ∧ (((v_X5_cut (m_X5_stem S 0 0 1) 0 0) = (-1000001) → (p_X5_hint (m_X5_cut (m_X5_stem S 0 0 1) 0 0) 0 0 0 ∧ (((v_X5_hint (m_X5_cut (m_X5_stem S 0 0 1) 0 0) 0 0 0) = (-1000001) → (Po 1 (m_X5_hint (m_X5_cut (m_X5_stem S 0 0 1) 0 0) 0 0 0))) ∧ (¬ (v_X5_hint (m_X5_cut (m_X5_stem S 0 0 1) 0 0) 0 0 0) = (-1000001) → (Po 0 (m_X5_hint (m_X5_cut (m_X5_stem S 0 0 1) 0 0) 0 0 0)))))) ∧ (¬ (v_X5_cut (m_X5_stem S 0 0 1) 0 0) = (-1000001) → (Po 0 (m_X5_cut (m_X5_stem S 0 0 1) 0 0)))))) ∧ (¬ (v_X5_stem S 0 0 1) = (-1000001) → (Po 0 (m_X5_stem S 0 0 1)))))) ∧ (¬ ((S 10) 1 0) = 0 → (0 ≤ yy ∧ (0 < ((S 10) 1 0) ∧ (B62 (yy % ((S 10) 1 0)) (6 * (yy % ((S 10) 1 0))) S))))) := by
  obtain ⟨hI, hway, hy0⟩ := hp
  have hpost : ∀ S2 : hS, Nxt S S2 → Po 1 S2 := hpost
  have hy1 : yy ≤ 2147483647 := h_yy.2
  have hR := hI.1
  have hH := hI.2.1
  have hn := hR.1.1
  have ng := rl_g hR.1
  have fin : ∀ (v k : Int) (M : hS), v = k → Nxt S M → (v = k → Po 1 M) ∧ (¬ v = k → Po 0 M) := fun v k M e q => ⟨fun _ => hpost M q, fun z => absurd e z⟩
  -- a refused hint and a refused cut
  have hin : ∀ g k v : Int, ¬ ((0 ≤ g ∧ g < S 0 0 0) ∧ 0 ≤ k ∧ k < S 0 2 g) → ∀ M : hS, St27 S M (S 0) → p_X5_hint M g k v ∧ v_X5_hint M g k v = -1000001 ∧ Nxt S (m_X5_hint M g k v) := by
    intro g k v hg M hM
    have hIM := inv_same hI hM
    obtain ⟨a1, a2, a3⟩ := cl_hint hIM.2.1 hIM.1.1.1 g k v
    have e : M 0 = S 0 := hM.1
    obtain ⟨b1, b2⟩ := hint_bad (A := M 0) hIM.1.1.1 (g := g) (k := k) (v := v) (by rw [e]; exact hg)
    rw [b2] at a3
    exact ⟨a1, a2.trans b1, nxt_same hI (st_trans hM a3)⟩
  have cut : ∀ g k : Int, ¬ ((0 ≤ g ∧ g < S 0 0 0) ∧ 0 ≤ k ∧ k < S 0 2 g) → ∀ M : hS, St27 S M (S 0) → p_X5_cut M g k ∧ v_X5_cut M g k = -1000001 ∧ St27 S (m_X5_cut M g k) (S 0) := by
    intro g k hg M hM
    have hIM := inv_same hI hM
    obtain ⟨a1, a2, a3⟩ := cl_cut hIM.2.1 hIM.1.1.1 g k
    have e : M 0 = S 0 := hM.1
    obtain ⟨b1, b2⟩ := cut_bad (A := M 0) hIM.1.1.1 (g := g) (k := k) (by rw [e]; exact hg)
    rw [b2] at a3
    exact ⟨a1, a2.trans b1, st_trans hM a3⟩
  have self : St27 S S (S 0) := ⟨rfl, rfl, rfl, hH⟩
  constructor
  · -- no glyph
    intro c
    have c0 : ¬ ∃ g : Int, 0 ≤ g ∧ g < S 0 0 0 := by rintro ⟨g, a, b⟩; omega
    obtain ⟨a1, a2, a3⟩ := cl_stem hH hn 0 0 1
    obtain ⟨b1, b2⟩ := stem_bad (A := S 0) (g := 0) (p := 0) (w := 1) (fun z => c0 ⟨0, z⟩)
    rw [b2] at a3
    obtain ⟨d1, d2, d3⟩ := cut 0 0 (fun z => c0 ⟨0, z.1⟩) _ a3
    obtain ⟨f1, f2, f3⟩ := hin 0 0 0 (fun z => c0 ⟨0, z.1⟩) _ d3
    exact ⟨a1, fun _ => ⟨d1, fun _ => ⟨f1, fin _ _ _ f2 f3⟩, fun z => absurd d2 z⟩, fun z => absurd (a2.trans b1) z⟩
  · intro c
    refine ⟨hy0, by omega, ?_⟩
    have gp : 0 < S 10 1 0 := by omega
    have gr : 0 ≤ yy % S 10 1 0 ∧ yy % S 10 1 0 < S 0 0 0 := ⟨Int.emod_nonneg _ (by omega), by have := Int.emod_lt_of_pos yy gp; omega⟩
    generalize yy % S 10 1 0 = g at gr ⊢
    have g8 : g < 8 := by omega
    have mg := rl_many hR.1 gr.1 gr.2
    have e2 : (((S 0 2 g).toNat : Nat) : Int) = S 0 2 g := Int.toNat_of_nonneg mg.2.2.1
    rw [show 6 * g = g * 6 by omega]
    have st := fun (k : Int) (a : 0 ≤ k) (b : k < S 0 2 g) => rl_stem hR.1 (g := g) (k := k) gr.1 g8 a b
    -- a stem comes
    have hstem : ∀ p w : Int, 0 ≤ p → p ≤ 999 → 1 ≤ w → w ≤ 300 → B116 g (g * 6) p w S := by
      intro p w p0 p1 w0 w1
      obtain ⟨s1, s2⟩ := stem_ok (A := S 0) (p := p) (w := w) gr ⟨p0, p1⟩ ⟨w0, w1⟩
      have lb := lf_first hR.1 gr.1 g8 p
      refine r116 _ _ _ _ _ ⟨by omega, by omega⟩ ⟨by omega, by omega⟩ ⟨by omega, by omega⟩ ⟨by omega, by omega⟩ (fun _ => ?_)
      have key := upN (C := fun k => B126 g (g * 6) p w (lfN (S 0) g p k) (ovN (S 0) g p w k) (g * 6 + k) S) (S 0 2 g).toNat ?_ ?_
      · rw [show g * 6 + ((0 : Nat) : Int) = g * 6 by omega] at key
        exact key
      · have o1 := ovN_01 (S 0) g p w (S 0 2 g).toNat
        have oc := ovAt_c (A := S 0) (g := g) (p := p) (w := w) mg.2.2.1
        refine r126 _ _ _ _ _ _ _ _ ⟨by omega, by omega⟩ ⟨by omega, by omega⟩ ⟨by omega, by omega⟩ ⟨by omega, by omega⟩ ⟨by omega, by omega⟩ ⟨by omega, by omega⟩ ⟨by omega, by omega⟩ (fun _ => ?_)
        rw [mg.1.2]
        refine ⟨⟨gr.1, g8⟩, ⟨by omega, by omega⟩, fun z => by omega, fun _ => ⟨fun z => ⟨fun z2 => ?_, fun z2 => ?_⟩, fun z => ?_⟩⟩
        · -- full
          obtain ⟨a1, a2, a3⟩ := cl_stem hH hn g p w
          rw [if_neg (fun q => q (oc.mpr z)), if_neg (by omega)] at s1 s2
          rw [s2] at a3
          exact ⟨a1, fin _ _ _ (a2.trans s1) (nxt_same hI a3)⟩
        · -- it comes
          rw [if_neg (fun q => q (oc.mpr z)), if_pos (by omega)] at s1 s2
          have clr := (ovN_c (S 0) g p w (S 0 2 g).toNat).mp z
          generalize lfN (S 0) g p (S 0 2 g).toNat = i at lb s1 s2 ⊢
          have down : ∀ (d : Nat) (y : Int), y = g * 6 + i + d → y ≤ g * 6 + S 0 2 g → B256 g (g * 6) p w i y (gset S 10 (mvR (S 10) y (g * 6 + S 0 2 g))) := by
            intro d
            induction d with
            | zero =>
              intro y hy hy2
              have hy : y = g * 6 + i := by omega
              subst hy
              refine r256 _ _ _ _ _ _ _ ⟨by omega, by omega⟩ ⟨by omega, by omega⟩ ⟨by omega, by omega⟩ ⟨by omega, by omega⟩ ⟨by omega, by omega⟩ ⟨by omega, by omega⟩ (fun _ => ?_)
              rw [gset_at, gset_gset]
              have e3 : aset (aset (aset (mvR (S 10) (g * 6 + i) (g * 6 + S 0 2 g)) 4 (g * 6 + i) p) 5 (g * 6 + i) w) 6 (g * 6 + i) 0 3 g = S 0 2 g := by
                rw [aset_row (by decide), aset_row (by decide), aset_row (by decide), mvR_row (by decide)]
                exact mg.1.2
              rw [e3]
              have hP := rl_stemIn hR (n := i) gr.1 gr.2 p0 p1 w0 w1 (by omega) lb.1.1 lb.1.2 (fun q => by
                have a := clr (i - 1) (by omega) (by omega)
                have b := (lb.2 (i - 1) (by omega) (by omega)).mpr (by omega)
                omega) (fun q => by
                have a := clr i (by omega) (by omega)
                have b := lb.2 i (by omega) q
                have s := (st i (by omega) q).2.2.1
                omega) rfl
              generalize aset (aset (aset (aset (mvR (S 10) (g * 6 + i) (g * 6 + S 0 2 g)) 4 (g * 6 + i) p) 5 (g * 6 + i) w) 6 (g * 6 + i) 0) 3 g (S 0 2 g + 1) = P' at hP ⊢
              have e0 : gset S 10 P' 0 = S 0 := gset_ne (by decide)
              obtain ⟨a1, a2, a3⟩ := cl_stem (his_10 hH P') (by rw [e0]; exact hn) g p w
              rw [e0] at a2 a3
              rw [s2] at a3
              refine ⟨⟨by omega, by omega⟩, fun _ => ⟨⟨by omega, by omega⟩, ⟨gr.1, g8⟩, ⟨by omega, by omega⟩, a1, fin _ _ _ (a2.trans s1) (nxt_of hI a3 (gset_ne (by decide)) (by rw [gset_at]; exact hP) ?_)⟩, fun q => by omega⟩
              have e7 : aset (put3 (shR (S 0) (g * 6 + i) (g * 6 + S 0 2 g)) (g * 6 + i) p w 0) 2 g (S 0 2 g + 1) 7 0 = S 0 7 0 := by
                rw [aset_row (by decide)]
                unfold put3 shR
                by_cases q : (0 : Int) = g * 6 + i
                · rw [if_pos q, if_neg (by decide), if_neg (by decide), if_neg (by decide), if_neg (by omega)]
                · rw [if_neg q, if_neg (by omega)]
              have b7 := hI.2.2.2
              rw [e7]; omega
            | succ d ihd =>
              intro y hy hy2
              refine r256 _ _ _ _ _ _ _ ⟨by omega, by omega⟩ ⟨by omega, by omega⟩ ⟨by omega, by omega⟩ ⟨by omega, by omega⟩ ⟨by omega, by omega⟩ ⟨by omega, by omega⟩ (fun _ => ⟨⟨by omega, by omega⟩, fun q => by omega, fun _ => ⟨⟨by omega, by omega⟩, ⟨by omega, by omega⟩, ?_⟩⟩)
              rw [gset_at, gset_gset, mvR_step hy2, show y + -1 = y - 1 by omega]
              exact ihd (y - 1) (by omega) (by omega)
          have q := down (S 0 2 g - i).toNat (g * 6 + S 0 2 g) (by omega) (by omega)
          rw [mvR_0, gset_self] at q
          exact q
        · -- one lies in the way
          obtain ⟨a1, a2, a3⟩ := cl_stem hH hn g p w
          rw [if_pos (fun q => z (oc.mp q))] at s1 s2
          rw [s2] at a3
          exact ⟨a1, fin _ _ _ (a2.trans s1) (nxt_same hI a3)⟩
      · intro k hk h
        have hk6 : (k : Int) < S 0 2 g := by omega
        have sk := st k (by omega) hk6
        have o1 := ovN_01 (S 0) g p w k
        have lk := cnt_bd (fun j => S 0 3 (g * 6 + j) < p) k
        have lk : 0 ≤ lfN (S 0) g p k ∧ lfN (S 0) g p k ≤ k := lk
        have el : lfN (S 0) g p (k + 1) = lfN (S 0) g p k + (if S 0 3 (g * 6 + k) < p then 1 else 0) := rfl
        have eo : ovN (S 0) g p w (k + 1) = if ovN (S 0) g p w k = 0 then (if p < S 0 3 (g * 6 + k) + S 0 4 (g * 6 + k) ∧ S 0 3 (g * 6 + k) < p + w then 1 else 0) else 1 := rfl
        rw [el, eo, show g * 6 + ((k + 1 : Nat) : Int) = g * 6 + k + 1 by omega] at h
        have h157 : B157 g (g * 6) p w (lfN (S 0) g p k + (if S 0 3 (g * 6 + k) < p then 1 else 0)) (ovN (S 0) g p w k) (g * 6 + k) S := by
          refine r157 _ _ _ _ _ _ _ _ ⟨by omega, by omega⟩ ⟨by omega, by omega⟩ ⟨by omega, by omega⟩ ⟨by omega, by omega⟩ ⟨by split <;> omega, by split <;> omega⟩ ⟨by omega, by omega⟩ ⟨by omega, by omega⟩ (fun _ => ?_)
          rw [sk.1.1, sk.1.2.1]
          refine ⟨fun z => ⟨⟨by omega, by omega⟩, ⟨by omega, by omega⟩, fun z2 => ⟨⟨by omega, by omega⟩, fun z3 => ?_, fun z3 => ?_⟩, fun z2 => ?_⟩, fun z => ?_⟩
          · rw [if_pos z, if_pos (show p < S 0 3 (g * 6 + k) + S 0 4 (g * 6 + k) ∧ S 0 3 (g * 6 + k) < p + w from ⟨z2, z3⟩)] at h; exact h
          · rw [if_pos z, if_neg (show ¬ (p < S 0 3 (g * 6 + k) + S 0 4 (g * 6 + k) ∧ S 0 3 (g * 6 + k) < p + w) from fun q => z3 q.2)] at h; exact h
          · rw [if_pos z, if_neg (show ¬ (p < S 0 3 (g * 6 + k) + S 0 4 (g * 6 + k) ∧ S 0 3 (g * 6 + k) < p + w) from fun q => z2 q.1)] at h; exact h
          · rw [if_neg z] at h; exact h
        refine r126 _ _ _ _ _ _ _ _ ⟨by omega, by omega⟩ ⟨by omega, by omega⟩ ⟨by omega, by omega⟩ ⟨by omega, by omega⟩ ⟨by omega, by omega⟩ ⟨by omega, by omega⟩ ⟨by omega, by omega⟩ (fun _ => ?_)
        rw [mg.1.2, sk.1.1]
        refine ⟨⟨gr.1, g8⟩, ⟨by omega, by omega⟩, fun _ => ⟨⟨by omega, by omega⟩, fun z => ?_, fun z => ?_⟩, fun z => by omega⟩
        · rw [if_pos z] at h157; exact h157
        · rw [if_neg z] at h157; exact h157
    -- hints and cuts
    have h363 : way = 1 ∨ way = 2 → B363 g (g * 6) S := by
      intro hw
      refine r363 _ _ _ ⟨by omega, by omega⟩ ⟨by omega, by omega⟩ (fun _ => ?_)
      rw [mg.1.2]
      refine ⟨⟨gr.1, g8⟩, fun z => ?_, fun z => ⟨hy0, ⟨by omega, by omega⟩, by omega, by omega, ?_⟩⟩
      · have no : ∀ k : Int, ¬ ((0 ≤ g ∧ g < S 0 0 0) ∧ 0 ≤ k ∧ k < S 0 2 g) := fun k q => by omega
        obtain ⟨d1, d2, d3⟩ := cut g 0 (no 0) _ self
        obtain ⟨f1, f2, f3⟩ := hin g 0 1 (no 0) _ d3
        exact ⟨d1, fun _ => ⟨f1, fin _ _ _ f2 f3⟩, fun q => absurd d2 q⟩
      have m0 : 0 < S 0 2 g := by omega
      have ir : 0 ≤ yy / 8 % S 0 2 g ∧ yy / 8 % S 0 2 g < S 0 2 g := ⟨Int.emod_nonneg _ (by omega), Int.emod_lt_of_pos _ m0⟩
      generalize yy / 8 % S 0 2 g = i at ir ⊢
      have si := st i ir.1 ir.2
      refine r413 _ _ _ _ ⟨by omega, by omega⟩ ⟨by omega, by omega⟩ ⟨by omega, by omega⟩ (fun _ => ⟨fun z1 => ⟨⟨by omega, by omega⟩, hy0, ⟨by omega, by omega⟩, by omega, ⟨by omega, by omega⟩, ?_⟩, fun z1 => ?_⟩)
      · have vr : 0 ≤ yy / 48 % 4 ∧ yy / 48 % 4 ≤ 3 := by omega
        generalize yy / 48 % 4 = v at vr ⊢
        rw [aset_at, si.1.2.2]
        have hP := rl_hintSet hR gr.1 gr.2 ir.1 ir.2 vr.1 vr.2 (show aset (S 10) 6 (g * 6 + i) v = aset (S 10) 6 (6 * g + i) v by rw [show 6 * g + i = g * 6 + i by omega])
        obtain ⟨b1, b2⟩ := hint_ok hn ⟨gr, ir⟩ vr
        generalize aset (S 10) 6 (g * 6 + i) v = P' at hP ⊢
        have e0 : gset S 10 P' 0 = S 0 := gset_ne (by decide)
        obtain ⟨a1, a2, a3⟩ := cl_hint (his_10 hH P') (by rw [e0]; exact hn) g i v
        rw [e0] at a2 a3
        rw [b2] at a3
        refine ⟨a1, fin _ _ _ (a2.trans b1) (nxt_of hI a3 (gset_ne (by decide)) (by rw [gset_at]; exact hP) ?_)⟩
        rw [aset_row (by decide)]
        have b7 := hI.2.2.2
        omega
      · refine r471 _ _ _ _ ⟨by omega, by omega⟩ ⟨by omega, by omega⟩ ⟨by omega, by omega⟩ (fun _ => ?_)
        rw [mg.1.2]
        refine ⟨⟨gr.1, g8⟩, ⟨by omega, by omega⟩, ?_⟩
        have key := upI (C := fun y => B486 g (g * 6) i y (gset S 10 (mvL (aset (S 10) 3 g (S 0 2 g - 1)) (g * 6 + i) y))) (lo := g * 6 + i) (hi := g * 6 + (S 0 2 g - 1)) (by omega) ?_ ?_
        · have key : B486 g (g * 6) i (g * 6 + i) (gset S 10 (mvL (aset (S 10) 3 g (S 0 2 g - 1)) (g * 6 + i) (g * 6 + i))) := key
          rw [mvL_0] at key
          exact key
        · have e3 : mvL (aset (S 10) 3 g (S 0 2 g - 1)) (g * 6 + i) (g * 6 + (S 0 2 g - 1)) 3 g = S 0 2 g - 1 := by rw [mvL_row (by decide), aset_at]
          have hP := rl_stemOut hR gr.1 gr.2 ir.1 ir.2 rfl
          obtain ⟨b1, b2⟩ := cut_ok hn ⟨gr, ir⟩
          show B486 g (g * 6) i (g * 6 + (S 0 2 g - 1)) (gset S 10 (mvL (aset (S 10) 3 g (S 0 2 g - 1)) (g * 6 + i) (g * 6 + (S 0 2 g - 1))))
          generalize mvL (aset (S 10) 3 g (S 0 2 g - 1)) (g * 6 + i) (g * 6 + (S 0 2 g - 1)) = P' at e3 hP ⊢
          refine r486 _ _ _ _ _ ⟨by omega, by omega⟩ ⟨by omega, by omega⟩ ⟨by omega, by omega⟩ ⟨by omega, by omega⟩ (fun _ => ?_)
          have e0 : gset S 10 P' 0 = S 0 := gset_ne (by decide)
          obtain ⟨a1, a2, a3⟩ := cl_cut (his_10 hH P') (by rw [e0]; exact hn) g i
          rw [e0] at a2 a3
          rw [b2] at a3
          have e10 := a3.2.1
          rw [gset_at] at e10
          rw [gset_at, e10, e3]
          refine ⟨⟨gr.1, g8⟩, ⟨by omega, by omega⟩, fun q => by omega, fun _ => ⟨a1, fin _ _ _ (a2.trans b1) (nxt_of hI a3 (gset_ne (by decide)) (by rw [gset_at]; exact hP) ?_)⟩⟩
          have e7 : aset (put3 (shL (S 0) (g * 6 + i) (g * 6 + (S 0 2 g - 1))) (g * 6 + (S 0 2 g - 1)) 0 0 0) 2 g (S 0 2 g - 1) 7 0 = S 0 7 0 := by
            rw [aset_row (by decide)]
            unfold put3 shL
            by_cases q : (0 : Int) = g * 6 + (S 0 2 g - 1)
            · rw [if_pos q, if_neg (by decide), if_neg (by decide), if_neg (by decide), if_neg (by omega)]
            · rw [if_neg q, if_neg (by omega)]
          have b7 := hI.2.2.2
          rw [e7]; omega
        · intro y y0 y1 h
          have h : B486 g (g * 6) i (y + 1) (gset S 10 (mvL (aset (S 10) 3 g (S 0 2 g - 1)) (g * 6 + i) (y + 1))) := h
          show B486 g (g * 6) i y (gset S 10 (mvL (aset (S 10) 3 g (S 0 2 g - 1)) (g * 6 + i) y))
          have e3 : mvL (aset (S 10) 3 g (S 0 2 g - 1)) (g * 6 + i) y 3 g = S 0 2 g - 1 := by rw [mvL_row (by decide), aset_at]
          refine r486 _ _ _ _ _ ⟨by omega, by omega⟩ ⟨by omega, by omega⟩ ⟨by omega, by omega⟩ ⟨by omega, by omega⟩ (fun _ => ?_)
          rw [gset_at, gset_gset, e3, mvL_step y0]
          exact ⟨⟨gr.1, g8⟩, ⟨by omega, by omega⟩, fun _ => ⟨⟨by omega, by omega⟩, ⟨by omega, by omega⟩, h⟩, fun q => by omega⟩
    have h91 : ∀ p : Int, 0 ≤ p → p ≤ 999 → B91 g (g * 6) p S := by
      intro p p0 p1
      refine r91 _ _ _ _ ⟨by omega, by omega⟩ ⟨by omega, by omega⟩ ⟨by omega, by omega⟩ (fun _ => ⟨hy0, ⟨by omega, by omega⟩, fun _ => ⟨⟨by have := h_yy.2; omega, by have := h_yy.2; omega⟩, by omega, hstem _ _ p0 p1 (by omega) (by omega)⟩, fun _ => ⟨⟨by have := h_yy.2; omega, by have := h_yy.2; omega⟩, by omega, hstem _ _ p0 p1 (by omega) (by omega)⟩⟩)
    refine r62 _ _ _ ⟨by omega, by omega⟩ ⟨by omega, by omega⟩ (fun _ => ⟨fun _ => ⟨hy0, ⟨by omega, by omega⟩, fun _ => ⟨⟨by have := h_yy.2; omega, by have := h_yy.2; omega⟩, by omega, h91 _ (by omega) (by omega)⟩, fun _ => ⟨⟨by have := h_yy.2; omega, by have := h_yy.2; omega⟩, by omega, h91 _ (by omega) (by omega)⟩⟩, fun z => h363 (by omega)⟩)

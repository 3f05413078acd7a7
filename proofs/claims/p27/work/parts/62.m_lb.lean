def p_L_lay (A : hGM) (P : hGM) (glyph : Int) (size : Int) : Prop := RL0 A P ∧ (0 ≤ glyph ∧ glyph < A 0 0) ∧ (6 ≤ size ∧ size ≤ 48)
def m_L_lay (A : hGM) (P : hGM) (glyph : Int) (size : Int) : hGM := loO A P glyph size (A 2 glyph).toNat
set_option maxHeartbeats 4000000 in
theorem x_L_lay (A : hGM) (P : hGM) (glyph : Int) (size : Int) (h_glyph : hIn glyph) (h_size : hIn size) (hRP : ∀ (i : Nat) (k : Int), i < 100 → hIn (P i k)) (hp : p_L_lay A P glyph size) (B18 : Int → Int → hGM → Prop) (B81 : Int → Int → Int → Int → Int → hGM → Prop) (B208 : Int → Int → Int → Int → Int → hGM → Prop) (B223 : Int → Int → Int → Int → hGM → Prop) (B242 : Int → Int → Int → Int → Int → hGM → Prop) (B277 : Int → Int → Int → hGM → Prop) (Po : hGM → Prop) 
  (r18 : ∀ (y10 : Int) (y11 : Int) (P1 : hGM), hIn y10 → hIn y11 → ((∀ (i : Nat) (k : Int), i < 100 → hIn (P1 i k)) → ((0 ≤ glyph ∧ glyph < 8) ∧ ((y11 < (P1 3 glyph) → (hIn ((6 * glyph) + y11) ∧ (p_L_wide A P1 ((6 * glyph) + y11) size ∧ ((y11 = 0 → (B81 y10 y11 ((6 * glyph) + y11) (v_L_wide A P1 ((6 * glyph) + y11) size) 0 P1)) ∧ (¬ y11 = 0 → ((0 ≤ ((6 * glyph) + y11) ∧ ((6 * glyph) + y11) < 49) ∧ ((0 ≤ (((6 * glyph) + y11) - 1) ∧ (((6 * glyph) + y11) - 1) < 49) ∧ (B81 y10 y11 ((6 * glyph) + y11) (v_L_wide A P1 ((6 * glyph) + y11) size) (((P1 4 ((6 * glyph) + y11)) - (P1 4 (((6 * glyph) + y11) - 1))) - (P1 5 (((6 * glyph) + y11) - 1))) P1)))))))) ∧ (¬ y11 < (P1 3 glyph) → (Po P1))))) → (B18 y10 y11 P1)) 
  (r81 : ∀ (y10 : Int) (y11 : Int) (y12 : Int) (y13 : Int) (y14 : Int) (P1 : hGM), hIn y10 → hIn y11 → hIn y12 → hIn y13 → hIn y14 → ((∀ (i : Nat) (k : Int), i < 100 → hIn (P1 i k)) → ((0 ≤ y12 ∧ y12 < 49) ∧ (p_L_inPixels (P1 4 y12) size ∧ (((P1 6 y12) = 1 → (hIn ((2 * (P1 4 y12)) + (P1 5 y12)) ∧ (p_L_inPixels ((2 * (P1 4 y12)) + (P1 5 y12)) size ∧ (B208 y10 y11 y13 y14 (iShr ((v_L_inPixels ((2 * (P1 4 y12)) + (P1 5 y12)) size) - y13) 1) P1)))) ∧ (¬ (P1 6 y12) = 1 → (((P1 6 y12) = 2 → (hIn ((P1 4 y12) + (P1 5 y12)) ∧ (p_L_inPixels ((P1 4 y12) + (P1 5 y12)) size ∧ (B208 y10 y11 y13 y14 ((v_L_inPixels ((P1 4 y12) + (P1 5 y12)) size) - y13) P1)))) ∧ (¬ (P1 6 y12) = 2 → (((P1 6 y12) = 3 → ((y11 ≤ 0 → (B208 y10 y11 y13 y14 (v_L_inPixels (P1 4 y12) size) P1)) ∧ (¬ y11 ≤ 0 → (p_L_inPixels y14 size ∧ (((v_L_inPixels y14 size) ≤ (P1 1 2) → (B208 y10 y11 y13 y14 (y10 + (P1 1 2)) P1)) ∧ (¬ (v_L_inPixels y14 size) ≤ (P1 1 2) → (B208 y10 y11 y13 y14 (y10 + (v_L_inPixels y14 size)) P1))))))) ∧ (¬ (P1 6 y12) = 3 → (B208 y10 y11 y13 y14 (v_L_inPixels (P1 4 y12) size) P1)))))))))) → (B81 y10 y11 y12 y13 y14 P1)) 
  (r208 : ∀ (y10 : Int) (y11 : Int) (y13 : Int) (y14 : Int) (y15 : Int) (P1 : hGM), hIn y10 → hIn y11 → hIn y13 → hIn y14 → hIn y15 → ((∀ (i : Nat) (k : Int), i < 100 → hIn (P1 i k)) → ((y14 ≤ 0 → (B223 y11 y13 y15 (y10 + 0) P1)) ∧ (¬ y14 ≤ 0 → (B223 y11 y13 y15 (y10 + 1) P1)))) → (B208 y10 y11 y13 y14 y15 P1)) 
  (r223 : ∀ (y11 : Int) (y13 : Int) (y15 : Int) (y16 : Int) (P1 : hGM), hIn y11 → hIn y13 → hIn y15 → hIn y16 → ((∀ (i : Nat) (k : Int), i < 100 → hIn (P1 i k)) → ((y11 ≤ 0 → (B242 y11 y13 y15 y16 0 P1)) ∧ (¬ y11 ≤ 0 → ((y15 < y16 → (B242 y11 y13 y15 y16 1 P1)) ∧ (¬ y15 < y16 → (B242 y11 y13 y15 y16 0 P1)))))) → (B223 y11 y13 y15 y16 P1)) 
  (r242 : ∀ (y11 : Int) (y13 : Int) (y15 : Int) (y16 : Int) (y17 : Int) (P1 : hGM), hIn y11 → hIn y13 → hIn y15 → hIn y16 → hIn y17 → ((∀ (i : Nat) (k : Int), i < 100 → hIn (P1 i k)) → ((y17 = 0 → (B277 y11 y13 y15 (aset P1 12 6 (iOr (P1 12 6) 0)))) ∧ (¬ y17 = 0 → (B277 y11 y13 y16 (aset P1 12 6 (iOr (P1 12 6) (iShl 1 y11))))))) → (B242 y11 y13 y15 y16 y17 P1)) 
  (r277 : ∀ (y11 : Int) (y13 : Int) (y15 : Int) (P1 : hGM), hIn y11 → hIn y13 → hIn y15 → ((∀ (i : Nat) (k : Int), i < 100 → hIn (P1 i k)) → ((0 ≤ y11 ∧ y11 < 8) ∧ ((y15 < 0 → (B18 (y15 + y13) (y11 + 1) (aset (aset P1 12 y11 y15) 12 7 (iOr ((aset P1 12 y11 y15) 12 7) (iShl 1 y11))))) ∧ (¬ y15 < 0 → (p_L_columns A (aset P1 12 y11 y15) glyph size ∧ (hIn (y15 + y13) ∧ (((y15 + y13) ≤ (v_L_columns A (aset P1 12 y11 y15) glyph size) → (B18 (y15 + y13) (y11 + 1) (aset (aset P1 12 y11 y15) 12 7 (iOr ((aset P1 12 y11 y15) 12 7) 0)))) ∧ (¬ (y15 + y13) ≤ (v_L_columns A (aset P1 12 y11 y15) glyph size) → (B18 (y15 + y13) (y11 + 1) (aset (aset P1 12 y11 y15) 12 7 (iOr ((aset P1 12 y11 y15) 12 7) (iShl 1 y11)))))))))))) → (B277 y11 y13 y15 P1)) 
  (hpost : Po (m_L_lay A P glyph size)) : (B18 0 0 (aset (aset P 12 6 0) 12 7 0)) := by
  obtain ⟨hR, ⟨g0, g1⟩, z0, z1⟩ := hp
  have ng := rl_g hR
  have mg := rl_many hR g0 g1
  have g8 : glyph < 8 := by omega
  have hf := hR.1
  have e2 : (((A 2 glyph).toNat : Nat) : Int) = A 2 glyph := Int.toNat_of_nonneg mg.2.2.1
  have rb : ∀ k : Nat, k < 6 → -100 ≤ lrt A glyph size k ∧ lrt A glyph size k ≤ 3000 := by
    intro k hk
    cases k with
    | zero => exact ⟨by show -100 ≤ (0 : Int); decide, by show (0 : Int) ≤ 3000; decide⟩
    | succ k =>
      have lb := layL_bd hf g0 g8 (z := size) (by omega) z1 k (by omega)
      have w := layW_bd hf (z := size) (k := k) g0 g8 (by omega) (by omega) (by omega) z1
      exact ⟨by show -100 ≤ layL A glyph size k + layW A glyph size k; omega, by show layL A glyph size k + layW A glyph size k ≤ 3000; omega⟩
  have rb6 : -100 ≤ lrt A glyph size (A 2 glyph).toNat ∧ lrt A glyph size (A 2 glyph).toNat ≤ 3000 := by
    by_cases c : (A 2 glyph).toNat < 6
    · exact rb _ c
    · have e6 : (A 2 glyph).toNat = 6 := by omega
      rw [e6]
      have lb := layL_bd hf g0 g8 (z := size) (by omega) z1 5 (by omega)
      have w := layW_bd hf (z := size) (k := ((5 : Nat) : Int)) g0 g8 (by omega) (by omega) (by omega) z1
      exact ⟨by show -100 ≤ layL A glyph size 5 + layW A glyph size ((5 : Nat) : Int); omega, by show layL A glyph size 5 + layW A glyph size ((5 : Nat) : Int) ≤ 3000; omega⟩
  rw [loO_0 A P glyph size]
  refine upN (C := fun k => B18 (lrt A glyph size k) (k : Int) (loO A P glyph size k)) (A 2 glyph).toNat ?_ ?_
  · refine r18 _ _ _ ⟨by omega, by omega⟩ ⟨by omega, by omega⟩ (fun _ => ⟨⟨g0, g8⟩, fun c => ?_, fun _ => hpost⟩)
    rw [loO_row (by decide), mg.1.2] at c
    omega
  · intro k hk h
    have hk6 : k < 6 := by omega
    have rk := rb k hk6
    have sk := rl_stem hR (g := glyph) (k := (k : Int)) g0 g8 (by omega) (by omega)
    have wk := layW_bd hf (z := size) (k := k) g0 g8 (by omega) (by omega) (by omega) z1
    have lb := layL_bd hf g0 g8 (z := size) (by omega) z1 k hk6
    have ei : 6 * glyph + (k : Int) = glyph * 6 + k := by omega
    have hL := loO_R hR glyph size k
    have eL : ∀ i : Nat, i ≠ 12 → loO A P glyph size k i = P i := fun i hi => loO_row hi
    have e67 := loO_6 A P glyph size k
    have hs := loO_s A P glyph size k hk6
    have hin : ∀ M : hGM, RL0 A M → p_L_wide A M (glyph * 6 + k) size ∧ v_L_wide A M (glyph * 6 + k) size = layW A glyph size k := fun M hM => wideL hM (by omega) (by omega) (by omega) (by omega) z1
    generalize loO A P glyph size k = L at hL eL e67 hs ⊢
    rw [← hs] at h
    -- the row of the layout
    have h277 : B277 k (layW A glyph size k) (layL A glyph size k) (aset L 12 6 (pushN A glyph size (k + 1))) := by
      have e7 : ∀ x l : Int, aset (aset L 12 6 x) 12 k l 12 7 = clipN A glyph size k := fun x l => by rw [aset_ne (by omega), aset_ne (by omega)]; exact e67.2
      have hM : RL0 A (aset (aset L 12 6 (pushN A glyph size (k + 1))) 12 k (layL A glyph size k)) := RL0_of hL (by rw [aset_row (by decide), aset_row (by decide)]; exact ⟨rfl, rfl, rfl⟩) (fun i a b => by rw [aset_row (by omega), aset_row (by omega)])
      obtain ⟨c1, c2⟩ := colL hM g0 g1 (by omega : 0 ≤ size) z1
      rw [clipN_s] at h
      refine r277 _ _ _ _ ⟨by omega, by omega⟩ ⟨by omega, by omega⟩ ⟨by omega, by omega⟩ (fun _ => ⟨⟨by omega, by omega⟩, fun c => ?_, fun c => ⟨c1, ⟨by omega, by omega⟩, fun d => ?_, fun d => ?_⟩⟩)
      · rw [e7]
        rw [if_pos (Or.inl c)] at h
        exact h
      · rw [c2] at d
        rw [e7, iOr_0 (clipN_in _ _ _ _)]
        rw [if_neg (by omega)] at h
        exact h
      · rw [c2] at d
        rw [e7]
        rw [if_pos (Or.inr (by omega))] at h
        exact h
    have bat : -10000 ≤ lat A glyph size k ∧ lat A glyph size k ≤ 10000 ∧ -10000 ≤ lle A glyph size k ∧ lle A glyph size k ≤ 10000 := by
      cases k with
      | zero =>
        have wk0 : 1 ≤ layW A glyph size 0 ∧ layW A glyph size 0 ≤ 100 := wk
        have rd := rounded_bd hf (n := glyph * 6 + 0) (z := size) (w := layW A glyph size 0) (by omega) (by omega) (by omega) z1 (by omega) (by omega)
        exact ⟨by show -10000 ≤ v_X0_rounded A (glyph * 6 + 0) size (layW A glyph size 0); omega, by show v_X0_rounded A (glyph * 6 + 0) size (layW A glyph size 0) ≤ 10000; omega, by show -10000 ≤ (0 : Int); decide, by show (0 : Int) ≤ 10000; decide⟩
      | succ j =>
        have rk : -100 ≤ layL A glyph size j + layW A glyph size j ∧ layL A glyph size j + layW A glyph size j ≤ 3000 := rk
        have lbj := layL_bd hf g0 g8 (z := size) (by omega) z1 j (by omega)
        have wj := layW_bd hf (z := size) (k := j) g0 g8 (by omega) (by omega) (by omega) z1
        have rm := layRM_bd hf (k := j) (z := size) (r := layL A glyph size j + layW A glyph size j) g0 g8 (by omega) (by omega) (by omega) z1 (by omega) (by omega)
        exact ⟨by show -10000 ≤ layR A glyph size j (layL A glyph size j + layW A glyph size j); omega, by show layR A glyph size j (layL A glyph size j + layW A glyph size j) ≤ 10000; omega, by show -10000 ≤ layM A glyph j (layL A glyph size j + layW A glyph size j); omega, by show layM A glyph j (layL A glyph size j + layW A glyph size j) ≤ 10000; omega⟩
    have h242 : ∀ f : Int, (f = 0 ∧ ¬ (0 < k ∧ lat A glyph size k < lle A glyph size k)) ∨ (f = 1 ∧ (0 < k ∧ lat A glyph size k < lle A glyph size k)) → B242 k (layW A glyph size k) (lat A glyph size k) (lle A glyph size k) f L := by
      intro f hfl
      rw [lay_L, pushN_s] at h277
      refine r242 _ _ _ _ _ _ ⟨by omega, by omega⟩ ⟨by omega, by omega⟩ ⟨by omega, by omega⟩ ⟨by omega, by omega⟩ ⟨by omega, by omega⟩ (fun _ => ⟨fun c => ?_, fun c => ?_⟩)
      · have np : ¬ (0 < k ∧ lat A glyph size k < lle A glyph size k) := by omega
        rw [if_neg np, if_neg (fun q => np ((lay_P _ _ _ _).mp q))] at h277
        rw [e67.1, iOr_0 (pushN_in _ _ _ _)]
        exact h277
      · have np : 0 < k ∧ lat A glyph size k < lle A glyph size k := by omega
        rw [if_pos np, if_pos ((lay_P _ _ _ _).mpr np)] at h277
        rw [e67.1]
        exact h277
    have h223 : B223 k (layW A glyph size k) (lat A glyph size k) (lle A glyph size k) L :=
      r223 _ _ _ _ _ ⟨by omega, by omega⟩ ⟨by omega, by omega⟩ ⟨by omega, by omega⟩ ⟨by omega, by omega⟩ (fun _ => ⟨fun c => h242 0 (Or.inl ⟨rfl, by omega⟩), fun c => ⟨fun d => h242 1 (Or.inr ⟨rfl, by omega, d⟩), fun d => h242 0 (Or.inl ⟨rfl, fun q => d q.2⟩)⟩⟩)
    have bsp : -1300 ≤ lsp A glyph k ∧ lsp A glyph k ≤ 1300 := by
      cases k with
      | zero => exact ⟨by show (-1300 : Int) ≤ 0; decide, by show (0 : Int) ≤ 1300; decide⟩
      | succ j =>
        have q2 := hf.2.2.2.2.2.1 (glyph * 6 + j) (by omega) (by omega)
        have q1 := sk.2.1
        have cs : ((j + 1 : Nat) : Int) = (j : Int) + 1 := rfl
        rw [cs] at q1
        constructor
        · show -1300 ≤ A 3 (glyph * 6 + ((j : Int) + 1)) - (A 3 (glyph * 6 + j) + A 4 (glyph * 6 + j)); omega
        · show A 3 (glyph * 6 + ((j : Int) + 1)) - (A 3 (glyph * 6 + j) + A 4 (glyph * 6 + j)) ≤ 1300; omega
    have h208 : B208 (lrt A glyph size k) k (layW A glyph size k) (lsp A glyph k) (lat A glyph size k) L := by
      rw [lle_lrt] at h223
      refine r208 _ _ _ _ _ _ ⟨by omega, by omega⟩ ⟨by omega, by omega⟩ ⟨by omega, by omega⟩ ⟨by omega, by omega⟩ ⟨by omega, by omega⟩ (fun _ => ⟨fun c => ?_, fun c => ?_⟩)
      · rw [if_pos c] at h223; exact h223
      · rw [if_neg c] at h223; exact h223
    -- the place by the hint
    have c3 : v_X5_cell A 3 48 (glyph * 6 + k) = A 3 (glyph * 6 + k) := cell_in (by omega) (by omega)
    have c4 : v_X5_cell A 4 48 (glyph * 6 + k) = A 4 (glyph * 6 + k) := cell_in (by omega) (by omega)
    have c5 : v_X5_cell A 5 48 (glyph * 6 + k) = A 5 (glyph * 6 + k) := cell_in (by omega) (by omega)
    obtain ⟨a1, a2, a3, a4⟩ := pxL_b (u := A 3 (glyph * 6 + k)) (z := size) (by omega) (by omega) (by omega) z1
    obtain ⟨b1, b2, b3, b4⟩ := pxL_b (u := 2 * A 3 (glyph * 6 + k) + A 4 (glyph * 6 + k)) (z := size) (by omega) (by omega) (by omega) z1
    obtain ⟨d1, d2, d3, d4⟩ := pxL_b (u := A 3 (glyph * 6 + k) + A 4 (glyph * 6 + k)) (z := size) (by omega) (by omega) (by omega) z1
    have hrd : v_X0_rounded A (glyph * 6 + k) size (layW A glyph size k) = if A 5 (glyph * 6 + k) = 1 then (v_L_inPixels (2 * A 3 (glyph * 6 + k) + A 4 (glyph * 6 + k)) size - layW A glyph size k) / 2 else if A 5 (glyph * 6 + k) = 2 then v_L_inPixels (A 3 (glyph * 6 + k) + A 4 (glyph * 6 + k)) size - layW A glyph size k else v_L_inPixels (A 3 (glyph * 6 + k)) size := by
      unfold v_X0_rounded
      rw [c3, c4, c5, ← a2, ← b2, ← d2, fdiv_v ⟨by omega, by omega⟩ ⟨by decide, by decide⟩ (by decide)]
    have hat : lat A glyph size k = if A 5 (glyph * 6 + k) = 3 ∧ 0 < k then lrt A glyph size k + v_J9_max_7cf53 (v_L_inPixels (lsp A glyph k) size) (A 0 3) else v_X0_rounded A (glyph * 6 + k) size (layW A glyph size k) := by
      cases k with
      | zero => rw [if_neg (by omega)]; rfl
      | succ j =>
        have cs : ((j + 1 : Nat) : Int) = (j : Int) + 1 := rfl
        show layR A glyph size j (layL A glyph size j + layW A glyph size j) = _
        unfold layR
        by_cases c : A 5 (glyph * 6 + ((j : Int) + 1)) = 3
        · have gp := (rl_stem hR (g := glyph) (k := (j : Int)) g0 g8 (by omega) (by omega)).2.2.2.2 (by omega)
          have g0' : 0 ≤ layG A glyph j := by unfold layG; omega
          have pl := pxL_b (u := layG A glyph j) (z := size) g0' (by have := bsp.2; show layG A glyph j ≤ 3000; have e : lsp A glyph (j + 1) = layG A glyph j := rfl; omega) (by omega) z1
          rw [if_pos c, if_pos ⟨c, by omega⟩, ← pl.2.1]
          rfl
        · rw [if_neg c, if_neg (fun q => c q.1)]
          rfl
    have h81 : B81 (lrt A glyph size k) k (glyph * 6 + k) (layW A glyph size k) (lsp A glyph k) L := by
      refine r81 _ _ _ _ _ _ ⟨by omega, by omega⟩ ⟨by omega, by omega⟩ ⟨by omega, by omega⟩ ⟨by omega, by omega⟩ ⟨by omega, by omega⟩ (fun _ => ?_)
      rw [eL 4 (by decide), eL 5 (by decide), eL 6 (by decide), eL 1 (by decide), sk.1.1, sk.1.2.1, sk.1.2.2, (rl_set hR).2.1]
      rw [hat, hrd] at h208
      refine ⟨⟨by omega, by omega⟩, a1, fun c => ⟨⟨by omega, by omega⟩, b1, ?_⟩, fun c => ⟨fun d => ⟨⟨by omega, by omega⟩, d1, ?_⟩, fun d => ⟨fun e => ⟨fun f => ?_, fun f => ⟨?_, fun i => ?_, fun i => ?_⟩⟩, fun e => ?_⟩⟩⟩
      · rw [if_neg (by omega), if_pos c] at h208
        rw [iShr_1 ⟨by omega, by omega⟩]
        exact h208
      · rw [if_neg (by omega), if_neg c, if_pos d] at h208
        exact h208
      · rw [if_neg (by omega), if_neg c, if_neg d] at h208
        exact h208
      · cases k with
        | zero => exact absurd (show ((0 : Nat) : Int) ≤ 0 by decide) f
        | succ j =>
          have gp := (rl_stem hR (g := glyph) (k := (j : Int)) g0 g8 (by omega) (by omega)).2.2.2.2 (by omega)
          have g0' : 0 ≤ lsp A glyph (j + 1) := by show 0 ≤ layG A glyph j; unfold layG; omega
          exact (pxL_b g0' (by omega) (by omega) z1).1
      · rw [if_pos ⟨e, by omega⟩] at h208
        have em : v_J9_max_7cf53 (v_L_inPixels (lsp A glyph k) size) (A 0 3) = A 0 3 := by unfold v_J9_max_7cf53; split <;> omega
        rw [em] at h208
        exact h208
      · rw [if_pos ⟨e, by omega⟩] at h208
        have em : v_J9_max_7cf53 (v_L_inPixels (lsp A glyph k) size) (A 0 3) = v_L_inPixels (lsp A glyph k) size := by unfold v_J9_max_7cf53; split <;> omega
        rw [em] at h208
        exact h208
      · rw [if_neg (by omega), if_neg c, if_neg d] at h208
        exact h208
    obtain ⟨hw1, hw2⟩ := hin L hL
    refine r18 _ _ _ ⟨by omega, by omega⟩ ⟨by omega, by omega⟩ (fun _ => ⟨⟨g0, g8⟩, fun _ => ⟨⟨by omega, by omega⟩, ?_⟩, fun c => by rw [eL 3 (by decide), mg.1.2] at c; omega⟩)
    rw [ei, hw2]
    refine ⟨hw1, fun c => ?_, fun c => ⟨⟨by omega, by omega⟩, ⟨by omega, by omega⟩, ?_⟩⟩
    · have e0 : k = 0 := by omega
      subst e0
      exact h81
    · cases k with
      | zero => exact absurd rfl c
      | succ j =>
        have sj := rl_stem hR (g := glyph) (k := (j : Int)) g0 g8 (by omega) (by omega)
        have cs : ((j + 1 : Nat) : Int) = (j : Int) + 1 := rfl
        have es : L 4 (glyph * 6 + ((j + 1 : Nat) : Int)) - L 4 (glyph * 6 + ((j + 1 : Nat) : Int) - 1) - L 5 (glyph * 6 + ((j + 1 : Nat) : Int) - 1) = lsp A glyph (j + 1) := by
          rw [eL 4 (by decide), eL 5 (by decide), sk.1.1, show glyph * 6 + ((j + 1 : Nat) : Int) - 1 = glyph * 6 + j by omega, sj.1.1, sj.1.2.1]
          show _ = A 3 (glyph * 6 + ((j : Int) + 1)) - (A 3 (glyph * 6 + j) + A 4 (glyph * 6 + j))
          rw [cs]
          omega
        rw [es]
        exact h81
def p_L_lit (A : hGM) (P : hGM) (glyph : Int) (size : Int) : Prop := RL0 A P ∧ (0 ≤ glyph ∧ glyph < A 0 0) ∧ (6 ≤ size ∧ size ≤ 48)
def v_L_lit (A : hGM) (P : hGM) (glyph : Int) (size : Int) : Int := litV A glyph size (A 2 glyph).toNat
def m_L_lit (A : hGM) (P : hGM) (glyph : Int) (size : Int) : hGM := m_L_lay A P glyph size
set_option maxHeartbeats 4000000 in
theorem x_L_lit (A : hGM) (P : hGM) (glyph : Int) (size : Int) (h_glyph : hIn glyph) (h_size : hIn size) (hRP : ∀ (i : Nat) (k : Int), i < 100 → hIn (P i k)) (hp : p_L_lit A P glyph size) (B31 : Int → Int → hGM → Prop) (B47 : Int → Int → Int → hGM → Prop) (Po : Int → hGM → Prop) 
  (r31 : ∀ (y10 : Int) (y12 : Int) (P1 : hGM), hIn y12 → ((∀ (i : Nat) (k : Int), i < 100 → hIn (P1 i k)) → (p_L_columns A P1 glyph size ∧ ((y12 < (v_L_columns A P1 glyph size) → (B47 y10 y12 0 P1)) ∧ (¬ y12 < (v_L_columns A P1 glyph size) → (Po y10 P1))))) → (B31 y10 y12 P1)) 
  (r47 : ∀ (y10 : Int) (y12 : Int) (y13 : Int) (P1 : hGM), hIn y12 → hIn y13 → ((∀ (i : Nat) (k : Int), i < 100 → hIn (P1 i k)) → ((0 ≤ glyph ∧ glyph < 8) ∧ ((y13 < (P1 3 glyph) → ((0 ≤ y13 ∧ y13 < 8) ∧ ((y12 < (P1 12 y13) → (B47 (jOr y10 0) y12 (y13 + 1) P1)) ∧ (¬ y12 < (P1 12 y13) → (hIn ((6 * glyph) + y13) ∧ (p_L_wide A P1 ((6 * glyph) + y13) size ∧ (hIn ((P1 12 y13) + (v_L_wide A P1 ((6 * glyph) + y13) size)) ∧ ((y12 < ((P1 12 y13) + (v_L_wide A P1 ((6 * glyph) + y13) size)) → (B47 (jOr y10 (jShl 1 y12)) y12 (y13 + 1) P1)) ∧ (¬ y12 < ((P1 12 y13) + (v_L_wide A P1 ((6 * glyph) + y13) size)) → (B47 (jOr y10 0) y12 (y13 + 1) P1)))))))))) ∧ (¬ y13 < (P1 3 glyph) → (B31 y10 (y12 + 1) P1))))) → (B47 y10 y12 y13 P1)) 
  (hpost : Po (v_L_lit A P glyph size) (m_L_lit A P glyph size)) : (p_L_lay A P glyph size ∧ (B31 0 0 (m_L_lay A P glyph size))) := by
  have hp0 : p_L_lay A P glyph size := hp
  obtain ⟨hR, ⟨g0, g1⟩, z0, z1⟩ := hp
  have ng := rl_g hR
  have mg := rl_many hR g0 g1
  have g8 : glyph < 8 := by omega
  have hf := hR.1
  have e2 : (((A 2 glyph).toNat : Nat) : Int) = A 2 glyph := Int.toNat_of_nonneg mg.2.2.1
  refine ⟨hp0, ?_⟩
  have hM : RL0 A (m_L_lay A P glyph size) := loO_R hR _ _ _
  have hM3 : m_L_lay A P glyph size 3 glyph = A 2 glyph := by
    unfold m_L_lay
    rw [loO_row (by decide)]
    exact mg.1.2
  have hMl : ∀ k : Nat, k < (A 2 glyph).toNat → m_L_lay A P glyph size 12 k = layL A glyph size k := fun k hk => loO_at A P glyph size hk (by omega)
  unfold m_L_lit at hpost
  unfold v_L_lit at hpost
  generalize m_L_lay A P glyph size = M at hM hM3 hMl hpost ⊢
  obtain ⟨cp, cv⟩ := colL hM g0 g1 (by omega : 0 ≤ size) z1
  have cb := columns_bd (A 1 glyph) size
  have bit := litV_bit A glyph size (A 2 glyph).toNat (by omega)
  generalize hN : (A 2 glyph).toNat = N at *
  have key : ∀ (d : Nat) (c : Nat) (y : Int), (c : Int) + d = v_X0_columnsOf (A 1 glyph) size → jIn y → (∀ b : Nat, b < 64 → (bl y).testBit b = (decide (b < c) && litQ A glyph size b N)) → B31 y c M := by
    intro d
    induction d with
    | zero =>
      intro c y hc hy hb
      refine r31 _ _ _ ⟨by omega, by omega⟩ (fun _ => ⟨cp, fun q => by rw [cv] at q; omega, fun _ => ?_⟩)
      have e : y = litV A glyph size N := bl_same hy (jIn_litV _ _ _ _) (fun b hb64 => by
        rw [hb b hb64, bit b hb64]
        congr 1
        rw [decide_eq_decide]
        omega)
      rw [e]
      exact hpost
    | succ d ih =>
      intro c y hc hy hb
      have inner : ∀ (j : Nat) (i : Nat) (y : Int), i + j = N → jIn y → (∀ b : Nat, b < 64 → (bl y).testBit b = ((decide (b < c) && litQ A glyph size b N) || (decide (b = c) && litQ A glyph size c i))) → B47 y c i M := by
        intro j
        induction j with
        | zero =>
          intro i y hi hy hb
          refine r47 _ _ _ _ ⟨by omega, by omega⟩ ⟨by omega, by omega⟩ (fun _ => ⟨⟨g0, g8⟩, fun q => by rw [hM3] at q; omega, fun _ => ?_⟩)
          refine ih (c + 1) y (by omega) hy (fun b hb64 => ?_)
          rw [hb b hb64, show i = N by omega]
          by_cases e : b = c
          · subst e
            rw [decide_eq_false (show ¬ b < b by omega), decide_eq_true (rfl : b = b), decide_eq_true (show b < b + 1 by omega)]
            rfl
          · rw [decide_eq_false e, Bool.false_and, Bool.or_false]
            congr 1
            rw [decide_eq_decide]
            omega
        | succ j ihj =>
          intro i y hi hy hb
          have hiN : i < N := by omega
          have sk := rl_stem hR (g := glyph) (k := (i : Int)) g0 g8 (by omega) (by omega)
          have ei : 6 * glyph + (i : Int) = glyph * 6 + i := by omega
          obtain ⟨w1, w2⟩ := wideL hM (i := glyph * 6 + i) (z := size) (by omega) (by omega) (by omega) (by omega) z1
          have w2 : v_L_wide A M (glyph * 6 + i) size = layW A glyph size i := w2
          have wk := layW_bd hf (z := size) (k := i) g0 g8 (by omega) (by omega) (by omega) z1
          have lb := layL_bd hf g0 g8 (z := size) (by omega) z1 i (by omega)
          have no : ¬ (layL A glyph size i ≤ c ∧ (c : Int) < layL A glyph size i + layW A glyph size i) → B47 (jOr y 0) c ((i : Int) + 1) M := by
            intro q
            refine ihj (i + 1) (jOr y 0) (by omega) (jIn_or _ _) (fun b hb64 => ?_)
            rw [bl_or, bl_0, Nat.or_zero, hb b hb64, litQ_s, decide_eq_false q, Bool.or_false]
          have yes : (layL A glyph size i ≤ c ∧ (c : Int) < layL A glyph size i + layW A glyph size i) → B47 (jOr y (jShl 1 c)) c ((i : Int) + 1) M := by
            intro q
            refine ihj (i + 1) _ (by omega) (jIn_or _ _) (fun b hb64 => ?_)
            rw [bl_or, bl_shl1 c (by omega), Nat.testBit_or, Nat.testBit_two_pow, hb b hb64, litQ_s, decide_eq_true q, Bool.or_true, Bool.and_true]
            by_cases e : c = b
            · subst e
              rw [decide_eq_true (rfl : c = c), Bool.or_true, Bool.or_true]
            · rw [decide_eq_false e, decide_eq_false (show ¬ b = c from fun w => e w.symm), Bool.or_false, Bool.false_and]
          refine r47 _ _ _ _ ⟨by omega, by omega⟩ ⟨by omega, by omega⟩ (fun _ => ⟨⟨g0, g8⟩, fun _ => ⟨⟨by omega, by omega⟩, ?_⟩, fun q => by rw [hM3] at q; omega⟩)
          rw [ei, hMl i hiN, w2]
          exact ⟨fun q => no (by omega), fun q => ⟨⟨by omega, by omega⟩, w1, ⟨by omega, by omega⟩, fun q2 => yes ⟨by omega, q2⟩, fun q2 => no (fun w => q2 w.2)⟩⟩
      refine r31 _ _ _ ⟨by omega, by omega⟩ (fun _ => ⟨cp, fun _ => ?_, fun q => by rw [cv] at q; omega⟩)
      refine inner N 0 y (by omega) hy (fun b hb64 => ?_)
      rw [hb b hb64, show litQ A glyph size c 0 = false from rfl, Bool.and_false, Bool.or_false]
  exact key (v_X0_columnsOf (A 1 glyph) size).toNat 0 0 (by omega) jIn_0 (fun b hb64 => by rw [bl_0, Nat.zero_testBit, decide_eq_false (by omega), Bool.false_and])

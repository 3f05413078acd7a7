/-- how many of the first n slots hold stale sheets, and the fit behind the look -/
def slS (A T : hGM) : Nat → Int × hGM
  | 0 => (0, T)
  | n + 1 => if v_X4_isMade A n = 0 then slS A T n else ((slS A T n).1 + (if v_X1_isStale A (slS A T n).2 n = 0 then 0 else 1), m_X1_isStale A (slS A T n).2 n)
def p_X5_staleSheets (S : hS) : Prop := ∀ (n : Nat) (T : hGM), n < 4 → ¬ v_X4_isMade (S 0) n = 0 → p_X1_isStale (S 0) T n
def v_X5_staleSheets (S : hS) : Int := (slS (S 0) (S 7) 4).1
def m_X5_staleSheets (S : hS) : hS := gset S 7 (slS (S 0) (S 7) 4).2
theorem slS_bd (A T : hGM) (n : Nat) : 0 ≤ (slS A T n).1 ∧ (slS A T n).1 ≤ n := by
  induction n with
  | zero => exact ⟨Int.le_refl _, Int.le_refl _⟩
  | succ n ih =>
    unfold slS
    split
    · omega
    · show 0 ≤ (slS A T n).1 + (if v_X1_isStale A (slS A T n).2 n = 0 then 0 else 1) ∧ (slS A T n).1 + (if v_X1_isStale A (slS A T n).2 n = 0 then 0 else 1) ≤ _
      split <;> omega
set_option maxHeartbeats 4000000 in
theorem x_X5_staleSheets (S : hS) (hRS : ∀ (g i : Nat) (k : Int), i < 100 → hIn (S g i k)) (hp : p_X5_staleSheets S) (B4 : Int → Int → hS → Prop) (Po : Int → hS → Prop) 
  (r4 : ∀ (y1 : Int) (y2 : Int) (S1 : hS), hIn y1 → hIn y2 → ((∀ (g i : Nat) (k : Int), i < 100 → hIn (S1 g i k)) → ((y2 < 4 → (((v_X4_isMade (S1 0) y2) = 0 → (B4 y1 (y2 + 1) S1)) ∧ (¬ (v_X4_isMade (S1 0) y2) = 0 → (p_X1_isStale (S1 0) (S1 7) y2 ∧ (((v_X1_isStale (S1 0) (S1 7) y2) = 0 → (B4 y1 (y2 + 1) (gset S1 7 (m_X1_isStale (S1 0) (S1 7) y2)))) ∧ (¬ (v_X1_isStale (S1 0) (S1 7) y2) = 0 → (B4 (y1 + 1) (y2 + 1) (gset S1 7 (m_X1_isStale (S1 0) (S1 7) y2))))))))) ∧ (¬ y2 < 4 → (Po y1 S1)))) → (B4 y1 y2 S1)) 
  (hpost : Po (v_X5_staleSheets S) (m_X5_staleSheets S)) : (B4 0 0 S) := by
  have key : B4 (slS (S 0) (S 7) 0).1 ((0 : Nat) : Int) (gset S 7 (slS (S 0) (S 7) 0).2) := by
    refine upN (C := fun k => B4 (slS (S 0) (S 7) k).1 (k : Int) (gset S 7 (slS (S 0) (S 7) k).2)) 4 ?_ ?_
    · have b := slS_bd (S 0) (S 7) 4
      exact r4 _ _ _ ⟨by omega, by omega⟩ ⟨by omega, by omega⟩ (fun _ => ⟨fun z => by omega, fun _ => hpost⟩)
    · intro k hk h
      have b := slS_bd (S 0) (S 7) k
      unfold slS at h
      refine r4 _ _ _ ⟨by omega, by omega⟩ ⟨by omega, by omega⟩ (fun _ => ⟨fun _ => ?_, fun z => by omega⟩)
      rw [gset_ne (show (0 : Nat) ≠ 7 by decide), gset_at, gset_gset]
      refine ⟨fun c => ?_, fun c => ⟨hp k _ hk c, fun c2 => ?_, fun c2 => ?_⟩⟩
      · rw [if_pos c] at h; exact h
      · rw [if_neg c, if_pos c2] at h
        have h : B4 ((slS (S 0) (S 7) k).1 + 0) ((k + 1 : Nat) : Int) (gset S 7 (m_X1_isStale (S 0) (slS (S 0) (S 7) k).2 k)) := h
        rw [Int.add_zero] at h
        exact h
      · rw [if_neg c, if_neg c2] at h
        exact h
  have e : gset S 7 (slS (S 0) (S 7) 0).2 = S := gset_self S 7
  rw [e] at key
  exact key
def p_X5_count (S : hS) (what : Int) : Prop := ((what = 0 → True) ∧ (¬ what = 0 → ((what = 1 → (p_X1_stemsTogether (S 0) ∧ True)) ∧ (¬ what = 1 → ((what = 2 → True) ∧ (¬ what = 2 → ((what = 3 → (p_X4_held (S 0) ∧ True)) ∧ (¬ what = 3 → ((what = 4 → (p_X5_staleSheets S ∧ True)) ∧ (¬ what = 4 → ((what = 5 → (p_X1_unlikeWidths (S 0) ∧ True)) ∧ (¬ what = 5 → ((what = 6 → True) ∧ (¬ what = 6 → ((what = 7 → True) ∧ (¬ what = 7 → ((what = 8 → True) ∧ (¬ what = 8 → ((what = 9 → True) ∧ (¬ what = 9 → ((what = 10 → (hIn (what - 10) ∧ (((what - 10) < ((S 0) 0 1) → True) ∧ (¬ (what - 10) < ((S 0) 0 1) → True)))) ∧ (¬ what = 10 → ((what = 11 → (hIn (what - 10) ∧ (((what - 10) < ((S 0) 0 1) → True) ∧ (¬ (what - 10) < ((S 0) 0 1) → True)))) ∧ (¬ what = 11 → ((what = 12 → (hIn (what - 10) ∧ (((what - 10) < ((S 0) 0 1) → True) ∧ (¬ (what - 10) < ((S 0) 0 1) → True)))) ∧ (¬ what = 12 → ((what = 13 → True) ∧ (¬ what = 13 → ((what = 14 → True) ∧ (¬ what = 14 → ((what = 15 → True) ∧ (¬ what = 15 → ((what = 16 → True) ∧ (¬ what = 16 → ((what = 17 → True) ∧ (¬ what = 17 → ((what = 18 → True) ∧ (¬ what = 18 → ((what = 19 → True) ∧ (¬ what = 19 → ((what = 20 → True) ∧ (¬ what = 20 → ((what = 21 → True) ∧ (¬ what = 21 → True))))))))))))))))))))))))))))))))))))))))))))
def v_X5_count (S : hS) (what : Int) : Int := (if what = 0 then ((S 0) 0 0) else (if what = 1 then (v_X1_stemsTogether (S 0)) else (if what = 2 then ((S 0) 0 1) else (if what = 3 then (v_X4_held (S 0)) else (if what = 4 then (v_X5_staleSheets S) else (if what = 5 then (v_X1_unlikeWidths (S 0)) else (if what = 6 then ((S 0) 7 0) else (if what = 7 then ((S 9) 0 2) else (if what = 8 then ((S 8) 0 1) else (if what = 9 then (-1000001) else (if what = 10 then (if (what - 10) < ((S 0) 0 1) then (v_X5_cell (S 0) 6 3 (what - 10)) else (-1000004)) else (if what = 11 then (if (what - 10) < ((S 0) 0 1) then (v_X5_cell (S 0) 6 3 (what - 10)) else (-1000004)) else (if what = 12 then (if (what - 10) < ((S 0) 0 1) then (v_X5_cell (S 0) 6 3 (what - 10)) else (-1000004)) else (if what = 13 then (-1000001) else (if what = 14 then (-1000001) else (if what = 15 then (-1000001) else (if what = 16 then (-1000001) else (if what = 17 then (-1000001) else (if what = 18 then (-1000001) else (if what = 19 then (-1000001) else (if what = 20 then ((S 0) 0 2) else (if what = 21 then ((S 0) 0 3) else (-1000001)))))))))))))))))))))))
def m_X5_count (S : hS) (what : Int) : hS := (if what = 0 then S else (if what = 1 then S else (if what = 2 then S else (if what = 3 then S else (if what = 4 then (m_X5_staleSheets S) else (if what = 5 then S else (if what = 6 then S else (if what = 7 then S else (if what = 8 then S else (if what = 9 then S else (if what = 10 then (if (what - 10) < ((S 0) 0 1) then S else S) else (if what = 11 then (if (what - 10) < ((S 0) 0 1) then S else S) else (if what = 12 then (if (what - 10) < ((S 0) 0 1) then S else S) else (if what = 13 then S else (if what = 14 then S else (if what = 15 then S else (if what = 16 then S else (if what = 17 then S else (if what = 18 then S else (if what = 19 then S else (if what = 20 then S else (if what = 21 then S else S))))))))))))))))))))))

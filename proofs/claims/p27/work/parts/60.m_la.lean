def p_L_low (v1 : Int) (n1 : Int) : Prop := (0 ≤ (iAnd v1 2147483647) ∧ (0 < n1 ∧ (hIn ((iAnd v1 2147483647) % n1) ∧ True)))
def v_L_low (v1 : Int) (n1 : Int) : Int := ((iAnd v1 2147483647) % n1)
def p_L_inPixels (v1 : Int) (size : Int) : Prop := (hIn ((v1 * size) + 500) ∧ (0 ≤ ((v1 * size) + 500) ∧ (hIn (((v1 * size) + 500) / 1000) ∧ True)))
def v_L_inPixels (v1 : Int) (size : Int) : Int := (((v1 * size) + 500) / 1000)
def p_L_gap (v1 : Int) (other : Int) : Prop := ((v1 ≤ other → (hIn (other - v1) ∧ True)) ∧ (¬ v1 ≤ other → (hIn (v1 - other) ∧ True)))
def v_L_gap (v1 : Int) (other : Int) : Int := (if v1 ≤ other then (other - v1) else (v1 - other))
def p_L_snap (A : hGM) (P : hGM) (width : Int) : Prop := RL0 A P ∧ 0 ≤ width ∧ width ≤ 1000
def v_L_snap (A : hGM) (P : hGM) (width : Int) : Int := v_X1_snapOf A width
theorem gap_v (x y : Int) : v_L_gap x y = absI (x - y) := by
  unfold v_L_gap absI
  split <;> split <;> omega
theorem gap_p {x y : Int} (hx : -100000 ≤ x ∧ x ≤ 100000) (hy : -100000 ≤ y ∧ y ≤ 100000) : p_L_gap x y := ⟨fun _ => ⟨⟨by omega, by omega⟩, trivial⟩, fun _ => ⟨⟨by omega, by omega⟩, trivial⟩⟩
theorem snL_bd {d : Int → Int} {cut w : Int} (n : Nat) (h : ∀ k : Int, 0 ≤ k → k < n → 0 ≤ d k ∧ d k ≤ 300) : 0 ≤ snL d cut w n ∧ snL d cut w n ≤ 300 := by
  induction n with
  | zero => exact ⟨by show (0 : Int) ≤ 0; decide, by show (0 : Int) ≤ 300; decide⟩
  | succ n ih =>
    have ih := ih (fun k a b => h k a (by omega))
    have b := h n (by omega) (by omega)
    rw [snL_s]
    split
    · exact b
    · exact ih
set_option maxHeartbeats 4000000 in
theorem x_L_snap (A : hGM) (P : hGM) (width : Int) (h_width : hIn width) (hRP : ∀ (i : Nat) (k : Int), i < 100 → hIn (P i k)) (hp : p_L_snap A P width) (B5 : Int → Int → Prop) (B60 : Int → Int → Int → Int → Prop) (Po : Int → Prop) 
  (r5 : ∀ (y3 : Int) (y4 : Int), hIn y3 → hIn y4 → (((y4 < 3 → ((0 ≤ y4 ∧ y4 < 3) ∧ (p_L_gap (P 7 y4) width ∧ ((y3 = 0 → (B60 y3 y4 (v_L_gap (P 7 y4) width) 1)) ∧ (¬ y3 = 0 → (p_L_gap y3 width ∧ (((v_L_gap (P 7 y4) width) < (v_L_gap y3 width) → (B60 y3 y4 (v_L_gap (P 7 y4) width) 1)) ∧ (¬ (v_L_gap (P 7 y4) width) < (v_L_gap y3 width) → (((v_L_gap (P 7 y4) width) = (v_L_gap y3 width) → (((P 7 y4) < y3 → (B60 y3 y4 (v_L_gap (P 7 y4) width) 1)) ∧ (¬ (P 7 y4) < y3 → (B60 y3 y4 (v_L_gap (P 7 y4) width) 0)))) ∧ (¬ (v_L_gap (P 7 y4) width) = (v_L_gap y3 width) → (B60 y3 y4 (v_L_gap (P 7 y4) width) 0))))))))))) ∧ (¬ y4 < 3 → (Po y3)))) → (B5 y3 y4)) 
  (r60 : ∀ (y3 : Int) (y4 : Int) (y5 : Int) (y6 : Int), hIn y3 → hIn y4 → hIn y5 → hIn y6 → (((0 ≤ y4 ∧ y4 < 3) ∧ (((P 7 y4) ≤ 0 → (B5 y3 (y4 + 1))) ∧ (¬ (P 7 y4) ≤ 0 → ((y5 ≤ (P 1 1) → ((y6 = 0 → (B5 y3 (y4 + 1))) ∧ (¬ y6 = 0 → (B5 (P 7 y4) (y4 + 1))))) ∧ (¬ y5 ≤ (P 1 1) → (B5 y3 (y4 + 1)))))))) → (B60 y3 y4 y5 y6)) 
  (hpost : Po (v_L_snap A P width)) : (B5 0 0) := by
  obtain ⟨hR, w0, w1⟩ := hp
  have hc := (rl_set hR).1
  have sd := hR.2.2.1
  have db : ∀ k : Int, 0 ≤ k → k < (3 : Nat) → 0 ≤ P 7 k ∧ P 7 k ≤ 300 := fun k a b => by
    rcases (show k = 0 ∨ k = 1 ∨ k = 2 by omega) with rfl | rfl | rfl
    · exact sd.1
    · exact sd.2.1
    · exact sd.2.2.1
  unfold v_L_snap at hpost
  rw [← snL_eq hR] at hpost
  refine upN (C := fun k => B5 (snL (P 7) (P 1 1) width k) (k : Int)) 3 ?_ ?_
  · have b := snL_bd (cut := P 1 1) (w := width) 3 db
    exact r5 _ _ ⟨by omega, by omega⟩ ⟨by omega, by omega⟩ ⟨fun c => by omega, fun _ => hpost⟩
  · intro k hk h
    have b := snL_bd (cut := P 1 1) (w := width) k (fun j a c => db j a (by omega))
    have dk := db k (by omega) (by omega)
    rw [snL_s] at h
    generalize snL (P 7) (P 1 1) width k = r at h b ⊢
    have ab : 0 ≤ absI (P 7 k - width) ∧ absI (P 7 k - width) ≤ 2000 := by unfold absI; omega
    have h60 : ∀ f : Int, ((f = 0 ∧ ¬ (r = 0 ∨ absI (P 7 k - width) < absI (r - width) ∨ (absI (P 7 k - width) = absI (r - width) ∧ P 7 k < r))) ∨ (f = 1 ∧ (r = 0 ∨ absI (P 7 k - width) < absI (r - width) ∨ (absI (P 7 k - width) = absI (r - width) ∧ P 7 k < r)))) → B60 r k (absI (P 7 k - width)) f := by
      intro f hf
      refine r60 _ _ _ _ ⟨by omega, by omega⟩ ⟨by omega, by omega⟩ ⟨by omega, by omega⟩ ⟨by omega, by omega⟩ ⟨⟨by omega, by omega⟩, fun c => ?_, fun c => ⟨fun c2 => ⟨fun c3 => ?_, fun c3 => ?_⟩, fun c2 => ?_⟩⟩
      · rw [if_neg (fun q => by omega)] at h; exact h
      · rw [if_neg (fun q => by omega)] at h; exact h
      · rw [if_pos ⟨by omega, c2, by omega⟩] at h; exact h
      · rw [if_neg (fun q => by omega)] at h; exact h
    have gk : v_L_gap (P 7 k) width = absI (P 7 k - width) := gap_v _ _
    have gr : v_L_gap r width = absI (r - width) := gap_v _ _
    refine r5 _ _ ⟨by omega, by omega⟩ ⟨by omega, by omega⟩ ⟨fun _ => ⟨⟨by omega, by omega⟩, gap_p ⟨by omega, by omega⟩ ⟨by omega, by omega⟩, ?_⟩, fun c => by omega⟩
    rw [gk, gr]
    exact ⟨fun c => h60 1 (Or.inr ⟨rfl, Or.inl c⟩), fun c => ⟨gap_p ⟨by omega, by omega⟩ ⟨by omega, by omega⟩, fun c2 => h60 1 (Or.inr ⟨rfl, Or.inr (Or.inl c2)⟩), fun c2 => ⟨fun c3 => ⟨fun c4 => h60 1 (Or.inr ⟨rfl, Or.inr (Or.inr ⟨c3, c4⟩)⟩), fun c4 => h60 0 (Or.inl ⟨rfl, by omega⟩)⟩, fun c3 => h60 0 (Or.inl ⟨rfl, by omega⟩)⟩⟩⟩
def p_L_hinted (A : hGM) (P : hGM) (k1 : Int) : Prop := ((0 ≤ k1 ∧ k1 < 49) ∧ (p_L_snap A P (P 5 k1) ∧ (((v_L_snap A P (P 5 k1)) = 0 → True) ∧ (¬ (v_L_snap A P (P 5 k1)) = 0 → True))))
def v_L_hinted (A : hGM) (P : hGM) (k1 : Int) : Int := (if (v_L_snap A P (P 5 k1)) = 0 then (P 5 k1) else (v_L_snap A P (P 5 k1)))
def p_L_wide (A : hGM) (P : hGM) (k1 : Int) (size : Int) : Prop := (p_L_hinted A P k1 ∧ (p_L_inPixels (v_L_hinted A P k1) size ∧ (((v_L_inPixels (v_L_hinted A P k1) size) = 0 → True) ∧ (¬ (v_L_inPixels (v_L_hinted A P k1) size) = 0 → True))))
def v_L_wide (A : hGM) (P : hGM) (k1 : Int) (size : Int) : Int := (if (v_L_inPixels (v_L_hinted A P k1) size) = 0 then 1 else (v_L_inPixels (v_L_hinted A P k1) size))
def p_L_columns (A : hGM) (P : hGM) (glyph : Int) (size : Int) : Prop := ((0 ≤ glyph ∧ glyph < 8) ∧ (p_L_inPixels (P 2 glyph) size ∧ (((v_L_inPixels (P 2 glyph) size) = 0 → True) ∧ (¬ (v_L_inPixels (P 2 glyph) size) = 0 → (((v_L_inPixels (P 2 glyph) size) ≤ 64 → True) ∧ (¬ (v_L_inPixels (P 2 glyph) size) ≤ 64 → True))))))
def v_L_columns (A : hGM) (P : hGM) (glyph : Int) (size : Int) : Int := (if (v_L_inPixels (P 2 glyph) size) = 0 then 1 else (if (v_L_inPixels (P 2 glyph) size) ≤ 64 then (v_L_inPixels (P 2 glyph) size) else 64))
def p_L_find (P : hGM) (v1 : Int) : Prop := True
/-- the last of the first n places that holds a number, or -1 -/
def fnL (f : Int → Int) (v : Int) : Nat → Int
  | 0 => -1
  | n + 1 => if f n = v then n else fnL f v n
def v_L_find (P : hGM) (v1 : Int) : Int := fnL (P 7) v1 3
theorem fnL_bd (f : Int → Int) (v : Int) (n : Nat) : -1 ≤ fnL f v n ∧ fnL f v n < n := by
  induction n with
  | zero => exact ⟨by show (-1 : Int) ≤ -1; decide, by show (-1 : Int) < 0; decide⟩
  | succ n ih =>
    unfold fnL
    split <;> omega
set_option maxHeartbeats 4000000 in
theorem x_L_find (P : hGM) (v1 : Int) (h_v1 : hIn v1) (hRP : ∀ (i : Nat) (k : Int), i < 100 → hIn (P i k)) (hp : p_L_find P v1) (B4 : Int → Int → Prop) (Po : Int → Prop) 
  (r4 : ∀ (y2 : Int) (y3 : Int), hIn y2 → hIn y3 → (((y3 < 3 → ((0 ≤ y3 ∧ y3 < 3) ∧ (((P 7 y3) = v1 → (B4 y3 (y3 + 1))) ∧ (¬ (P 7 y3) = v1 → (B4 y2 (y3 + 1)))))) ∧ (¬ y3 < 3 → (Po y2)))) → (B4 y2 y3)) 
  (hpost : Po (v_L_find P v1)) : (B4 (-1) 0) := by
  refine upN (C := fun k => B4 (fnL (P 7) v1 k) (k : Int)) 3 ?_ ?_
  · have b := fnL_bd (P 7) v1 3
    exact r4 _ _ ⟨by omega, by omega⟩ ⟨by omega, by omega⟩ ⟨fun c => by omega, fun _ => hpost⟩
  · intro k hk h
    have b := fnL_bd (P 7) v1 k
    refine r4 _ _ ⟨by omega, by omega⟩ ⟨by omega, by omega⟩ ⟨fun _ => ⟨⟨by omega, by omega⟩, fun c => ?_, fun c => ?_⟩, fun c => by omega⟩
    · unfold fnL at h; rw [if_pos c] at h; exact h
    · unfold fnL at h; rw [if_neg c] at h; exact h
def p_L_many (set1 : Int) : Prop := True
def v_L_many (set1 : Int) : Int := ((popB 64 (bl set1) : Nat) : Int)
theorem bl_0 : bl 0 = 0 := by decide
theorem bl_1 : bl 1 = 1 := by decide
theorem bl_less {y : Int} (h : 0 < bl y) : bl (jAnd y (y - 1)) = bl y &&& (bl y - 1) := by
  have b := bl_lt y
  rw [bl_and, bl_sub, bl_1, show (18446744073709551616 - 1 + bl y) % 18446744073709551616 = bl y - 1 by omega]
set_option maxHeartbeats 4000000 in
theorem x_L_many (set1 : Int) (hp : p_L_many set1) (B4 : Int → Int → Prop) (Po : Int → Prop) 
  (r4 : ∀ (y2 : Int) (y3 : Int), hIn y2 → ((((jCmp y3 0) = 0 → (Po y2)) ∧ (¬ (jCmp y3 0) = 0 → (B4 (y2 + 1) (jAnd y3 (y3 - 1)))))) → (B4 y2 y3)) 
  (hpost : Po (v_L_many set1)) : (B4 0 set1) := by
  have hle : popB 64 (bl set1) ≤ 64 := popB_le _ _
  have hv : v_L_many set1 = ((popB 64 (bl set1) : Nat) : Int) := rfl
  have key : ∀ (n : Nat) (y s : Int), popB 64 (bl s) = n → 0 ≤ y → y + n = v_L_many set1 → B4 y s := by
    intro n
    induction n with
    | zero =>
      intro y s h1 h2 h3
      have hz : bl s = bl 0 := by
        rw [bl_0]
        rcases Nat.eq_zero_or_pos (bl s) with q | q
        · exact q
        · have := popB_less 64 (bl s) q (bl_lt s)
          omega
      refine r4 _ _ ⟨by omega, by omega⟩ ⟨fun _ => ?_, fun z => absurd (jCmp_0.mpr hz) z⟩
      have e : y = v_L_many set1 := by omega
      rw [e]; exact hpost
    | succ n ih =>
      intro y s h1 h2 h3
      have hp : 0 < bl s := by
        rcases Nat.eq_zero_or_pos (bl s) with q | q
        · rw [q, popB_0] at h1; omega
        · exact q
      refine r4 _ _ ⟨by omega, by omega⟩ ⟨fun z => ?_, fun _ => ?_⟩
      · have := jCmp_0.mp z
        rw [bl_0] at this
        omega
      have := popB_less 64 (bl s) hp (bl_lt s)
      refine ih (y + 1) _ ?_ (by omega) (by omega)
      rw [bl_less hp]
      omega
  exact key _ 0 set1 rfl (by decide) (by omega)

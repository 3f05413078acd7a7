def p_L_make (A : hGM) (P : hGM) (size : Int) : Prop := RL0 A P ∧ (6 ≤ size ∧ size ≤ 48) ∧ (0 ≤ P 1 3 ∧ P 1 3 ≤ 1000000)
/-- from where the sheets are shifted: the place of the size's own sheet, 0 if all four are there, else 4 -/
def frN (P : hGM) (z : Int) : Nat → Int
  | 0 => if P 8 3 ≤ 0 then 4 else 0
  | n + 1 => if P 8 n = z then n else frN P z n
def shN (P : hGM) : Nat → Int
  | 0 => 0
  | n + 1 => shN P n + (if P 8 n ≤ 0 then 0 else 1)
def toL (P : hGM) (z : Int) : Int := if frN P z 4 < 4 then shN P 4 - 1 else shN P 4
/-- sheets shifted down: the numbers' rows to k, the rows of eight to m -/
def shG (P : hGM) (f k m : Int) : hGM := fun r q => if (r = 8 ∨ r = 9) ∧ f ≤ q ∧ q < k then P r (q + 1) else if (r = 10 ∨ r = 111) ∧ 8 * f ≤ q ∧ q < m then P r (q + 8) else P r q
/-- the sheet that is made, its first i glyphs -/
def fiG (A M : hGM) (to z i : Int) : hGM := fun r q => if r = 8 ∧ q = to then z else if r = 9 ∧ q = to then A 0 0 else if r = 10 ∧ 8 * to ≤ q ∧ q < 8 * to + i then (if q - 8 * to < A 0 0 then v_X0_columnsOf (A 1 (q - 8 * to)) z else 0) else if r = 111 ∧ 8 * to ≤ q ∧ q < 8 * to + i then (if q - 8 * to < A 0 0 then litV A (q - 8 * to) z (A 2 (q - 8 * to)).toNat else 0) else M r q
def v_L_make (A : hGM) (P : hGM) (size : Int) : Int := toL P size + 1
def m_L_make (A : hGM) (P : hGM) (size : Int) : hGM := aset (fiG A (shG P (frN P size 4) 3 24) (toL P size) size 8) 1 3 (P 1 3 + 1)
theorem frN_bd (P : hGM) (z : Int) (n : Nat) : 0 ≤ frN P z n ∧ frN P z n ≤ 4 + n := by
  induction n with
  | zero => unfold frN; split <;> omega
  | succ n ih => unfold frN; split <;> omega
theorem frN_4 (P : hGM) (z : Int) (n : Nat) (hn : n ≤ 4) : (0 ≤ frN P z n ∧ frN P z n ≤ 4) ∧ (frN P z n = 4 → P 8 3 ≤ 0) := by
  induction n with
  | zero =>
    unfold frN
    by_cases c : P 8 3 ≤ 0
    · rw [if_pos c]; exact ⟨⟨by decide, by decide⟩, fun _ => c⟩
    · rw [if_neg c]; exact ⟨⟨by decide, by decide⟩, fun z => by omega⟩
  | succ n ih =>
    have ih := ih (by omega)
    unfold frN
    by_cases c : P 8 n = z
    · rw [if_pos c]; exact ⟨by omega, fun z => by omega⟩
    · rw [if_neg c]; exact ih
theorem frN_mem (P : hGM) (z : Int) (n : Nat) : (∃ k : Nat, k < n ∧ frN P z n = k ∧ P 8 k = z) ∨ ((∀ k : Nat, k < n → ¬ P 8 k = z) ∧ frN P z n = if P 8 3 ≤ 0 then 4 else 0) := by
  induction n with
  | zero => exact Or.inr ⟨fun k hk => by omega, rfl⟩
  | succ n ih =>
    have e : frN P z (n + 1) = if P 8 n = z then (n : Int) else frN P z n := rfl
    by_cases c : P 8 n = z
    · exact Or.inl ⟨n, by omega, by rw [e, if_pos c], c⟩
    · rw [e, if_neg c]
      rcases ih with ⟨k, h1, h2, h3⟩ | ⟨h1, h2⟩
      · exact Or.inl ⟨k, by omega, h2, h3⟩
      · refine Or.inr ⟨fun k hk => ?_, h2⟩
        by_cases d : k = n
        · rw [d]; exact c
        · exact h1 k (by omega)
theorem shN_bd (P : hGM) (n : Nat) : 0 ≤ shN P n ∧ shN P n ≤ n := by
  induction n with
  | zero => exact ⟨by show (0 : Int) ≤ 0; decide, by show (0 : Int) ≤ 0; decide⟩
  | succ n ih => unfold shN; split <;> omega
theorem shN_4 (P : hGM) : shN P 4 = 0 + (if P 8 0 ≤ 0 then 0 else 1) + (if P 8 1 ≤ 0 then 0 else 1) + (if P 8 2 ≤ 0 then 0 else 1) + (if P 8 3 ≤ 0 then 0 else 1) := rfl
theorem toL_bd {P : hGM} {z : Int} (hz : 1 ≤ z) : 0 ≤ toL P z ∧ toL P z ≤ 3 := by
  have b := shN_bd P 4
  have s4 := shN_4 P
  have f4 := frN_4 P z 4 (by decide)
  unfold toL
  by_cases c : frN P z 4 < 4
  · rw [if_pos c]
    rcases frN_mem P z 4 with ⟨k, h1, h2, h3⟩ | ⟨h1, h2⟩
    · rcases (show k = 0 ∨ k = 1 ∨ k = 2 ∨ k = 3 by omega) with rfl | rfl | rfl | rfl
      · have h3 : P 8 0 = z := h3
        omega
      · have h3 : P 8 1 = z := h3
        omega
      · have h3 : P 8 2 = z := h3
        omega
      · have h3 : P 8 3 = z := h3
        omega
    · rw [h2] at c
      omega
  · rw [if_neg c]
    have := f4.2 (by omega)
    omega
theorem shG_0 (P : hGM) (f : Int) : shG P f f (8 * f) = P := by
  funext r q
  unfold shG
  rw [if_neg (by omega), if_neg (by omega)]
theorem shG_4 (P : hGM) : P = shG P 4 3 24 := by
  funext r q
  unfold shG
  rw [if_neg (by omega), if_neg (by omega)]
theorem shG_k {P : hGM} {f k m : Int} (h : f ≤ k) : aset (aset (shG P f k m) 8 k (shG P f k m 8 (k + 1))) 9 k (aset (shG P f k m) 8 k (shG P f k m 8 (k + 1)) 9 (k + 1)) = shG P f (k + 1) m := by
  have e8 : shG P f k m 8 (k + 1) = P 8 (k + 1) := by unfold shG; rw [if_neg (by omega), if_neg (by omega)]
  have e9 : aset (shG P f k m) 8 k (P 8 (k + 1)) 9 (k + 1) = P 9 (k + 1) := by rw [aset_row (by decide)]; unfold shG; rw [if_neg (by omega), if_neg (by omega)]
  rw [e8, e9]
  funext r q
  unfold aset
  by_cases c9 : r = 9 ∧ q = k
  · rw [if_pos c9]
    unfold shG
    rw [if_pos (by omega), c9.1, c9.2]
  · rw [if_neg c9]
    by_cases c8 : r = 8 ∧ q = k
    · rw [if_pos c8]
      unfold shG
      rw [if_pos (by omega), c8.1, c8.2]
    · rw [if_neg c8]
      unfold shG
      by_cases d : (r = 8 ∨ r = 9) ∧ f ≤ q ∧ q < k
      · rw [if_pos d, if_pos (by omega)]
      · rw [if_neg d, if_neg (show ¬ ((r = 8 ∨ r = 9) ∧ f ≤ q ∧ q < k + 1) by omega)]
theorem shG_m {P : hGM} {f k m : Int} (h : 8 * f ≤ m) : aset (aset (shG P f k m) 10 m (shG P f k m 10 (m + 8))) 111 m (aset (shG P f k m) 10 m (shG P f k m 10 (m + 8)) 111 (m + 8)) = shG P f k (m + 1) := by
  have e8 : shG P f k m 10 (m + 8) = P 10 (m + 8) := by unfold shG; rw [if_neg (by omega), if_neg (by omega)]
  have e9 : aset (shG P f k m) 10 m (P 10 (m + 8)) 111 (m + 8) = P 111 (m + 8) := by rw [aset_row (by decide)]; unfold shG; rw [if_neg (by omega), if_neg (by omega)]
  rw [e8, e9]
  funext r q
  unfold aset
  by_cases c9 : r = 111 ∧ q = m
  · rw [if_pos c9]
    unfold shG
    rw [if_neg (by omega), if_pos (by omega), c9.1, c9.2]
  · rw [if_neg c9]
    by_cases c8 : r = 10 ∧ q = m
    · rw [if_pos c8]
      unfold shG
      rw [if_neg (by omega), if_pos (by omega), c8.1, c8.2]
    · rw [if_neg c8]
      unfold shG
      by_cases d : (r = 8 ∨ r = 9) ∧ f ≤ q ∧ q < k
      · rw [if_pos d, if_pos d]
      · rw [if_neg d, if_neg d]
        by_cases d2 : (r = 10 ∨ r = 111) ∧ 8 * f ≤ q ∧ q < m
        · rw [if_pos d2, if_pos (by omega)]
        · rw [if_neg d2, if_neg (by omega)]
theorem shG_lo {P : hGM} {f k m : Int} {r : Nat} (h : r < 8) : shG P f k m r = P r := by
  funext q
  unfold shG
  rw [if_neg (by omega), if_neg (by omega)]
theorem fiG_lo {A M : hGM} {to z i : Int} {r : Nat} (h : r < 8) : fiG A M to z i r = M r := by
  funext q
  unfold fiG
  rw [if_neg (by omega), if_neg (by omega), if_neg (by omega), if_neg (by omega)]
theorem fiG_0 (A M : hGM) (to z : Int) (g : Int) (hg : g = A 0 0) : aset (aset M 8 to z) 9 to g = fiG A M to z 0 := by
  funext r q
  unfold aset fiG
  by_cases c9 : r = 9 ∧ q = to
  · rw [if_pos c9, if_neg (by omega), if_pos c9, hg]
  · rw [if_neg c9]
    by_cases c8 : r = 8 ∧ q = to
    · rw [if_pos c8, if_pos c8]
    · rw [if_neg c8, if_neg c8, if_neg c9, if_neg (by omega), if_neg (by omega)]
theorem fiG_s (A M : hGM) (to z i x y : Int) (i0 : 0 ≤ i) (hx : x = if i < A 0 0 then v_X0_columnsOf (A 1 i) z else 0) (hy : y = if i < A 0 0 then litV A i z (A 2 i).toNat else 0) : aset (aset (fiG A M to z i) 10 (8 * to + i) x) 111 (8 * to + i) y = fiG A M to z (i + 1) := by
  funext r q
  unfold aset fiG
  by_cases c9 : r = 111 ∧ q = 8 * to + i
  · rw [if_pos c9, if_neg (by omega), if_neg (by omega), if_neg (by omega), if_pos (by omega), show q - 8 * to = i by omega]
    exact hy
  · rw [if_neg c9]
    by_cases c8 : r = 10 ∧ q = 8 * to + i
    · rw [if_pos c8, if_neg (by omega), if_neg (by omega), if_pos (by omega), show q - 8 * to = i by omega]
      exact hx
    · rw [if_neg c8]
      by_cases a : r = 8 ∧ q = to
      · rw [if_pos a, if_pos a]
      · rw [if_neg a, if_neg a]
        by_cases b : r = 9 ∧ q = to
        · rw [if_pos b, if_pos b]
        · rw [if_neg b, if_neg b]
          by_cases d : r = 10 ∧ 8 * to ≤ q ∧ q < 8 * to + i
          · rw [if_pos d, if_pos (show r = 10 ∧ 8 * to ≤ q ∧ q < 8 * to + (i + 1) by omega)]
          · rw [if_neg d, if_neg (show ¬ (r = 10 ∧ 8 * to ≤ q ∧ q < 8 * to + (i + 1)) by omega)]
            by_cases e : r = 111 ∧ 8 * to ≤ q ∧ q < 8 * to + i
            · rw [if_pos e, if_pos (show r = 111 ∧ 8 * to ≤ q ∧ q < 8 * to + (i + 1) by omega)]
            · rw [if_neg e, if_neg (show ¬ (r = 111 ∧ 8 * to ≤ q ∧ q < 8 * to + (i + 1)) by omega)]
set_option maxHeartbeats 4000000 in
theorem x_L_make (A : hGM) (P : hGM) (size : Int) (h_size : hIn size) (hRP : ∀ (i : Nat) (k : Int), i < 100 → hIn (P i k)) (hp : p_L_make A P size) (B20 : Int → Int → Int → hGM → Prop) (B73 : Int → Int → Int → hGM → Prop) (B106 : Int → Int → Int → Int → hGM → Prop) (B192 : Int → hGM → Prop) (B210 : Int → Int → hGM → Prop) (Po : Int → hGM → Prop) 
  (r20 : ∀ (y12 : Int) (y13 : Int) (y14 : Int) (P1 : hGM), hIn y12 → hIn y13 → hIn y14 → ((∀ (i : Nat) (k : Int), i < 100 → hIn (P1 i k)) → ((y14 < 4 → ((0 ≤ y14 ∧ y14 < 4) ∧ (((P1 8 y14) = size → (((P1 8 y14) ≤ 0 → (B20 y14 (y13 + 0) (y14 + 1) P1)) ∧ (¬ (P1 8 y14) ≤ 0 → (B20 y14 (y13 + 1) (y14 + 1) P1)))) ∧ (¬ (P1 8 y14) = size → (((P1 8 y14) ≤ 0 → (B20 y12 (y13 + 0) (y14 + 1) P1)) ∧ (¬ (P1 8 y14) ≤ 0 → (B20 y12 (y13 + 1) (y14 + 1) P1))))))) ∧ (¬ y14 < 4 → (B73 y12 y13 y12 P1)))) → (B20 y12 y13 y14 P1)) 
  (r73 : ∀ (y12 : Int) (y13 : Int) (y14 : Int) (P1 : hGM), hIn y12 → hIn y13 → hIn y14 → ((∀ (i : Nat) (k : Int), i < 100 → hIn (P1 i k)) → ((y14 < 3 → ((0 ≤ (y14 + 1) ∧ (y14 + 1) < 4) ∧ ((0 ≤ y14 ∧ y14 < 4) ∧ (B106 y12 y13 y14 0 (aset (aset P1 8 y14 (P1 8 (y14 + 1))) 9 y14 ((aset P1 8 y14 (P1 8 (y14 + 1))) 9 (y14 + 1))))))) ∧ (¬ y14 < 3 → ((y12 < 4 → (B192 (y13 - 1) P1)) ∧ (¬ y12 < 4 → (B192 y13 P1)))))) → (B73 y12 y13 y14 P1)) 
  (r106 : ∀ (y12 : Int) (y13 : Int) (y14 : Int) (y15 : Int) (P1 : hGM), hIn y12 → hIn y13 → hIn y14 → hIn y15 → ((∀ (i : Nat) (k : Int), i < 100 → hIn (P1 i k)) → ((y15 < 8 → ((0 ≤ (((8 * y14) + 8) + y15) ∧ (((8 * y14) + 8) + y15) < 32) ∧ ((0 ≤ ((8 * y14) + y15) ∧ ((8 * y14) + y15) < 32) ∧ (B106 y12 y13 y14 (y15 + 1) (aset (aset P1 10 ((8 * y14) + y15) (P1 10 (((8 * y14) + 8) + y15))) 111 ((8 * y14) + y15) ((aset P1 10 ((8 * y14) + y15) (P1 10 (((8 * y14) + 8) + y15))) 111 (((8 * y14) + 8) + y15))))))) ∧ (¬ y15 < 8 → (B73 y12 y13 (y14 + 1) P1)))) → (B106 y12 y13 y14 y15 P1)) 
  (r192 : ∀ (y14 : Int) (P1 : hGM), hIn y14 → ((∀ (i : Nat) (k : Int), i < 100 → hIn (P1 i k)) → ((0 ≤ y14 ∧ y14 < 4) ∧ (0 ≤ ((0 : Int).toNat) ∧ (B210 y14 0 (aset (aset P1 8 y14 size) 9 y14 ((aset P1 8 y14 size) 1 0)))))) → (B192 y14 P1)) 
  (r210 : ∀ (y14 : Int) (y15 : Int) (P1 : hGM), hIn y14 → hIn y15 → ((∀ (i : Nat) (k : Int), i < 100 → hIn (P1 i k)) → ((y15 < 8 → ((y15 < (P1 1 0) → (p_L_columns A P1 y15 size ∧ (((y15 : Int).toNat) ≤ 8 ∧ ((0 ≤ ((8 * y14) + y15) ∧ ((8 * y14) + y15) < 32) ∧ ((y15 < ((aset P1 10 ((8 * y14) + y15) (v_L_columns A P1 y15 size)) 1 0) → (p_L_lit A (aset P1 10 ((8 * y14) + y15) (v_L_columns A P1 y15 size)) y15 size ∧ ((((y15 : Int).toNat) + 1) ≤ 8 ∧ ((((y15 : Int).toNat) + 1) ≤ (((y15 + 1) : Int).toNat) ∧ (B210 y14 (y15 + 1) (aset (aset P1 10 ((8 * y14) + y15) (v_L_columns A P1 y15 size)) 111 ((8 * y14) + y15) (v_L_lit A (aset P1 10 ((8 * y14) + y15) (v_L_columns A P1 y15 size)) y15 size))))))) ∧ (¬ y15 < ((aset P1 10 ((8 * y14) + y15) (v_L_columns A P1 y15 size)) 1 0) → (((y15 : Int).toNat) ≤ (((y15 + 1) : Int).toNat) ∧ (B210 y14 (y15 + 1) (aset (aset P1 10 ((8 * y14) + y15) (v_L_columns A P1 y15 size)) 111 ((8 * y14) + y15) 0))))))))) ∧ (¬ y15 < (P1 1 0) → ((0 ≤ ((8 * y14) + y15) ∧ ((8 * y14) + y15) < 32) ∧ ((y15 < ((aset P1 10 ((8 * y14) + y15) 0) 1 0) → (p_L_lit A (aset P1 10 ((8 * y14) + y15) 0) y15 size ∧ ((((y15 : Int).toNat) + 1) ≤ 8 ∧ ((((y15 : Int).toNat) + 1) ≤ (((y15 + 1) : Int).toNat) ∧ (B210 y14 (y15 + 1) (aset (aset P1 10 ((8 * y14) + y15) 0) 111 ((8 * y14) + y15) (v_L_lit A (aset P1 10 ((8 * y14) + y15) 0) y15 size))))))) ∧ (¬ y15 < ((aset P1 10 ((8 * y14) + y15) 0) 1 0) → (((y15 : Int).toNat) ≤ (((y15 + 1) : Int).toNat) ∧ (B210 y14 (y15 + 1) (aset (aset P1 10 ((8 * y14) + y15) 0) 111 ((8 * y14) + y15) 0))))))))) ∧ (¬ y15 < 8 → (hIn ((P1 1 3) + 1) ∧ (((y15 : Int).toNat) ≤ 8 ∧ (hIn (y14 + 1) ∧ (Po (y14 + 1) (aset P1 1 3 ((P1 1 3) + 1))))))))) → (B210 y14 y15 P1)) 
  (hpost : Po (v_L_make A P size) (m_L_make A P size)) : (((P 8 3) ≤ 0 → (B20 4 0 0 P)) ∧ (¬ (P 8 3) ≤ 0 → (B20 0 0 0 P))) := by
  obtain ⟨hR, ⟨z0, z1⟩, p0, p1⟩ := hp
  have ng := rl_g hR
  have tb := toL_bd (P := P) (z := size) (by omega)
  have fb := frN_4 P size 4 (by decide)
  have sb := shN_bd P 4
  -- the sheet is made
  have hF : ∀ M : hGM, (∀ r : Nat, r < 8 → M r = P r) → Po (toL P size + 1) (aset (fiG A M (toL P size) size 8) 1 3 (P 1 3 + 1)) → B192 (toL P size) M := by
    intro M hM hpo
    refine r192 _ _ ⟨by omega, by omega⟩ (fun _ => ⟨⟨by omega, by omega⟩, Nat.zero_le _, ?_⟩)
    rw [fiG_0 A M (toL P size) size _ (by rw [aset_row (by decide), hM 1 (by decide)]; exact ng.1)]
    refine upN (C := fun k => B210 (toL P size) (k : Int) (fiG A M (toL P size) size k)) 8 ?_ ?_
    · have e1 : fiG A M (toL P size) size ((8 : Nat) : Int) 1 = P 1 := by rw [fiG_lo (by decide), hM 1 (by decide)]
      refine r210 _ _ _ ⟨by omega, by omega⟩ ⟨by omega, by omega⟩ (fun _ => ⟨fun c => by omega, fun _ => ?_⟩)
      rw [e1]
      exact ⟨⟨by omega, by omega⟩, by decide, ⟨by omega, by omega⟩, hpo⟩
    · intro k hk h
      have lo : ∀ r : Nat, r < 8 → fiG A M (toL P size) size k r = P r := fun r hr => by rw [fiG_lo hr, hM r hr]
      have hs := fiG_s A M (toL P size) size k
      have h : B210 (toL P size) ((k : Int) + 1) (fiG A M (toL P size) size ((k : Int) + 1)) := h
      generalize fiG A M (toL P size) size (k : Int) = L at lo hs ⊢
      have hL : RL0 A L := RL0_of hR (by rw [lo 1 (by decide)]; exact ⟨rfl, rfl, rfl⟩) (fun i a b => lo i (by omega))
      have e10 : ∀ x : Int, aset L 10 (8 * toL P size + k) x 1 = P 1 := fun x => by rw [aset_row (by decide), lo 1 (by decide)]
      have hL2 : ∀ x : Int, RL0 A (aset L 10 (8 * toL P size + k) x) := fun x => RL0_of hL (by rw [aset_row (by decide)]; exact ⟨rfl, rfl, rfl⟩) (fun i a b => by rw [aset_row (by omega)])
      refine r210 _ _ _ ⟨by omega, by omega⟩ ⟨by omega, by omega⟩ (fun _ => ⟨fun _ => ?_, fun c => by omega⟩)
      rw [lo 1 (by decide)]
      refine ⟨fun c => ?_, fun c => ⟨⟨by omega, by omega⟩, fun d => ?_, fun d => ⟨by omega, ?_⟩⟩⟩
      · obtain ⟨c1, c2⟩ := colL hL (g := (k : Int)) (z := size) (by omega) (by omega) (by omega) z1
        refine ⟨c1, by omega, ⟨by omega, by omega⟩, fun d => ⟨⟨hL2 _, ⟨by omega, by omega⟩, z0, z1⟩, by omega, by omega, ?_⟩, fun d => by rw [e10] at d; omega⟩
        rw [hs _ _ (by omega) (by rw [if_pos (by omega)]; exact c2) (by rw [if_pos (by omega)]; rfl)]
        exact h
      · rw [e10] at d; omega
      · rw [hs _ _ (by omega) (by rw [if_neg (by omega)]) (by rw [if_neg (by omega)])]
        exact h
  -- the sheets are shifted
  have hS : B73 (frN P size 4) (shN P 4) (frN P size 4) P := by
    have fin : B192 (toL P size) (shG P (frN P size 4) 3 24) := hF _ (fun r hr => shG_lo hr) hpost
    have ex : ∀ k : Int, 3 ≤ k → k ≤ 4 → B73 (frN P size 4) (shN P 4) k (shG P (frN P size 4) 3 24) := by
      intro k k0 k1
      refine r73 _ _ _ _ ⟨by omega, by omega⟩ ⟨by omega, by omega⟩ ⟨by omega, by omega⟩ (fun _ => ⟨fun c => by omega, fun _ => ⟨fun c => ?_, fun c => ?_⟩⟩)
      · have e : toL P size = shN P 4 - 1 := if_pos c
        rw [← e]; exact fin
      · have e : toL P size = shN P 4 := if_neg c
        rw [← e]; exact fin
    by_cases c4 : frN P size 4 = 4
    · have q := ex 4 (by decide) (by decide)
      rw [c4] at q ⊢
      rw [← shG_4] at q
      exact q
    · have key := upI (C := fun k => B73 (frN P size 4) (shN P 4) k (shG P (frN P size 4) k (8 * k))) (lo := frN P size 4) (hi := 3) (by omega) (by
        have q := ex 3 (by decide) (by decide)
        rw [show (24 : Int) = 8 * 3 from rfl] at q
        exact q) (fun k k0 k1 h => by
        refine r73 _ _ _ _ ⟨by omega, by omega⟩ ⟨by omega, by omega⟩ ⟨by omega, by omega⟩ (fun _ => ⟨fun _ => ⟨⟨by omega, by omega⟩, ⟨by omega, by omega⟩, ?_⟩, fun c => by omega⟩)
        rw [shG_k k0]
        have inner := upN (C := fun i => B106 (frN P size 4) (shN P 4) k (i : Int) (shG P (frN P size 4) (k + 1) (8 * k + i))) 8 (r106 _ _ _ _ _ ⟨by omega, by omega⟩ ⟨by omega, by omega⟩ ⟨by omega, by omega⟩ ⟨by omega, by omega⟩ (fun _ => ⟨fun c => by omega, fun _ => by
          rw [show 8 * k + ((8 : Nat) : Int) = 8 * (k + 1) by omega]
          exact h⟩)) (fun i hi hh => by
          refine r106 _ _ _ _ _ ⟨by omega, by omega⟩ ⟨by omega, by omega⟩ ⟨by omega, by omega⟩ ⟨by omega, by omega⟩ (fun _ => ⟨fun _ => ⟨⟨by omega, by omega⟩, ⟨by omega, by omega⟩, ?_⟩, fun c => by omega⟩)
          rw [show 8 * k + 8 + (i : Int) = 8 * k + i + 8 by omega, shG_m (by omega), show 8 * k + (i : Int) + 1 = 8 * k + ((i + 1 : Nat) : Int) by omega]
          exact hh)
        rw [show 8 * k + ((0 : Nat) : Int) = 8 * k by omega] at inner
        exact inner)
      rw [shG_0] at key
      exact key
  -- from where, and how many there are
  have hB : B20 (frN P size 0) (shN P 0) ((0 : Nat) : Int) P := by
    refine upN (C := fun k => B20 (frN P size k) (shN P k) (k : Int) P) 4 ?_ ?_
    · exact r20 _ _ _ _ ⟨by omega, by omega⟩ ⟨by omega, by omega⟩ ⟨by omega, by omega⟩ (fun _ => ⟨fun c => by omega, fun _ => hS⟩)
    · intro k hk h
      have fk := frN_4 P size k (by omega)
      have sk := shN_bd P k
      have ef : frN P size (k + 1) = if P 8 k = size then (k : Int) else frN P size k := rfl
      have es : shN P (k + 1) = shN P k + (if P 8 k ≤ 0 then 0 else 1) := rfl
      rw [ef, es] at h
      refine r20 _ _ _ _ ⟨by omega, by omega⟩ ⟨by omega, by omega⟩ ⟨by omega, by omega⟩ (fun _ => ⟨fun _ => ⟨⟨by omega, by omega⟩, fun c => ⟨fun d => ?_, fun d => ?_⟩, fun c => ⟨fun d => ?_, fun d => ?_⟩⟩, fun c => by omega⟩)
      · rw [if_pos c, if_pos d] at h; exact h
      · rw [if_pos c, if_neg d] at h; exact h
      · rw [if_neg c, if_pos d] at h; exact h
      · rw [if_neg c, if_neg d] at h; exact h
  have e0 : frN P size 0 = if P 8 3 ≤ 0 then 4 else 0 := rfl
  rw [e0] at hB
  exact ⟨fun c => by rw [if_pos c] at hB; exact hB, fun c => by rw [if_neg c] at hB; exact hB⟩

/-! of the class alone: hinted widths, the layout of a glyph at a size (out of whole's parts) -/
theorem iOr_in (a b : Int) : hIn (iOr a b) := hIn_toInt _
theorem hintW_bd {A : hGM} (h : fNum A) {w : Int} (w0 : 0 ≤ w) (w1 : w ≤ 300) : 0 ≤ v_X1_hintedWidth A w ∧ v_X1_hintedWidth A w ≤ 300 := by
  have q := snapOf_bd h w0 (by omega)
  unfold v_X1_hintedWidth
  split <;> omega
theorem wideOf_eq (A : hGM) (w z : Int) : v_X1_wideOf A w z = v_J9_max_7cf53 1 (v_X5_inPixels (v_X1_hintedWidth A w) z) := by
  unfold v_X1_wideOf v_X1_hintedWidth
  split <;> rfl
def pushN (A : hGM) (g z : Int) : Nat → Int
  | 0 => 0
  | n + 1 => if layP A g z n = true then iOr (pushN A g z n) (iShl 1 n) else pushN A g z n
def clipN (A : hGM) (g z : Int) : Nat → Int
  | 0 => 0
  | n + 1 => if layL A g z n < 0 ∨ v_X0_columnsOf (A 1 g) z < layL A g z n + layW A g z n then iOr (clipN A g z n) (iShl 1 n) else clipN A g z n
def litQ (A : hGM) (g z c : Int) : Nat → Bool
  | 0 => false
  | n + 1 => litQ A g z c n || decide (layL A g z n ≤ c ∧ c < layL A g z n + layW A g z n)
theorem pushN_s (A : hGM) (g z : Int) (n : Nat) : pushN A g z (n + 1) = if layP A g z n = true then iOr (pushN A g z n) (iShl 1 n) else pushN A g z n := rfl
theorem clipN_s (A : hGM) (g z : Int) (n : Nat) : clipN A g z (n + 1) = if layL A g z n < 0 ∨ v_X0_columnsOf (A 1 g) z < layL A g z n + layW A g z n then iOr (clipN A g z n) (iShl 1 n) else clipN A g z n := rfl
theorem litQ_s (A : hGM) (g z c : Int) (n : Nat) : litQ A g z c (n + 1) = (litQ A g z c n || decide (layL A g z n ≤ c ∧ c < layL A g z n + layW A g z n)) := rfl
theorem iOr_0 {x : Int} (h : hIn x) : iOr x 0 = x := by
  apply bits_inj (iOr_in _ _) h
  rw [bits_iOr, show bitsOf 0 = 0 from rfl, Nat.or_zero]
theorem pushN_in (A : hGM) (g z : Int) (n : Nat) : hIn (pushN A g z n) := by
  induction n with
  | zero => exact hIn_0
  | succ n ih => rw [pushN_s]; split; exact iOr_in _ _; exact ih
theorem clipN_in (A : hGM) (g z : Int) (n : Nat) : hIn (clipN A g z n) := by
  induction n with
  | zero => exact hIn_0
  | succ n ih => rw [clipN_s]; split; exact iOr_in _ _; exact ih
theorem litUp_bit (v lo : Int) (h0 : 0 ≤ lo) (n : Nat) (h1 : n = 0 ∨ lo + n ≤ 64) (c : Nat) : (bl (litUp v lo n)).testBit c = ((bl v).testBit c || decide (lo ≤ c ∧ c < lo + n)) := by
  induction n with
  | zero =>
    rw [show decide (lo ≤ c ∧ (c : Int) < lo + (0 : Nat)) = false from decide_eq_false (by omega), Bool.or_false]
    rfl
  | succ n ih =>
    have h1 : lo + (n + 1 : Nat) ≤ 64 := by omega
    have ih := ih (Or.inr (by omega))
    show (bl (jOr (litUp v lo n) (jShl 1 (lo + n)))).testBit c = _
    have e : (lo + (n : Int)) = ((lo.toNat + n : Nat) : Int) := by omega
    rw [bl_or, Nat.testBit_or, ih, e, bl_shl1 _ (by omega), Nat.testBit_two_pow, Bool.or_assoc]
    congr 1
    rw [← Bool.decide_or, decide_eq_decide]
    omega
theorem layT_rel (A T : hGM) (g z : Int) (n : Nat) (hn : n ≤ 6) : (∀ k : Nat, k < n → layT A T g z n 1 k = layL A g z k ∧ layT A T g z n 2 k = layW A g z k) ∧ layT A T g z n 0 1 = pushN A g z n ∧ layT A T g z n 0 2 = clipN A g z n ∧ ∀ c : Nat, c < 64 → (bl (layT A T g z n 100 0)).testBit c = (decide ((c : Int) < v_X0_columnsOf (A 1 g) z) && litQ A g z c n) := by
  induction n with
  | zero =>
    refine ⟨fun k hk => by omega, rfl, rfl, fun c hc => ?_⟩
    have e : bl (layT A T g z 0 100 0) = 0 := rfl
    rw [e, Nat.zero_testBit]
    show false = (_ && false)
    rw [Bool.and_false]
  | succ n ih =>
    obtain ⟨i1, i2, i3, i4⟩ := ih (by omega)
    have hC := columns_bd (A 1 g) z
    have i5 := layT_00 A T g z n
    unfold layT
    have hU : ∃ U : hGM, (if layP A g z n = true then aset (layT A T g z n) 0 1 (iOr (layT A T g z n 0 1) (iShl 1 n)) else layT A T g z n) = U ∧ (∀ k : Nat, k < n → U 1 k = layL A g z k ∧ U 2 k = layW A g z k) ∧ U 0 1 = pushN A g z (n + 1) ∧ U 0 2 = clipN A g z n ∧ U 0 0 = v_X0_columnsOf (A 1 g) z ∧ ∀ c : Nat, c < 64 → (bl (U 100 0)).testBit c = (decide ((c : Int) < v_X0_columnsOf (A 1 g) z) && litQ A g z c n) := by
      refine ⟨_, rfl, ?_⟩
      rw [pushN_s]
      by_cases hp : layP A g z n = true
      · rw [if_pos hp, if_pos hp]
        refine ⟨fun k hk => ?_, ?_, ?_, ?_, fun c hc => ?_⟩
        · rw [aset_row (by decide), aset_row (by decide)]; exact i1 k hk
        · rw [aset_at, i2]
        · rw [aset_ne (by omega)]; exact i3
        · rw [aset_ne (by omega)]; exact i5
        · rw [aset_row (by decide)]; exact i4 c hc
      · rw [if_neg hp, if_neg hp]
        exact ⟨i1, i2, i3, i5, i4⟩
    obtain ⟨U, hU, u1, u2, u3, u5, u4⟩ := hU
    rw [hU]
    clear hU
    have hn6 : (n : Int) < (6 : Nat) := by omega
    have p1 : ∀ l w : Int, m_X5_put (m_X5_put U 1 6 n l) 2 6 n w = aset (aset U 1 n l) 2 n w := fun l w => by
      rw [put_in (by omega) hn6, put_in (by omega) hn6]
    unfold m_X0_light lightT
    rw [p1, u5, u3]
    refine ⟨fun k hk => ?_, ?_, ?_, fun c hc => ?_⟩
    · rw [aset_row (by decide), aset_row (by decide)]
      have r : ∀ X : hGM, X = aset (aset U 1 n (layL A g z n)) 2 n (layW A g z n) → X 1 k = layL A g z k ∧ X 2 k = layW A g z k := by
        intro X e
        rw [e]
        by_cases hk2 : k = n
        · subst hk2
          exact ⟨by rw [aset_row (by decide), aset_at], by rw [aset_at]⟩
        · rw [aset_row (by decide), aset_ne (by omega), aset_ne (by omega), aset_row (by decide)]
          exact u1 k (by omega)
      split
      · rw [aset_row (by decide), aset_row (by decide)]
        exact r _ rfl
      · exact r _ rfl
    · rw [aset_row (by decide)]
      split
      · rw [aset_ne (by omega), aset_row (by decide), aset_row (by decide)]; exact u2
      · rw [aset_row (by decide), aset_row (by decide)]; exact u2
    · rw [aset_row (by decide)]
      rw [clipN_s]
      split
      · rw [aset_at]
      · rw [aset_row (by decide), aset_row (by decide)]; exact u3
    · rw [aset_at]
      have m1 : v_J9_max_7cf53 (layL A g z n) 0 = if layL A g z n < 0 then 0 else layL A g z n := rfl
      have m2 : v_J9_min_7cf53 (layL A g z n + layW A g z n) (v_X0_columnsOf (A 1 g) z) = if layL A g z n + layW A g z n ≤ v_X0_columnsOf (A 1 g) z then layL A g z n + layW A g z n else v_X0_columnsOf (A 1 g) z := rfl
      generalize v_J9_max_7cf53 (layL A g z n) 0 = lo at m1 ⊢
      generalize v_J9_min_7cf53 (layL A g z n + layW A g z n) (v_X0_columnsOf (A 1 g) z) = hi at m2 ⊢
      have l0 : 0 ≤ lo := by rw [m1]; split <;> omega
      have hi64 : hi ≤ v_X0_columnsOf (A 1 g) z := by rw [m2]; split <;> omega
      rw [litUp_bit _ _ l0 _ (by omega), u4 c hc]
      rw [litQ_s, Bool.and_or_distrib_left]
      congr 1
      rw [← Bool.decide_and, decide_eq_decide]
      split at m1 <;> split at m2 <;> omega

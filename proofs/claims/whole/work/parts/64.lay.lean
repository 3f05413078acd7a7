/-! the layout of a glyph at a size: class and model -/
def pushN (A : hGM) (g z : Int) : Nat → Int
  | 0 => 0
  | n + 1 => if layP A g z n = true then iOr (pushN A g z n) (iShl 1 n) else pushN A g z n
def clipN (A : hGM) (g z : Int) : Nat → Int
  | 0 => 0
  | n + 1 => if layL A g z n < 0 ∨ v_X0_columnsOf (A 1 g) z < layL A g z n + layW A g z n then iOr (clipN A g z n) (iShl 1 n) else clipN A g z n
def litQ (A : hGM) (g z c : Int) : Nat → Bool
  | 0 => false
  | n + 1 => litQ A g z c n || decide (layL A g z n ≤ c ∧ c < layL A g z n + layW A g z n)
theorem pushN_s (A : hGM) (g z : Int) (n : Nat) : pushN A g z (n + 1) = if layP A g z n = true then iOr (pushN A g z n) (iShl 1 n) else pushN A g z n := rfl
theorem clipN_s (A : hGM) (g z : Int) (n : Nat) : clipN A g z (n + 1) = if layL A g z n < 0 ∨ v_X0_columnsOf (A 1 g) z < layL A g z n + layW A g z n then iOr (clipN A g z n) (iShl 1 n) else clipN A g z n := rfl
theorem litQ_s (A : hGM) (g z c : Int) (n : Nat) : litQ A g z c (n + 1) = (litQ A g z c n || decide (layL A g z n ≤ c ∧ c < layL A g z n + layW A g z n)) := rfl
theorem cutN_s (P : hGM) (g z : Int) (n : Nat) : cutN P g z (n + 1) = iOr (cutN P g z n) (if P 5 n < 0 ∨ ¬ P 5 n + P 6 n ≤ v_X6_columns P g z then iShl 1 n else 0) := rfl
theorem litN_s (P : hGM) (c : Int) (n : Nat) : litN P c (n + 1) = if litN P c n = 0 then (if v_X6_in (c - P 5 n) 0 (P 6 n - 1) = 0 then 0 else 1) else 1 := rfl
theorem halfN_s (P : hGM) (g z h : Int) (n : Nat) : halfN P g z h (n + 1) = iOr (halfN P g z h n) (if 32 * h + n < v_X6_columns P g z ∧ ¬ v_X6_isLit P g (32 * h + n) = 0 then iShl 1 n else 0) := rfl
theorem iOr_0 {x : Int} (h : hIn x) : iOr x 0 = x := by
  apply bits_inj (iOr_in _ _) h
  rw [bits_iOr, show bitsOf 0 = 0 from rfl, Nat.or_zero]
theorem pushN_in (A : hGM) (g z : Int) (n : Nat) : hIn (pushN A g z n) := by
  induction n with
  | zero => exact hIn_0
  | succ n ih => rw [pushN_s]; split; exact iOr_in _ _; exact ih
theorem clipN_in (A : hGM) (g z : Int) (n : Nat) : hIn (clipN A g z n) := by
  induction n with
  | zero => exact hIn_0
  | succ n ih => rw [clipN_s]; split; exact iOr_in _ _; exact ih
theorem litUp_bit (v lo : Int) (h0 : 0 ≤ lo) (n : Nat) (h1 : n = 0 ∨ lo + n ≤ 64) (c : Nat) : (bl (litUp v lo n)).testBit c = ((bl v).testBit c || decide (lo ≤ c ∧ c < lo + n)) := by
  induction n with
  | zero =>
    rw [show decide (lo ≤ c ∧ (c : Int) < lo + (0 : Nat)) = false from decide_eq_false (by omega), Bool.or_false]
    rfl
  | succ n ih =>
    have h1 : lo + (n + 1 : Nat) ≤ 64 := by omega
    have ih := ih (Or.inr (by omega))
    show (bl (jOr (litUp v lo n) (jShl 1 (lo + n)))).testBit c = _
    have e : (lo + (n : Int)) = ((lo.toNat + n : Nat) : Int) := by omega
    rw [bl_or, Nat.testBit_or, ih, e, bl_shl1 _ (by omega), Nat.testBit_two_pow, Bool.or_assoc]
    congr 1
    rw [← Bool.decide_or, decide_eq_decide]
    omega
theorem layT_rel (A T : hGM) (g z : Int) (n : Nat) (hn : n ≤ 6) : (∀ k : Nat, k < n → layT A T g z n 1 k = layL A g z k ∧ layT A T g z n 2 k = layW A g z k) ∧ layT A T g z n 0 1 = pushN A g z n ∧ layT A T g z n 0 2 = clipN A g z n ∧ ∀ c : Nat, c < 64 → (bl (layT A T g z n 100 0)).testBit c = (decide ((c : Int) < v_X0_columnsOf (A 1 g) z) && litQ A g z c n) := by
  induction n with
  | zero =>
    refine ⟨fun k hk => by omega, rfl, rfl, fun c hc => ?_⟩
    have e : bl (layT A T g z 0 100 0) = 0 := rfl
    rw [e, Nat.zero_testBit]
    show false = (_ && false)
    rw [Bool.and_false]
  | succ n ih =>
    obtain ⟨i1, i2, i3, i4⟩ := ih (by omega)
    have hC := columns_bd (A 1 g) z
    have i5 := layT_00 A T g z n
    unfold layT
    have hU : ∃ U : hGM, (if layP A g z n = true then aset (layT A T g z n) 0 1 (iOr (layT A T g z n 0 1) (iShl 1 n)) else layT A T g z n) = U ∧ (∀ k : Nat, k < n → U 1 k = layL A g z k ∧ U 2 k = layW A g z k) ∧ U 0 1 = pushN A g z (n + 1) ∧ U 0 2 = clipN A g z n ∧ U 0 0 = v_X0_columnsOf (A 1 g) z ∧ ∀ c : Nat, c < 64 → (bl (U 100 0)).testBit c = (decide ((c : Int) < v_X0_columnsOf (A 1 g) z) && litQ A g z c n) := by
      refine ⟨_, rfl, ?_⟩
      rw [pushN_s]
      by_cases hp : layP A g z n = true
      · rw [if_pos hp, if_pos hp]
        refine ⟨fun k hk => ?_, ?_, ?_, ?_, fun c hc => ?_⟩
        · rw [aset_row (by decide), aset_row (by decide)]; exact i1 k hk
        · rw [aset_at, i2]
        · rw [aset_ne (by omega)]; exact i3
        · rw [aset_ne (by omega)]; exact i5
        · rw [aset_row (by decide)]; exact i4 c hc
      · rw [if_neg hp, if_neg hp]
        exact ⟨i1, i2, i3, i5, i4⟩
    obtain ⟨U, hU, u1, u2, u3, u5, u4⟩ := hU
    rw [hU]
    clear hU
    have hn6 : (n : Int) < (6 : Nat) := by omega
    have p1 : ∀ l w : Int, m_X5_put (m_X5_put U 1 6 n l) 2 6 n w = aset (aset U 1 n l) 2 n w := fun l w => by
      rw [put_in (by omega) hn6, put_in (by omega) hn6]
    unfold m_X0_light lightT
    rw [p1, u5, u3]
    refine ⟨fun k hk => ?_, ?_, ?_, fun c hc => ?_⟩
    · rw [aset_row (by decide), aset_row (by decide)]
      have r : ∀ X : hGM, X = aset (aset U 1 n (layL A g z n)) 2 n (layW A g z n) → X 1 k = layL A g z k ∧ X 2 k = layW A g z k := by
        intro X e
        rw [e]
        by_cases hk2 : k = n
        · subst hk2
          exact ⟨by rw [aset_row (by decide), aset_at], by rw [aset_at]⟩
        · rw [aset_row (by decide), aset_ne (by omega), aset_ne (by omega), aset_row (by decide)]
          exact u1 k (by omega)
      split
      · rw [aset_row (by decide), aset_row (by decide)]
        exact r _ rfl
      · exact r _ rfl
    · rw [aset_row (by decide)]
      split
      · rw [aset_ne (by omega), aset_row (by decide), aset_row (by decide)]; exact u2
      · rw [aset_row (by decide), aset_row (by decide)]; exact u2
    · rw [aset_row (by decide)]
      rw [clipN_s]
      split
      · rw [aset_at]
      · rw [aset_row (by decide), aset_row (by decide)]; exact u3
    · rw [aset_at]
      have m1 : v_J9_max_7cf53 (layL A g z n) 0 = if layL A g z n < 0 then 0 else layL A g z n := rfl
      have m2 : v_J9_min_7cf53 (layL A g z n + layW A g z n) (v_X0_columnsOf (A 1 g) z) = if layL A g z n + layW A g z n ≤ v_X0_columnsOf (A 1 g) z then layL A g z n + layW A g z n else v_X0_columnsOf (A 1 g) z := rfl
      generalize v_J9_max_7cf53 (layL A g z n) 0 = lo at m1 ⊢
      generalize v_J9_min_7cf53 (layL A g z n + layW A g z n) (v_X0_columnsOf (A 1 g) z) = hi at m2 ⊢
      have l0 : 0 ≤ lo := by rw [m1]; split <;> omega
      have hi64 : hi ≤ v_X0_columnsOf (A 1 g) z := by rw [m2]; split <;> omega
      rw [litUp_bit _ _ l0 _ (by omega), u4 c hc]
      rw [litQ_s, Bool.and_or_distrib_left]
      congr 1
      rw [← Bool.decide_and, decide_eq_decide]
      split at m1 <;> split at m2 <;> omega
theorem laS_rel {A P : hGM} (h : Rel0 A (P 1)) {g z : Int} (g0 : 0 ≤ g) (g1 : g < 8) (z0 : 0 ≤ z) (z1 : z ≤ 48) (n : Nat) (hn : (n : Int) ≤ A 2 g) : (∀ k : Nat, k < n → laS P g z n 5 k = layL A g z k ∧ laS P g z n 6 k = layW A g z k) ∧ laS P g z n 0 9 = pushN A g z n := by
  induction n with
  | zero => exact ⟨fun k hk => by omega, by show aset P 0 9 0 0 9 = 0; rw [aset_at]⟩
  | succ n ih =>
    obtain ⟨i1, i2⟩ := ih (by omega)
    have e1 : laS P g z n 1 = P 1 := laS_row n (by decide) (by decide) (by decide)
    have mb := rel_many h g0 g1
    unfold laS
    generalize laS P g z n = L at i1 i2 e1 ⊢
    have hL : Rel0 A (L 1) := by rw [e1]; exact h
    have hw := wide_rel hL g0 g1 (k := n) (by omega) (by omega) z0 z1
    have wn : aset L 6 n (v_X6_pixelsOf L g n z) 6 n = layW A g z n := by rw [aset_at, hw]
    have w1 : aset L 6 n (v_X6_pixelsOf L g n z) 1 = L 1 := aset_row (by decide)
    have rr := round_rel (A := A) (P := aset L 6 n (v_X6_pixelsOf L g n z)) (by rw [w1]; exact hL) g0 g1 (k := n) (by omega) (by omega) z0 z1 wn
    have old : ∀ k : Nat, k < n → (laA L g z n) 5 k = layL A g z k ∧ (laA L g z n) 6 k = layW A g z k := by
      intro k hk
      unfold laA
      rw [aset_ne (by omega), aset_row (by decide), aset_row (by decide), aset_ne (by omega)]
      exact i1 k hk
    have new6 : (laA L g z n) 6 n = layW A g z n := by
      unfold laA
      rw [aset_row (by decide)]
      exact wn
    have o9 : (laA L g z n) 0 9 = pushN A g z n := by
      unfold laA
      rw [aset_row (by decide), aset_row (by decide)]
      exact i2
    have la1 : (laA L g z n) 1 = L 1 := by
      unfold laA
      rw [aset_row (by decide), aset_row (by decide)]
    have new5 : (laA L g z n) 5 n = v_X6_rounded (aset L 6 n (v_X6_pixelsOf L g n z)) g n z := by
      unfold laA
      rw [aset_at]
    rw [rr] at new5
    cases n with
    | zero =>
      rw [if_pos (by decide)]
      rw [if_neg (by omega)] at new5
      refine ⟨fun k hk => ?_, ?_⟩
      · have : k = 0 := by omega
        subst this
        exact ⟨new5, new6⟩
      · rw [o9]
        rfl
    | succ m =>
      rw [if_neg (by omega)]
      have q2 := i1 m (by omega)
      have cs : ((m + 1 : Nat) : Int) = (m : Int) + 1 := by omega
      have v5 : (aset L 6 ((m + 1 : Nat) : Int) (v_X6_pixelsOf L g ((m + 1 : Nat) : Int) z)) 5 (((m + 1 : Nat) : Int) - 1) = layL A g z m := by
        rw [aset_row (by decide), show ((m + 1 : Nat) : Int) - 1 = m by omega]; exact q2.1
      have v6 : (aset L 6 ((m + 1 : Nat) : Int) (v_X6_pixelsOf L g ((m + 1 : Nat) : Int) z)) 6 (((m + 1 : Nat) : Int) - 1) = layW A g z m := by
        rw [aset_ne (by omega), show ((m + 1 : Nat) : Int) - 1 = m by omega]; exact q2.2
      have r5 : (laA L g z ((m + 1 : Nat) : Int)) 5 ((m + 1 : Nat) : Int) = layR A g z m (layL A g z m + layW A g z m) := by
        rw [new5, v5, v6]
        unfold layR layG
        rw [cs, show (m : Int) + 1 - 1 = m by omega]
        by_cases c3 : A 5 (g * 6 + ((m : Int) + 1)) = 3
        · rw [if_pos (show A 5 (g * 6 + ((m : Int) + 1)) = 3 ∧ 0 < (m : Int) + 1 from ⟨c3, by omega⟩), if_pos c3]
        · rw [if_neg (by omega), if_neg c3]
      have hM : laM (laA L g z ((m + 1 : Nat) : Int)) g ((m + 1 : Nat) : Int) = layM A g m (layL A g z m + layW A g z m) := by
        have hla : Rel0 A ((laA L g z ((m + 1 : Nat) : Int)) 1) := by rw [la1]; exact hL
        have s1 := ofStem_rel hla g0 g1 (k := ((m + 1 : Nat) : Int)) (by omega) (by omega)
        have s2 := ofStem_rel hla g0 g1 (k := (m : Int)) (by omega) (by omega)
        have o := old m (by omega)
        unfold laM layM layG v_X6_endOf
        rw [show ((m + 1 : Nat) : Int) - 1 = m by omega, s1.1, s2.1, s2.2.1, o.1, o.2, cs]
      unfold laB
      rw [hM, r5, o9]
      refine ⟨fun k hk => ?_, ?_⟩
      · by_cases hk2 : k = m + 1
        · subst hk2
          rw [aset_at, aset_row (by decide), aset_row (by decide)]
          exact ⟨rfl, new6⟩
        · rw [aset_ne (by omega), aset_row (by decide), aset_row (by decide), aset_row (by decide)]
          exact old k (by omega)
      · rw [aset_row (by decide), aset_at]
        show _ = if layP A g z (m + 1) = true then iOr (pushN A g z (m + 1)) (iShl 1 ((m + 1 : Nat) : Int)) else pushN A g z (m + 1)
        by_cases c : layR A g z m (layL A g z m + layW A g z m) < layM A g m (layL A g z m + layW A g z m)
        · rw [if_pos c, if_pos (show layP A g z (m + 1) = true from decide_eq_true c)]
        · rw [if_neg c, if_neg (show ¬ layP A g z (m + 1) = true from fun q => c (of_decide_eq_true q)), iOr_0 (pushN_in _ _ _ _)]
/-- what the model's later looks see of the layout -/
theorem cutN_rel {A L : hGM} {g z : Int} {n : Nat} (hc : v_X6_columns L g z = v_X0_columnsOf (A 1 g) z) (hl : ∀ k : Nat, k < n → L 5 k = layL A g z k ∧ L 6 k = layW A g z k) (m : Nat) (hm : m ≤ n) : cutN L g z m = clipN A g z m := by
  induction m with
  | zero => rfl
  | succ m ih =>
    have ih := ih (by omega)
    have q := hl m (by omega)
    rw [cutN_s, clipN_s, ih, q.1, q.2, hc]
    by_cases c : layL A g z m < 0 ∨ v_X0_columnsOf (A 1 g) z < layL A g z m + layW A g z m
    · rw [if_pos c, if_pos (by omega)]
    · rw [if_neg c, if_neg (by omega), iOr_0 (clipN_in _ _ _ _)]
theorem litN_rel {A L : hGM} {g z c : Int} {n : Nat} (hl : ∀ k : Nat, k < n → L 5 k = layL A g z k ∧ L 6 k = layW A g z k) (m : Nat) (hm : m ≤ n) : litN L c m = if litQ A g z c m = true then 1 else 0 := by
  induction m with
  | zero => rfl
  | succ m ih =>
    have ih := ih (by omega)
    have q := hl m (by omega)
    rw [litN_s, litQ_s, ih, q.1, q.2]
    by_cases c1 : litQ A g z c m = true
    · rw [if_pos c1, if_neg (by decide), if_pos (by rw [c1]; rfl)]
    · rw [if_neg c1, if_pos rfl, Bool.eq_false_iff.mpr c1, Bool.false_or]
      by_cases c2 : layL A g z m ≤ c ∧ c < layL A g z m + layW A g z m
      · rw [if_neg (by rw [in_0]; omega), if_pos (decide_eq_true c2)]
      · rw [if_pos (in_0.mpr (by omega)), if_neg (fun q => c2 (of_decide_eq_true q))]
theorem halfN_bit {A L : hGM} {g z h : Int} (f : Int → Bool) (hc : v_X6_columns L g z = v_X0_columnsOf (A 1 g) z) (hf : ∀ c : Int, v_X6_isLit L g c = if f c = true then 1 else 0) (n : Nat) (hn : n ≤ 32) (c : Nat) : (bitsOf (halfN L g z h n)).testBit c = (decide (c < n) && (decide (32 * h + c < v_X0_columnsOf (A 1 g) z) && f (32 * h + c))) := by
  induction n with
  | zero =>
    rw [show halfN L g z h 0 = 0 from rfl, show bitsOf 0 = 0 from rfl, Nat.zero_testBit, decide_eq_false (by omega), Bool.false_and]
  | succ n ih =>
    have ih := ih (by omega)
    rw [halfN_s, bits_iOr, Nat.testBit_or, ih, hc, hf]
    by_cases c1 : (32 * h + (n : Int) < v_X0_columnsOf (A 1 g) z) ∧ f (32 * h + n) = true
    · rw [if_pos (by refine ⟨c1.1, ?_⟩; rw [if_pos c1.2]; decide), bits_shl1 n (by omega), Nat.testBit_two_pow]
      by_cases e : n = c
      · subst e
        rw [decide_eq_true (rfl : n = n), decide_eq_true (show n < n + 1 by omega), decide_eq_true c1.1, c1.2, Bool.or_true]
        rfl
      · rw [decide_eq_false e, Bool.or_false]
        congr 1
        rw [decide_eq_decide]; omega
    · rw [if_neg (by
        rintro ⟨a, b⟩
        refine c1 ⟨a, ?_⟩
        by_cases d : f (32 * h + n) = true
        · exact d
        · rw [if_neg d] at b; exact absurd rfl b), show bitsOf 0 = 0 from rfl, Nat.zero_testBit, Bool.or_false]
      by_cases e : n = c
      · subst e
        have : (decide (32 * h + (n : Int) < v_X0_columnsOf (A 1 g) z) && f (32 * h + n)) = false := by
          cases d1 : decide (32 * h + (n : Int) < v_X0_columnsOf (A 1 g) z) with
          | false => rfl
          | true =>
            cases d2 : f (32 * h + n) with
            | false => rfl
            | true => exact absurd ⟨of_decide_eq_true d1, d2⟩ c1
        rw [this, Bool.and_false, Bool.and_false]
      · congr 1
        rw [decide_eq_decide]; omega
/-- the fit of a glyph at a size, in the class (T') and in the model (L) -/
def FitR (A : hGM) (g z : Int) (T' L : hGM) : Prop :=
  (T' 0 0 = v_X6_columns L g z ∧ 1 ≤ T' 0 0 ∧ T' 0 0 ≤ 64) ∧ (T' 0 1 = L 0 9) ∧ (T' 0 2 = v_X6_cuts L g z) ∧
  (∀ k : Int, 0 ≤ k → k < A 2 g → T' 1 k = L 5 k ∧ T' 2 k = L 6 k) ∧
  (∀ c : Nat, c < 64 → (bl (T' 100 0)).testBit c = (decide ((c : Int) < T' 0 0) && decide (¬ v_X6_isLit L g c = 0))) ∧
  hlv (T' 100 0) (v_X6_litHalf L g z 0) (v_X6_litHalf L g z 1)
theorem fit_of {A T P L : hGM} (h : Rel0 A (P 1)) {g z : Int} (g0 : 0 ≤ g) (g1 : g < A 0 0) (z0 : 0 ≤ z) (z1 : z ≤ 48) (h5 : ∀ k : Nat, (k : Int) < A 2 g → L 5 k = m_X6_lays P g z 5 k ∧ L 6 k = m_X6_lays P g z 6 k) (h0 : L 0 9 = m_X6_lays P g z 0 9) (h1 : Rel0 A (L 1)) : FitR A g z (m_X0_lay A T g z) L := by
  have n := rel_g h
  have mb := rel_many h g0 (by omega)
  have em : v_X6_of L g 1 = A 2 g := rel_of h1 g0 (by omega)
  have ep : v_X6_of P g 1 = A 2 g := rel_of h g0 (by omega)
  have hC : v_X6_columns L g z = v_X0_columnsOf (A 1 g) z := columns_rel h1 g0 g1 z0 z1
  have cb := columns_bd (A 1 g) z
  obtain ⟨a1, a2, a3, a4⟩ := layT_rel A T g z (A 2 g).toNat (by omega)
  obtain ⟨b1, b2⟩ := laS_rel h g0 (by omega) z0 z1 (A 2 g).toNat (by omega)
  have e6 : m_X6_lays P g z = laS P g z (A 2 g).toNat := by unfold m_X6_lays; rw [ep]
  rw [e6] at h0
  have hl : ∀ k : Nat, k < (A 2 g).toNat → L 5 k = layL A g z k ∧ L 6 k = layW A g z k := fun k hk => by
    have q := h5 k (by omega)
    have q2 := b1 k hk
    rw [e6] at q
    exact ⟨q.1.trans q2.1, q.2.trans q2.2⟩
  have hlit : ∀ c : Int, v_X6_isLit L g c = if litQ A g z c (A 2 g).toNat = true then 1 else 0 := fun c => by
    unfold v_X6_isLit
    rw [em]
    exact litN_rel hl _ (Nat.le_refl _)
  have t00 : m_X0_lay A T g z 0 0 = v_X0_columnsOf (A 1 g) z := layT_00 A T g z _
  have hbit : ∀ c : Nat, c < 64 → (bl (m_X0_lay A T g z 100 0)).testBit c = (decide ((c : Int) < v_X0_columnsOf (A 1 g) z) && litQ A g z c (A 2 g).toNat) := a4
  refine ⟨⟨by rw [hC, t00], by rw [t00]; exact cb.1, by rw [t00]; exact cb.2⟩, ?_, ?_, fun k k0 k1 => ?_, fun c hc => ?_, ?_⟩
  · rw [h0, b2]; exact a2
  · unfold v_X6_cuts
    rw [em, cutN_rel hC hl _ (Nat.le_refl _)]
    exact a3
  · have q := a1 k.toNat (by omega)
    have q2 := hl k.toNat (by omega)
    rw [Int.toNat_of_nonneg k0] at q q2
    exact ⟨q.1.trans q2.1.symm, q.2.trans q2.2.symm⟩
  · rw [hbit c hc, t00, hlit]
    congr 1
    cases litQ A g z c (A 2 g).toNat <;> rfl
  · unfold hlv
    apply Nat.eq_of_testBit_eq
    intro i
    have hb0 := halfN_bit (h := 0) (fun c => litQ A g z c (A 2 g).toNat) hC hlit 32 (by decide) i
    have hb1 := halfN_bit (h := 1) (fun c => litQ A g z c (A 2 g).toNat) hC hlit 32 (by decide) (i - 32)
    have e := Nat.testBit_two_pow_mul_add (bitsOf (v_X6_litHalf L g z 1)) (b := bitsOf (v_X6_litHalf L g z 0)) (i := 32) (bitsOf_lt _) i
    have e : (4294967296 * bitsOf (v_X6_litHalf L g z 1) + bitsOf (v_X6_litHalf L g z 0)).testBit i = _ := e
    rw [e]
    unfold v_X6_litHalf
    by_cases i3 : i < 32
    · rw [if_pos i3, hb0, hbit i (by omega), decide_eq_true i3, Bool.true_and]
      show _ = (decide (32 * 0 + (i : Int) < _) && litQ A g z (32 * 0 + (i : Int)) _)
      rw [show 32 * 0 + (i : Int) = i by omega]
    · rw [if_neg i3, hb1]
      by_cases i6 : i < 64
      · rw [hbit i i6, decide_eq_true (show i - 32 < 32 by omega), Bool.true_and]
        show _ = (decide (32 * 1 + ((i - 32 : Nat) : Int) < _) && litQ A g z (32 * 1 + ((i - 32 : Nat) : Int)) _)
        rw [show 32 * 1 + ((i - 32 : Nat) : Int) = i by omega]
      · rw [decide_eq_false (show ¬ i - 32 < 32 by omega), Bool.false_and]
        exact Nat.testBit_lt_two_pow (Nat.lt_of_lt_of_le (bl_lt _) (Nat.pow_le_pow_right (n := 2) (i := 64) (by decide) (by omega)))
theorem fit_rel {A P : hGM} (T : hGM) (h : Rel0 A (P 1)) {g z : Int} (g0 : 0 ≤ g) (g1 : g < A 0 0) (z0 : 0 ≤ z) (z1 : z ≤ 48) : FitR A g z (m_X0_lay A T g z) (m_X6_lays P g z) :=
  fit_of h g0 g1 z0 z1 (fun _ _ => ⟨rfl, rfl⟩) rfl (by rw [lays_1]; exact h)

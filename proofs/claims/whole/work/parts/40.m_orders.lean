def p_X3_append (O : hGM) (sign : Int) : Prop := (((O 0 1) < 60 → (hIn (((m_X5_put O 1 60 (O 0 1) sign) 0 1) + 1) ∧ True)) ∧ (¬ (O 0 1) < 60 → True))
def v_X3_append (O : hGM) (sign : Int) : Int := (if (O 0 1) < 60 then 1 else 0)
def m_X3_append (O : hGM) (sign : Int) : hGM := (if (O 0 1) < 60 then (aset (m_X5_put O 1 60 (O 0 1) sign) 0 1 (((m_X5_put O 1 60 (O 0 1) sign) 0 1) + 1)) else O)
theorem z_X3_append (O : hGM) (sign : Int) : v_X3_append O sign = 0 ∨ v_X3_append O sign = 1 := by
  unfold v_X3_append
  (repeat' split) <;> first | exact Or.inl rfl | exact Or.inr rfl
def v_X3_signAt (O : hGM) (at1 : Int) : Int := (if at1 < (O 0 1) then (v_X5_cell O 1 60 at1) else 0)
def v_X3_numbersOf (letter : Int) : Int := (if letter = 103 then 1 else (if letter = 104 then 3 else (if letter = 109 then 1 else (if letter = 115 then 3 else (if letter = 119 then 1 else 0)))))
def p_X3_isNumber (O : hGM) (which : Int) : Prop := 0 ≤ O 0 3 ∧ O 0 3 ≤ 100000
/-- how many of the next n signs, from r on, are digits ahead of the first that is none -/
def dgN (O : hGM) (r : Int) : Nat → Nat
  | 0 => 0
  | n + 1 => if dgN O r n = n ∧ 48 ≤ v_X3_signAt O (r + n) ∧ v_X3_signAt O (r + n) ≤ 57 then n + 1 else dgN O r n
def numV (O : hGM) (r : Int) : Nat → Int
  | 0 => 0
  | n + 1 => numV O r n * 10 + v_X3_signAt O (r + n) - 48
def v_X3_isNumber (O : hGM) (which : Int) : Int := if dgN O (O 0 3) 4 = 0 then 0 else 1
def m_X3_isNumber (O : hGM) (which : Int) : hGM := m_X5_put (aset O 0 3 (O 0 3 + (dgN O (O 0 3) 4 : Nat))) 2 3 which (numV O (O 0 3) (dgN O (O 0 3) 4))
theorem z_X3_isNumber (O : hGM) (which : Int) : v_X3_isNumber O which = 0 ∨ v_X3_isNumber O which = 1 := by
  unfold v_X3_isNumber
  split
  · exact Or.inl rfl
  · exact Or.inr rfl
theorem dgN_le (O : hGM) (r : Int) (n : Nat) : dgN O r n ≤ n := by
  induction n with
  | zero => exact Nat.le_refl _
  | succ n ih => unfold dgN; split <;> omega
theorem dgN_stop {O : hGM} {r : Int} {n : Nat} (h : dgN O r n < n) (k : Nat) : dgN O r (n + k) = dgN O r n := by
  induction k with
  | zero => rfl
  | succ k ih =>
    show (if dgN O r (n + k) = n + k ∧ _ ∧ _ then n + k + 1 else dgN O r (n + k)) = _
    rw [if_neg (by omega), ih]
theorem dgN_dig {O : hGM} {r : Int} {n : Nat} (h : dgN O r n = n) : ∀ k : Nat, k < n → dgN O r k = k ∧ 48 ≤ v_X3_signAt O (r + k) ∧ v_X3_signAt O (r + k) ≤ 57 := by
  induction n with
  | zero => intro k hk; omega
  | succ n ih =>
    have hl := dgN_le O r n
    have h2 : dgN O r n = n ∧ 48 ≤ v_X3_signAt O (r + n) ∧ v_X3_signAt O (r + n) ≤ 57 := by
      by_cases c : dgN O r n = n ∧ 48 ≤ v_X3_signAt O (r + n) ∧ v_X3_signAt O (r + n) ≤ 57
      · exact c
      · have e : dgN O r (n + 1) = dgN O r n := if_neg c
        omega
    intro k hk
    by_cases hkn : k = n
    · subst hkn; exact h2
    · exact ih h2.1 k (by omega)
theorem numV_bd {O : hGM} {r : Int} {n : Nat} (h : dgN O r n = n) : 0 ≤ numV O r n ∧ numV O r n < (10 : Int) ^ n := by
  have hd := dgN_dig h
  clear h
  induction n with
  | zero => exact ⟨Int.le_refl _, show (0 : Int) < 1 by decide⟩
  | succ n ih =>
    have b := ih (fun k hk => hd k (by omega))
    have c := hd n (by omega)
    unfold numV
    rw [Int.pow_succ]
    omega
set_option maxHeartbeats 4000000 in
theorem x_X3_isNumber (O : hGM) (which : Int) (h_which : hIn which) (hRO : ∀ (i : Nat) (k : Int), i < 100 → hIn (O i k)) (hp : p_X3_isNumber O which) (B4 : Int → Int → hGM → Prop) (Po : Int → hGM → Prop) 
  (r4 : ∀ (y2 : Int) (y3 : Int) (O1 : hGM), hIn y2 → hIn y3 → ((∀ (i : Nat) (k : Int), i < 100 → hIn (O1 i k)) → ((y3 < 4 → (((v_X5_within (v_X3_signAt O1 (O1 0 3)) 48 57) = 0 → ((y3 ≤ 0 → (Po 0 (m_X5_put O1 2 3 which y2))) ∧ (¬ y3 ≤ 0 → (Po 1 (m_X5_put O1 2 3 which y2))))) ∧ (¬ (v_X5_within (v_X3_signAt O1 (O1 0 3)) 48 57) = 0 → (hIn ((O1 0 3) + 1) ∧ (B4 (((y2 * 10) + (v_X3_signAt O1 (O1 0 3))) - 48) (y3 + 1) (aset O1 0 3 ((O1 0 3) + 1))))))) ∧ (¬ y3 < 4 → ((y3 ≤ 0 → (Po 0 (m_X5_put O1 2 3 which y2))) ∧ (¬ y3 ≤ 0 → (Po 1 (m_X5_put O1 2 3 which y2))))))) → (B4 y2 y3 O1)) 
  (hpost : Po (v_X3_isNumber O which) (m_X3_isNumber O which)) : (B4 0 0 O) := by
  obtain ⟨q0, q1⟩ := hp
  have hs : ∀ x y : Int, v_X3_signAt (aset O 0 3 x) y = v_X3_signAt O y := fun x y => rfl
  have key : ∀ k : Nat, k ≤ 4 → dgN O (O 0 3) k = k → B4 (numV O (O 0 3) k) (k : Int) (aset O 0 3 (O 0 3 + (k : Nat))) := by
    have kd : ∀ d k : Nat, k + d = 4 → dgN O (O 0 3) k = k → B4 (numV O (O 0 3) k) (k : Int) (aset O 0 3 (O 0 3 + (k : Nat))) := by
      intro d
      induction d with
      | zero =>
        intro k h1 h2
        have ek : k = 4 := by omega
        subst ek
        have b := numV_bd h2
        have b2 : numV O (O 0 3) 4 < 10000 := b.2
        unfold v_X3_isNumber m_X3_isNumber at hpost
        rw [h2, if_neg (by decide)] at hpost
        exact r4 _ _ _ ⟨by omega, by omega⟩ ⟨by omega, by omega⟩ (fun _ => ⟨fun z => absurd z (by omega), fun _ => ⟨fun z => absurd z (by omega), fun _ => hpost⟩⟩)
      | succ d ih =>
        intro k h1 h2
        have b := numV_bd h2
        have b2 : numV O (O 0 3) k < 10000 := by
          have hk : k = 0 ∨ k = 1 ∨ k = 2 ∨ k = 3 := by omega
          rcases hk with rfl | rfl | rfl | rfl
          · have : numV O (O 0 3) 0 < 1 := b.2
            omega
          · have : numV O (O 0 3) 1 < 10 := b.2
            omega
          · have : numV O (O 0 3) 2 < 100 := b.2
            omega
          · have : numV O (O 0 3) 3 < 1000 := b.2
            omega
        have e3 : (aset O 0 3 (O 0 3 + (k : Nat))) 0 3 = O 0 3 + (k : Nat) := aset_at _ _ _ _
        refine r4 _ _ _ ⟨by omega, by omega⟩ ⟨by omega, by omega⟩ (fun _ => ⟨fun _ => ?_, fun z => absurd z (by omega)⟩)
        rw [e3, hs, aset_aset]
        refine ⟨fun c => ?_, fun c => ⟨⟨by omega, by omega⟩, ?_⟩⟩
        · have hn : ¬ (dgN O (O 0 3) k = k ∧ 48 ≤ v_X3_signAt O (O 0 3 + k) ∧ v_X3_signAt O (O 0 3 + k) ≤ 57) := fun z => within_0.mp c z.2
          have e1 : dgN O (O 0 3) (k + 1) = k := (if_neg hn).trans h2
          have e4 : dgN O (O 0 3) 4 = k := by
            have := dgN_stop (O := O) (r := O 0 3) (n := k + 1) (by omega) d
            rw [show k + 1 + d = 4 by omega] at this
            omega
          unfold v_X3_isNumber m_X3_isNumber at hpost
          rw [e4] at hpost
          refine ⟨fun z => ?_, fun z => ?_⟩
          · rw [if_pos (by omega)] at hpost; exact hpost
          · rw [if_neg (by omega)] at hpost; exact hpost
        · have hw : 48 ≤ v_X3_signAt O (O 0 3 + k) ∧ v_X3_signAt O (O 0 3 + k) ≤ 57 := Decidable.not_not.mp (fun z => c (within_0.mpr z))
          have e1 : dgN O (O 0 3) (k + 1) = k + 1 := if_pos ⟨h2, hw⟩
          have h := ih (k + 1) (by omega) e1
          rw [show O 0 3 + (k : Nat) + 1 = O 0 3 + ((k + 1 : Nat) : Int) by omega]
          exact h
    intro k hk h
    exact kd (4 - k) k (by omega) h
  have h := key 0 (by decide) rfl
  rw [show O 0 3 + ((0 : Nat) : Int) = O 0 3 by omega, aset_self] at h
  exact h
def p_X3_isOrder (O : hGM) (start : Int) : Prop := 0 ≤ start ∧ start ≤ 1000
/-- the numbers of an order, n of them from k on -/
def ordF (due : Int) : Nat → Int → hGM → Int × hGM
  | 0, _, O => (1, O)
  | n + 1, k, O => if v_X3_isNumber O k = 0 then (0, m_X3_isNumber O k) else if v_X3_signAt (m_X3_isNumber O k) ((m_X3_isNumber O k) 0 3) = (if k + 1 < due then 44 else 59) then ordF due n (k + 1) (aset (m_X3_isNumber O k) 0 3 ((m_X3_isNumber O k) 0 3 + 1)) else (0, m_X3_isNumber O k)
def ordE (O : hGM) (start : Int) : Int × hGM := if v_X3_numbersOf (v_X3_signAt O start) = 0 then (0, aset O 0 3 start) else ordF (v_X3_numbersOf (v_X3_signAt O start)) (v_X3_numbersOf (v_X3_signAt O start)).toNat 0 (aset O 0 3 (start + 1))
def v_X3_isOrder (O : hGM) (start : Int) : Int := (ordE O start).1
def m_X3_isOrder (O : hGM) (start : Int) : hGM := (ordE O start).2
theorem ordF_z (due : Int) (n : Nat) : ∀ (k : Int) (O : hGM), (ordF due n k O).1 = 0 ∨ (ordF due n k O).1 = 1 := by
  induction n with
  | zero => intro k O; exact Or.inr rfl
  | succ n ih =>
    intro k O
    unfold ordF
    split
    · exact Or.inl rfl
    · by_cases c : v_X3_signAt (m_X3_isNumber O k) ((m_X3_isNumber O k) 0 3) = (if k + 1 < due then 44 else 59)
      · rw [if_pos c]; exact ih _ _
      · rw [if_neg c]; exact Or.inl rfl
theorem z_X3_isOrder (O : hGM) (start : Int) : v_X3_isOrder O start = 0 ∨ v_X3_isOrder O start = 1 := by
  unfold v_X3_isOrder ordE
  split
  · exact Or.inl rfl
  · exact ordF_z _ _ _ _
theorem numbersOf_bd (x : Int) : v_X3_numbersOf x = 0 ∨ v_X3_numbersOf x = 1 ∨ v_X3_numbersOf x = 3 := by
  unfold v_X3_numbersOf
  (repeat' split) <;> simp
theorem isNumber_03 (O : hGM) (k : Int) : (m_X3_isNumber O k) 0 3 = O 0 3 + (dgN O (O 0 3) 4 : Nat) := by
  unfold m_X3_isNumber
  rw [put_row (by decide), aset_at]
set_option maxHeartbeats 4000000 in
theorem x_X3_isOrder (O : hGM) (start : Int) (h_start : hIn start) (hRO : ∀ (i : Nat) (k : Int), i < 100 → hIn (O i k)) (hp : p_X3_isOrder O start) (B32 : Int → Int → hGM → Prop) (Po : Int → hGM → Prop) 
  (r32 : ∀ (y2 : Int) (y3 : Int) (O1 : hGM), hIn y2 → hIn y3 → ((∀ (i : Nat) (k : Int), i < 100 → hIn (O1 i k)) → ((y3 < y2 → (p_X3_isNumber O1 y3 ∧ (((v_X3_isNumber O1 y3) = 0 → (Po 0 (m_X3_isNumber O1 y3))) ∧ (¬ (v_X3_isNumber O1 y3) = 0 → (hIn (y3 + 1) ∧ (((y3 + 1) < y2 → (((v_X3_signAt (m_X3_isNumber O1 y3) ((m_X3_isNumber O1 y3) 0 3)) = 44 → (hIn (((m_X3_isNumber O1 y3) 0 3) + 1) ∧ (B32 y2 (y3 + 1) (aset (m_X3_isNumber O1 y3) 0 3 (((m_X3_isNumber O1 y3) 0 3) + 1))))) ∧ (¬ (v_X3_signAt (m_X3_isNumber O1 y3) ((m_X3_isNumber O1 y3) 0 3)) = 44 → (Po 0 (m_X3_isNumber O1 y3))))) ∧ (¬ (y3 + 1) < y2 → (((v_X3_signAt (m_X3_isNumber O1 y3) ((m_X3_isNumber O1 y3) 0 3)) = 59 → (hIn (((m_X3_isNumber O1 y3) 0 3) + 1) ∧ (B32 y2 (y3 + 1) (aset (m_X3_isNumber O1 y3) 0 3 (((m_X3_isNumber O1 y3) 0 3) + 1))))) ∧ (¬ (v_X3_signAt (m_X3_isNumber O1 y3) ((m_X3_isNumber O1 y3) 0 3)) = 59 → (Po 0 (m_X3_isNumber O1 y3))))))))))) ∧ (¬ y3 < y2 → (Po 1 O1)))) → (B32 y2 y3 O1)) 
  (hpost : Po (v_X3_isOrder O start) (m_X3_isOrder O start)) : (((v_X3_numbersOf (v_X3_signAt (aset O 0 3 start) start)) = 0 → (Po 0 (aset O 0 3 start))) ∧ (¬ (v_X3_numbersOf (v_X3_signAt (aset O 0 3 start) start)) = 0 → (hIn (((aset O 0 3 start) 0 3) + 1) ∧ (B32 (v_X3_numbersOf (v_X3_signAt (aset O 0 3 start) start)) 0 (aset (aset O 0 3 start) 0 3 (((aset O 0 3 start) 0 3) + 1)))))) := by
  obtain ⟨q0, q1⟩ := hp
  have e0 : v_X3_signAt (aset O 0 3 start) start = v_X3_signAt O start := rfl
  have e1 : (aset O 0 3 start) 0 3 = start := aset_at _ _ _ _
  rw [e0, e1, aset_aset]
  unfold v_X3_isOrder m_X3_isOrder ordE at hpost
  have nb := numbersOf_bd (v_X3_signAt O start)
  generalize v_X3_numbersOf (v_X3_signAt O start) = due at hpost nb ⊢
  refine ⟨fun c => ?_, fun c => ⟨⟨by omega, by omega⟩, ?_⟩⟩
  · rw [if_pos c] at hpost; exact hpost
  · rw [if_neg c] at hpost
    have key : ∀ (n : Nat) (k : Int) (O1 : hGM), k + n = due → 0 ≤ k → 0 ≤ O1 0 3 → O1 0 3 ≤ 2000 + 5 * k → Po (ordF due n k O1).1 (ordF due n k O1).2 → B32 due k O1 := by
      intro n
      induction n with
      | zero =>
        intro k O1 h1 h2 h3 h4 h5
        exact r32 _ _ _ ⟨by omega, by omega⟩ ⟨by omega, by omega⟩ (fun _ => ⟨fun z => by omega, fun _ => h5⟩)
      | succ n ih =>
        intro k O1 h1 h2 h3 h4 h5
        have e3 := isNumber_03 O1 k
        have dl := dgN_le O1 (O1 0 3) 4
        unfold ordF at h5
        refine r32 _ _ _ ⟨by omega, by omega⟩ ⟨by omega, by omega⟩ (fun _ => ⟨fun _ => ⟨⟨by omega, by omega⟩, fun z => ?_, fun z => ⟨⟨by omega, by omega⟩, fun c1 => ⟨fun c2 => ⟨⟨by omega, by omega⟩, ?_⟩, fun c2 => ?_⟩, fun c1 => ⟨fun c2 => ⟨⟨by omega, by omega⟩, ?_⟩, fun c2 => ?_⟩⟩⟩, fun z => by omega⟩)
        · rw [if_pos z] at h5; exact h5
        · rw [if_neg z, if_pos c1, if_pos c2] at h5
          exact ih _ _ (by omega) (by omega) (by rw [aset_at]; omega) (by rw [aset_at]; omega) h5
        · rw [if_neg z, if_pos c1, if_neg c2] at h5; exact h5
        · rw [if_neg z, if_neg c1, if_pos c2] at h5
          exact ih _ _ (by omega) (by omega) (by rw [aset_at]; omega) (by rw [aset_at]; omega) h5
        · rw [if_neg z, if_neg c1, if_neg c2] at h5; exact h5
    exact key due.toNat 0 _ (by omega) (by omega) (by rw [aset_at]; omega) (by rw [aset_at]; omega) hpost
def m_X3_tell (O : hGM) (at1 : Int) (why : Int) (because : Int) : hGM := (aset (aset (aset O 0 5 at1) 0 6 why) 0 7 because)
def p_X3_carryOut (A : hGM) (T : hGM) (O : hGM) (letter : Int) : Prop := ((letter = 103 → (p_X1_addGlyph A (v_X5_cell O 2 3 0) ∧ True)) ∧ (¬ letter = 103 → ((letter = 104 → (p_X1_hintStem A (v_X5_cell O 2 3 0) (v_X5_cell O 2 3 1) (v_X5_cell O 2 3 2) ∧ True)) ∧ (¬ letter = 104 → ((letter = 115 → (p_X1_addStem A (v_X5_cell O 2 3 0) (v_X5_cell O 2 3 1) (v_X5_cell O 2 3 2) ∧ True)) ∧ (¬ letter = 115 → ((letter = 119 → (p_X1_addStandard A (v_X5_cell O 2 3 0) ∧ True)) ∧ (¬ letter = 119 → (p_X1_makeSheet A T (v_X5_cell O 2 3 0) ∧ True)))))))))
def v_X3_carryOut (A : hGM) (T : hGM) (O : hGM) (letter : Int) : Int := (if letter = 103 then (v_X1_addGlyph A (v_X5_cell O 2 3 0)) else (if letter = 104 then (v_X1_hintStem A (v_X5_cell O 2 3 0) (v_X5_cell O 2 3 1) (v_X5_cell O 2 3 2)) else (if letter = 115 then (v_X1_addStem A (v_X5_cell O 2 3 0) (v_X5_cell O 2 3 1) (v_X5_cell O 2 3 2)) else (if letter = 119 then (v_X1_addStandard A (v_X5_cell O 2 3 0)) else (v_X1_makeSheet A T (v_X5_cell O 2 3 0))))))
def mA_X3_carryOut (A : hGM) (T : hGM) (O : hGM) (letter : Int) : hGM := (if letter = 103 then (m_X1_addGlyph A (v_X5_cell O 2 3 0)) else (if letter = 104 then (m_X1_hintStem A (v_X5_cell O 2 3 0) (v_X5_cell O 2 3 1) (v_X5_cell O 2 3 2)) else (if letter = 115 then (m_X1_addStem A (v_X5_cell O 2 3 0) (v_X5_cell O 2 3 1) (v_X5_cell O 2 3 2)) else (if letter = 119 then (m_X1_addStandard A (v_X5_cell O 2 3 0)) else (mA_X1_makeSheet A T (v_X5_cell O 2 3 0))))))
def mT_X3_carryOut (A : hGM) (T : hGM) (O : hGM) (letter : Int) : hGM := (if letter = 103 then T else (if letter = 104 then T else (if letter = 115 then T else (if letter = 119 then T else (mT_X1_makeSheet A T (v_X5_cell O 2 3 0))))))
/-- the orders, one after the other, at most n of them: fonts, fit and text -/
def runF : Nat → Int → hGM → hGM → hGM → hGM × hGM × hGM
  | 0, _, A, T, O => (A, T, O)
  | n + 1, a, A, T, O => if a < O 0 1 then (if v_X3_isOrder O a = 0 then (A, T, m_X3_tell (m_X3_isOrder O a) a 1 ((m_X3_isOrder O a) 0 3 - a)) else if v_X3_carryOut A T (m_X3_isOrder O a) (v_X3_signAt (m_X3_isOrder O a) a) < 0 then (mA_X3_carryOut A T (m_X3_isOrder O a) (v_X3_signAt (m_X3_isOrder O a) a), mT_X3_carryOut A T (m_X3_isOrder O a) (v_X3_signAt (m_X3_isOrder O a) a), m_X3_tell (m_X3_isOrder O a) a 2 (v_X3_carryOut A T (m_X3_isOrder O a) (v_X3_signAt (m_X3_isOrder O a) a))) else runF n ((m_X3_isOrder O a) 0 3) (mA_X3_carryOut A T (m_X3_isOrder O a) (v_X3_signAt (m_X3_isOrder O a) a)) (mT_X3_carryOut A T (m_X3_isOrder O a) (v_X3_signAt (m_X3_isOrder O a) a)) (aset (m_X3_isOrder O a) 0 4 ((m_X3_isOrder O a) 0 4 + 1))) else (A, T, O)
/-- what the run needs on its road -/
def runP : Nat → Int → hGM → hGM → hGM → Prop
  | 0, a, _, _, _ => hIn a
  | n + 1, a, A, T, O => hIn a ∧ (a < O 0 1 → p_X3_isOrder O a ∧ (v_X3_isOrder O a = 0 → hIn ((m_X3_isOrder O a) 0 3 - a)) ∧ (¬ v_X3_isOrder O a = 0 → p_X3_carryOut A T (m_X3_isOrder O a) (v_X3_signAt (m_X3_isOrder O a) a) ∧ (¬ v_X3_carryOut A T (m_X3_isOrder O a) (v_X3_signAt (m_X3_isOrder O a) a) < 0 → hIn ((m_X3_isOrder O a) 0 4 + 1) ∧ runP n ((m_X3_isOrder O a) 0 3) (mA_X3_carryOut A T (m_X3_isOrder O a) (v_X3_signAt (m_X3_isOrder O a) a)) (mT_X3_carryOut A T (m_X3_isOrder O a) (v_X3_signAt (m_X3_isOrder O a) a)) (aset (m_X3_isOrder O a) 0 4 ((m_X3_isOrder O a) 0 4 + 1)))))
def p_X3_run (A : hGM) (T : hGM) (O : hGM) : Prop := runP 60 0 A T (aset (aset O 0 4 0) 0 6 0)
def mA_X3_run (A : hGM) (T : hGM) (O : hGM) : hGM := (runF 60 0 A T (aset (aset O 0 4 0) 0 6 0)).1
def mT_X3_run (A : hGM) (T : hGM) (O : hGM) : hGM := (runF 60 0 A T (aset (aset O 0 4 0) 0 6 0)).2.1
def mO_X3_run (A : hGM) (T : hGM) (O : hGM) : hGM := (runF 60 0 A T (aset (aset O 0 4 0) 0 6 0)).2.2
set_option maxHeartbeats 4000000 in
theorem x_X3_run (A : hGM) (T : hGM) (O : hGM) (hRA : ∀ (i : Nat) (k : Int), i < 100 → hIn (A i k)) (hRT : ∀ (i : Nat) (k : Int), i < 100 → hIn (T i k)) (hRO : ∀ (i : Nat) (k : Int), i < 100 → hIn (O i k)) (hp : p_X3_run A T O) (B15 : Int → Int → hGM → hGM → hGM → Prop) (Po : hGM → hGM → hGM → Prop) 
  (r15 : ∀ (y3 : Int) (y4 : Int) (A1 : hGM) (T1 : hGM) (O1 : hGM), hIn y3 → hIn y4 → ((∀ (i : Nat) (k : Int), i < 100 → hIn (A1 i k)) → (∀ (i : Nat) (k : Int), i < 100 → hIn (T1 i k)) → (∀ (i : Nat) (k : Int), i < 100 → hIn (O1 i k)) → ((y4 < 60 → ((y3 < (O1 0 1) → (p_X3_isOrder O1 y3 ∧ (((v_X3_isOrder O1 y3) = 0 → (hIn (((m_X3_isOrder O1 y3) 0 3) - y3) ∧ (Po A1 T1 (m_X3_tell (m_X3_isOrder O1 y3) y3 1 (((m_X3_isOrder O1 y3) 0 3) - y3))))) ∧ (¬ (v_X3_isOrder O1 y3) = 0 → (p_X3_carryOut A1 T1 (m_X3_isOrder O1 y3) (v_X3_signAt (m_X3_isOrder O1 y3) y3) ∧ (((v_X3_carryOut A1 T1 (m_X3_isOrder O1 y3) (v_X3_signAt (m_X3_isOrder O1 y3) y3)) < 0 → (Po (mA_X3_carryOut A1 T1 (m_X3_isOrder O1 y3) (v_X3_signAt (m_X3_isOrder O1 y3) y3)) (mT_X3_carryOut A1 T1 (m_X3_isOrder O1 y3) (v_X3_signAt (m_X3_isOrder O1 y3) y3)) (m_X3_tell (m_X3_isOrder O1 y3) y3 2 (v_X3_carryOut A1 T1 (m_X3_isOrder O1 y3) (v_X3_signAt (m_X3_isOrder O1 y3) y3))))) ∧ (¬ (v_X3_carryOut A1 T1 (m_X3_isOrder O1 y3) (v_X3_signAt (m_X3_isOrder O1 y3) y3)) < 0 → (hIn (((m_X3_isOrder O1 y3) 0 4) + 1) ∧ (B15 ((aset (m_X3_isOrder O1 y3) 0 4 (((m_X3_isOrder O1 y3) 0 4) + 1)) 0 3) (y4 + 1) (mA_X3_carryOut A1 T1 (m_X3_isOrder O1 y3) (v_X3_signAt (m_X3_isOrder O1 y3) y3)) (mT_X3_carryOut A1 T1 (m_X3_isOrder O1 y3) (v_X3_signAt (m_X3_isOrder O1 y3) y3)) (aset (m_X3_isOrder O1 y3) 0 4 (((m_X3_isOrder O1 y3) 0 4) + 1))))))))))) ∧ (¬ y3 < (O1 0 1) → (Po A1 T1 O1)))) ∧ (¬ y4 < 60 → (Po A1 T1 O1)))) → (B15 y3 y4 A1 T1 O1)) 
  (hpost : Po (mA_X3_run A T O) (mT_X3_run A T O) (mO_X3_run A T O)) : (B15 0 0 A T (aset (aset O 0 4 0) 0 6 0)) := by
  have key : ∀ (n : Nat) (a y : Int) (A1 T1 O1 : hGM), y + n = 60 → 0 ≤ y → runP n a A1 T1 O1 → Po (runF n a A1 T1 O1).1 (runF n a A1 T1 O1).2.1 (runF n a A1 T1 O1).2.2 → B15 a y A1 T1 O1 := by
    intro n
    induction n with
    | zero =>
      intro a y A1 T1 O1 h1 h2 h3 h4
      exact r15 _ _ _ _ _ h3 ⟨by omega, by omega⟩ (fun _ _ _ => ⟨fun z => by omega, fun _ => h4⟩)
    | succ n ih =>
      intro a y A1 T1 O1 h1 h2 h3 h4
      obtain ⟨h30, h3⟩ := h3
      unfold runF at h4
      refine r15 _ _ _ _ _ h30 ⟨by omega, by omega⟩ (fun _ _ _ => ⟨fun _ => ⟨fun c => ?_, fun c => ?_⟩, fun z => by omega⟩)
      · rw [if_pos c] at h4
        obtain ⟨p1, p2, p3⟩ := h3 c
        refine ⟨p1, fun z => ⟨p2 z, ?_⟩, fun z => ?_⟩
        · rw [if_pos z] at h4; exact h4
        · rw [if_neg z] at h4
          obtain ⟨p4, p5⟩ := p3 z
          refine ⟨p4, fun w => ?_, fun w => ?_⟩
          · rw [if_pos w] at h4; exact h4
          · rw [if_neg w] at h4
            obtain ⟨p6, p7⟩ := p5 w
            refine ⟨p6, ?_⟩
            rw [show (aset (m_X3_isOrder O1 a) 0 4 ((m_X3_isOrder O1 a) 0 4 + 1)) 0 3 = (m_X3_isOrder O1 a) 0 3 from rfl]
            exact ih _ _ _ _ _ (by omega) (by omega) p7 h4
      · rw [if_neg c] at h4; exact h4
  exact key 60 0 0 A T _ (by omega) (by omega) hp hpost

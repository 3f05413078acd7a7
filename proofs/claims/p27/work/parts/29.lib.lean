/-! loops over whole numbers, sums, first places, rows that are copied -/
theorem upN {C : Nat → Prop} (n : Nat) (he : C n) (hs : ∀ k, k < n → C (k + 1) → C k) : C 0 := by
  have key : ∀ d k, k + d = n → C k := by
    intro d
    induction d with
    | zero => intro k h; have : k = n := by omega
              rw [this]; exact he
    | succ d ih => intro k h; exact hs k (by omega) (ih (k + 1) (by omega))
  exact key n 0 (by omega)
theorem upI {C : Int → Prop} {lo hi : Int} (h : lo ≤ hi) (he : C hi) (hs : ∀ k, lo ≤ k → k < hi → C (k + 1) → C k) : C lo := by
  have key : ∀ (d : Nat) (k : Int), k + d = hi → lo ≤ k → C k := by
    intro d
    induction d with
    | zero => intro k h1 _; have : k = hi := by omega
              rw [this]; exact he
    | succ d ih => intro k h1 h2; exact hs k h2 (by omega) (ih (k + 1) (by omega) (by omega))
  exact key (hi - lo).toNat lo (by omega) (Int.le_refl _)
def sumN (f : Int → Int) : Nat → Int
  | 0 => 0
  | n + 1 => sumN f n + f n
theorem sumN_bd {f : Int → Int} {c : Int} (n : Nat) (h : ∀ k : Int, 0 ≤ k → k < n → 0 ≤ f k ∧ f k ≤ c) : 0 ≤ sumN f n ∧ sumN f n ≤ c * n := by
  induction n with
  | zero => exact ⟨Int.le_refl _, by simp [sumN]⟩
  | succ n ih =>
    obtain ⟨h1, h2⟩ := ih (fun k a b => h k a (by omega))
    obtain ⟨h3, h4⟩ := h n (by omega) (by omega)
    have e : c * ((n + 1 : Nat) : Int) = c * n + c := by rw [Int.natCast_succ, Int.mul_add, Int.mul_one]
    unfold sumN
    rw [e]
    exact ⟨by omega, by omega⟩
theorem sumN_congr {f g : Int → Int} (n : Nat) (h : ∀ k : Int, 0 ≤ k → k < n → f k = g k) : sumN f n = sumN g n := by
  induction n with
  | zero => rfl
  | succ n ih => unfold sumN; rw [ih (fun k a b => h k a (by omega)), h n (by omega) (by omega)]
def firstN (p : Int → Bool) : Nat → Int
  | 0 => -1
  | n + 1 => if firstN p n = -1 then (if p n then n else -1) else firstN p n
theorem firstN_spec (p : Int → Bool) (n : Nat) : (firstN p n = -1 ∧ ∀ j : Int, 0 ≤ j → j < n → p j = false) ∨ (0 ≤ firstN p n ∧ firstN p n < n ∧ p (firstN p n) = true ∧ ∀ j : Int, 0 ≤ j → j < firstN p n → p j = false) := by
  induction n with
  | zero => exact Or.inl ⟨rfl, fun j a b => by omega⟩
  | succ n ih =>
    rcases ih with ⟨h1, h2⟩ | ⟨h1, h2, h3, h4⟩
    · cases hp : p n with
      | true =>
        right
        have e : firstN p (n + 1) = n := by simp [firstN, h1, hp]
        rw [e]
        exact ⟨by omega, by omega, hp, h2⟩
      | false =>
        left
        have e : firstN p (n + 1) = -1 := by simp [firstN, h1, hp]
        refine ⟨e, fun j a b => ?_⟩
        by_cases hj : j = n
        · rw [hj]; exact hp
        · exact h2 j a (by omega)
    · right
      have e : firstN p (n + 1) = firstN p n := by
        show (if firstN p n = -1 then (if p n then (n : Int) else -1) else firstN p n) = firstN p n
        rw [if_neg (by omega)]
      rw [e]
      exact ⟨h1, by omega, h3, h4⟩
theorem firstN_eq {p : Int → Bool} {n : Nat} {k : Int} (h0 : 0 ≤ k) (h1 : k < n) (h2 : p k = true) (h3 : ∀ j : Int, 0 ≤ j → j < k → p j = false) : firstN p n = k := by
  rcases firstN_spec p n with ⟨_, q2⟩ | ⟨q1, q2, q3, q4⟩
  · rw [q2 k h0 h1] at h2; cases h2
  · rcases Int.lt_trichotomy (firstN p n) k with h | h | h
    · rw [h3 _ q1 h] at q3; cases q3
    · exact h
    · rw [q4 k h0 h] at h2; cases h2
theorem firstN_none {p : Int → Bool} {n : Nat} (h : ∀ j : Int, 0 ≤ j → j < n → p j = false) : firstN p n = -1 := by
  rcases firstN_spec p n with ⟨q1, _⟩ | ⟨q1, q2, q3, q4⟩
  · exact q1
  · rw [h _ q1 q2] at q3; cases q3
/-- a loop that looks for the first place -/
theorem firstLoop {B : Int → Prop} {Po : Int → Prop} (p : Int → Bool) (n : Nat) (hyes : ∀ k : Int, 0 ≤ k → k < n → p k = true → Po k → B k) (hno : ∀ k : Int, 0 ≤ k → k < n → p k = false → B (k + 1) → B k) (hend : Po (-1) → B n) (hpost : Po (firstN p n)) : B 0 := by
  have key : ∀ (d : Nat) (k : Int), k + d = n → 0 ≤ k → (∀ j : Int, 0 ≤ j → j < k → p j = false) → B k := by
    intro d
    induction d with
    | zero =>
      intro k h1 h2 h3
      have e : k = n := by omega
      subst e
      rw [firstN_none h3] at hpost
      exact hend hpost
    | succ d ih =>
      intro k h1 h2 h3
      cases hp : p k with
      | true =>
        rw [firstN_eq h2 (by omega) hp h3] at hpost
        exact hyes k h2 (by omega) hp hpost
      | false =>
        refine hno k h2 (by omega) hp (ih (k + 1) (by omega) (by omega) (fun j a b => ?_))
        by_cases hj : j = k
        · rw [hj]; exact hp
        · exact h3 j a (by omega)
  exact key n 0 (by omega) (Int.le_refl _) (fun j a b => by omega)
def cpR (A : hGM) (i : Nat) (f : Int → Int) (n : Int) : hGM := fun j q => if j = i ∧ 0 ≤ q ∧ q < n then f q else A j q
theorem cpR_0 (A : hGM) (i : Nat) (f : Int → Int) : cpR A i f 0 = A := by
  funext j q
  unfold cpR
  rw [if_neg (by omega)]
theorem cpR_succ {A : hGM} {i : Nat} {f : Int → Int} {k : Int} (h : 0 ≤ k) : aset (cpR A i f k) i k (f k) = cpR A i f (k + 1) := by
  funext j q
  unfold aset cpR
  by_cases h1 : j = i ∧ q = k
  · obtain ⟨rfl, rfl⟩ := h1
    rw [if_pos ⟨rfl, rfl⟩, if_pos ⟨rfl, h, by omega⟩]
  · rw [if_neg h1]
    by_cases h2 : j = i ∧ 0 ≤ q ∧ q < k
    · rw [if_pos h2, if_pos ⟨h2.1, h2.2.1, by omega⟩]
    · rw [if_neg h2, if_neg (by omega)]
theorem cpR_in {A : hGM} {i : Nat} {f : Int → Int} {n q : Int} (h0 : 0 ≤ q) (h1 : q < n) : cpR A i f n i q = f q := by unfold cpR; rw [if_pos ⟨rfl, h0, h1⟩]
theorem cpR_row {A : hGM} {i j : Nat} {f : Int → Int} {n : Int} (h : j ≠ i) : cpR A i f n j = A j := by funext q; unfold cpR; rw [if_neg (by omega)]
theorem cpR_out {A : hGM} {i j : Nat} {f : Int → Int} {n q : Int} (h : ¬ (j = i ∧ 0 ≤ q ∧ q < n)) : cpR A i f n j q = A j q := by unfold cpR; rw [if_neg h]
theorem test_ite (a b : Int) : (if a < b then b else a) ≥ a := by omega
theorem iXor_neg {x y : Int} (hx : hIn x) (hy : hIn y) (h : 0 < y) : iXor x y < 0 ↔ x < 0 := by
  have e : ((hI x).toBitVec ^^^ (hI y).toBitVec).msb = (Bool.xor (hI x).toBitVec.msb (hI y).toBitVec.msb) := BitVec.msb_xor
  rw [BitVec.msb_eq_toInt, BitVec.msb_eq_toInt, BitVec.msb_eq_toInt] at e
  have e1 : (hI x).toBitVec.toInt = x := hI_toInt hx
  have e2 : (hI y).toBitVec.toInt = y := hI_toInt hy
  have e3 : iXor x y = ((hI x).toBitVec ^^^ (hI y).toBitVec).toInt := rfl
  rw [e1, e2, ← e3, show decide (y < 0) = false from decide_eq_false (by omega), Bool.xor_false] at e
  exact decide_eq_decide.mp e
theorem tdiv_neg_eq {x y : Int} (h0 : x ≤ 0) : x.tdiv y = -((-x) / y) := by
  have := Int.tdiv_eq_ediv_of_nonneg (a := -x) (b := y) (by omega)
  rw [← this, Int.neg_tdiv]; omega
/-- the numbers of a font lie in their ranges -/
def fNum (A : hGM) : Prop := (0 ≤ A 0 0 ∧ A 0 0 ≤ 8) ∧ (0 ≤ A 0 1 ∧ A 0 1 ≤ 3) ∧ (0 ≤ A 0 2 ∧ A 0 2 ≤ 100) ∧ (0 ≤ A 0 3 ∧ A 0 3 ≤ 3) ∧ (∀ k : Int, 0 ≤ k → k < 3 → 0 ≤ A 6 k ∧ A 6 k ≤ 300) ∧ (∀ k : Int, 0 ≤ k → k < 48 → (0 ≤ A 3 k ∧ A 3 k ≤ 999) ∧ (0 ≤ A 4 k ∧ A 4 k ≤ 300) ∧ (0 ≤ A 5 k ∧ A 5 k ≤ 3)) ∧ (∀ g : Int, 0 ≤ g → g < 8 → (0 ≤ A 1 g ∧ A 1 g ≤ 1500) ∧ (0 ≤ A 2 g ∧ A 2 g ≤ 6))
def absI (x : Int) : Int := if x < 0 then -x else x
/-- the standard width to which a width snaps, and by how much it differs: the first n looked at -/
def snapG (st : Int → Int) (cut w : Int) : Nat → Int × Int
  | 0 => (0, cut + 1)
  | n + 1 => if absI (st n - w) < (snapG st cut w n).2 then (st n, absI (st n - w)) else snapG st cut w n
theorem snapG_bd {st : Int → Int} {cut w c : Int} (n : Nat) (hw : 0 ≤ w ∧ w ≤ c) (h : ∀ k : Int, 0 ≤ k → k < n → 0 ≤ st k ∧ st k ≤ c) (hc : 0 ≤ cut ∧ cut ≤ c) : (0 ≤ (snapG st cut w n).1 ∧ (snapG st cut w n).1 ≤ c) ∧ (0 ≤ (snapG st cut w n).2 ∧ (snapG st cut w n).2 ≤ c + 1) := by
  induction n with
  | zero => exact ⟨⟨Int.le_refl _, by show (0 : Int) ≤ c; omega⟩, by show 0 ≤ cut + 1; omega, by show cut + 1 ≤ c + 1; omega⟩
  | succ n ih =>
    have b := h n (by omega) (by omega)
    unfold snapG
    split
    · refine ⟨b, ?_⟩
      show 0 ≤ absI (st n - w) ∧ absI (st n - w) ≤ c + 1
      unfold absI
      omega
    · exact ih (fun k a1 a2 => h k a1 (by omega))
theorem snapG_congr {st st' : Int → Int} {cut w : Int} (n : Nat) (h : ∀ k : Int, 0 ≤ k → k < n → st k = st' k) : snapG st cut w n = snapG st' cut w n := by
  induction n with
  | zero => rfl
  | succ n ih =>
    unfold snapG
    rw [ih (fun k a1 a2 => h k a1 (by omega)), h n (by omega) (by omega)]
theorem cnt_bd (p : Int → Prop) [DecidablePred p] (n : Nat) : 0 ≤ sumN (fun k => if p k then 1 else 0) n ∧ sumN (fun k => if p k then 1 else 0) n ≤ n := by
  have h := sumN_bd (f := fun k => if p k then 1 else 0) (c := 1) n (fun k _ _ => by constructor <;> (split <;> decide))
  omega
theorem cnt_y {p : Int → Prop} [DecidablePred p] {k : Nat} (h : p k) : sumN (fun k => if p k then 1 else 0) (k + 1) = sumN (fun k => if p k then 1 else 0) k + 1 := by
  show sumN (fun k => if p k then 1 else 0) k + (if p k then 1 else 0) = _
  rw [if_pos h]
theorem cnt_n {p : Int → Prop} [DecidablePred p] {k : Nat} (h : ¬ p k) : sumN (fun k => if p k then 1 else 0) (k + 1) = sumN (fun k => if p k then 1 else 0) k := by
  show sumN (fun k => if p k then 1 else 0) k + (if p k then 1 else 0) = _
  rw [if_neg h, Int.add_zero]
theorem mulbd {u z a b : Int} (h1 : a ≤ u) (h2 : u ≤ b) (ha : a ≤ 0) (hb : 0 ≤ b) (z0 : 0 ≤ z) (z1 : z ≤ 48) : a * 48 ≤ u * z ∧ u * z ≤ b * 48 := by
  have e1 : u * z ≤ b * z := Int.mul_le_mul_of_nonneg_right h2 z0
  have e2 : b * z ≤ b * 48 := Int.mul_le_mul_of_nonneg_left z1 hb
  have e3 : a * z ≤ u * z := Int.mul_le_mul_of_nonneg_right h1 z0
  have e4 : -a * z ≤ -a * 48 := Int.mul_le_mul_of_nonneg_left z1 (by omega)
  rw [Int.neg_mul, Int.neg_mul] at e4
  omega
theorem aset_self (A : hGM) (i : Nat) (k : Int) : aset A i k (A i k) = A := by
  funext j q
  unfold aset
  split
  · next h => rw [h.1, h.2]
  · rfl
theorem aset_aset (A : hGM) (i : Nat) (k v w : Int) : aset (aset A i k v) i k w = aset A i k w := by
  funext j q
  unfold aset
  split <;> rfl
/-- the numbers of the model's row lie in their ranges -/
def mNum (r : Int → Int) : Prop := (0 ≤ r 0 ∧ r 0 ≤ 8) ∧ (0 ≤ r 1 ∧ r 1 ≤ 3) ∧ (∀ k : Int, 0 ≤ k → k < 3 → 0 ≤ r (2 + k) ∧ r (2 + k) ≤ 300) ∧ (0 ≤ r 5 ∧ r 5 ≤ 100) ∧ (0 ≤ r 6 ∧ r 6 ≤ 3) ∧ (0 ≤ r 7 ∧ r 7 ≤ 4) ∧ (0 ≤ r 8 ∧ r 8 ≤ 1000000) ∧ (∀ g : Int, 0 ≤ g → g < 8 → (0 ≤ r (9 + 20 * g) ∧ r (9 + 20 * g) ≤ 1500) ∧ (0 ≤ r (9 + 20 * g + 1) ∧ r (9 + 20 * g + 1) ≤ 6) ∧ ∀ k : Int, 0 ≤ k → k < 6 → (0 ≤ r (9 + 20 * g + 2 + 3 * k) ∧ r (9 + 20 * g + 2 + 3 * k) ≤ 999) ∧ (0 ≤ r (9 + 20 * g + 2 + 3 * k + 1) ∧ r (9 + 20 * g + 2 + 3 * k + 1) ≤ 300) ∧ (0 ≤ r (9 + 20 * g + 2 + 3 * k + 2) ∧ r (9 + 20 * g + 2 + 3 * k + 2) ≤ 3)) ∧ (∀ i : Int, 0 ≤ i → i < 4 → (0 ≤ r (169 + 10 * i) ∧ r (169 + 10 * i) ≤ 48) ∧ (0 ≤ r (169 + 10 * i + 1) ∧ r (169 + 10 * i + 1) ≤ 8) ∧ ∀ g : Int, 0 ≤ g → g < 8 → 0 ≤ r (169 + 10 * i + (2 + g)) ∧ r (169 + 10 * i + (2 + g)) ≤ 64)
def mOK (P : hGM) : Prop := mNum (P 1) ∧ 0 ≤ P 0 3 ∧ P 0 3 ≤ 4
/-- a row copied to a place of another -/
def cpO (A : hGM) (i : Nat) (o : Int) (f : Int → Int) (n : Int) : hGM := fun j q => if j = i ∧ o ≤ q ∧ q < o + n then f (q - o) else A j q
theorem cpO_0 (A : hGM) (i : Nat) (o : Int) (f : Int → Int) : cpO A i o f 0 = A := by
  funext j q
  unfold cpO
  rw [if_neg (by omega)]
theorem cpO_succ {A : hGM} {i : Nat} {f : Int → Int} {o k : Int} (h : 0 ≤ k) : aset (cpO A i o f k) i (o + k) (f k) = cpO A i o f (k + 1) := by
  funext j q
  unfold aset cpO
  by_cases h1 : j = i ∧ q = o + k
  · obtain ⟨rfl, rfl⟩ := h1
    rw [if_pos ⟨rfl, rfl⟩, if_pos ⟨rfl, by omega, by omega⟩, show o + k - o = k by omega]
  · rw [if_neg h1]
    by_cases h2 : j = i ∧ o ≤ q ∧ q < o + k
    · rw [if_pos h2, if_pos ⟨h2.1, h2.2.1, by omega⟩]
    · rw [if_neg h2, if_neg (by omega)]
theorem cpO_row {A : hGM} {i j : Nat} {f : Int → Int} {o n : Int} (h : j ≠ i) : cpO A i o f n j = A j := by funext q; unfold cpO; rw [if_neg (by omega)]
/-- a stretch of a row, moved up by d places / down by d places -/
def mvU (A : hGM) (i : Nat) (d a b : Int) : hGM := fun j q => if j = i ∧ a + d ≤ q ∧ q < b + d then A j (q - d) else A j q
def mvD (A : hGM) (i : Nat) (d a b : Int) : hGM := fun j q => if j = i ∧ a ≤ q ∧ q < b then A j (q + d) else A j q
theorem mvU_0 (A : hGM) (i : Nat) (d a : Int) : mvU A i d a a = A := by funext j q; unfold mvU; rw [if_neg (by omega)]
theorem mvD_0 (A : hGM) (i : Nat) (d a : Int) : mvD A i d a a = A := by funext j q; unfold mvD; rw [if_neg (by omega)]
theorem mvU_step {A : hGM} {i : Nat} {d a b : Int} (hd : 0 < d) (h : a < b + 1) : aset (mvU A i d a b) i (a - 1 + d) (mvU A i d a b i (a - 1)) = mvU A i d (a - 1) b := by
  funext j q
  unfold aset mvU
  by_cases h1 : j = i ∧ q = a - 1 + d
  · obtain ⟨rfl, rfl⟩ := h1
    rw [if_pos ⟨rfl, rfl⟩, if_neg (by omega), if_pos ⟨rfl, by omega, by omega⟩, show a - 1 + d - d = a - 1 by omega]
  · rw [if_neg h1]
    by_cases h2 : j = i ∧ a + d ≤ q ∧ q < b + d
    · rw [if_pos h2, if_pos ⟨h2.1, by omega, h2.2.2⟩]
    · rw [if_neg h2, if_neg (by omega)]
theorem mvD_step {A : hGM} {i : Nat} {d a b : Int} (hd : 0 < d) (h : a ≤ b) : aset (mvD A i d a b) i b (mvD A i d a b i (b + d)) = mvD A i d a (b + 1) := by
  funext j q
  unfold aset mvD
  by_cases h1 : j = i ∧ q = b
  · obtain ⟨rfl, rfl⟩ := h1
    rw [if_pos ⟨rfl, rfl⟩, if_neg (by omega), if_pos ⟨rfl, by omega, by omega⟩]
  · rw [if_neg h1]
    by_cases h2 : j = i ∧ a ≤ q ∧ q < b
    · rw [if_pos h2, if_pos ⟨h2.1, h2.2.1, by omega⟩]
    · rw [if_neg h2, if_neg (by omega)]
theorem mvU_row {A : hGM} {i j : Nat} {d a b : Int} (h : j ≠ i) : mvU A i d a b j = A j := by funext q; unfold mvU; rw [if_neg (by omega)]
theorem mvD_row {A : hGM} {i j : Nat} {d a b : Int} (h : j ≠ i) : mvD A i d a b j = A j := by funext q; unfold mvD; rw [if_neg (by omega)]
/-- as snapG, with the model's numbers -/
def snapM (st : Int → Int) (cut w : Int) : Nat → Int × Int
  | 0 => (-1000004, cut)
  | n + 1 => if (snapM st cut w n).1 < 0 then (if absI (st n - w) ≤ (snapM st cut w n).2 then (st n, absI (st n - w)) else snapM st cut w n) else (if absI (st n - w) < (snapM st cut w n).2 then (st n, absI (st n - w)) else snapM st cut w n)
theorem snapM_bd {st : Int → Int} {cut w c : Int} (n : Nat) (hw : 0 ≤ w ∧ w ≤ c) (h : ∀ k : Int, 0 ≤ k → k < n → 0 ≤ st k ∧ st k ≤ c) (hc : 0 ≤ cut ∧ cut ≤ c) : (-1000004 ≤ (snapM st cut w n).1 ∧ (snapM st cut w n).1 ≤ c) ∧ (0 ≤ (snapM st cut w n).2 ∧ (snapM st cut w n).2 ≤ c) := by
  induction n with
  | zero => exact ⟨⟨Int.le_refl _, by show (-1000004 : Int) ≤ c; omega⟩, hc⟩
  | succ n ih =>
    have b := h n (by omega) (by omega)
    have ih := ih (fun k a1 a2 => h k a1 (by omega))
    have d : 0 ≤ absI (st n - w) ∧ absI (st n - w) ≤ c := by unfold absI; omega
    unfold snapM
    split
    · split
      · exact ⟨⟨by show -1000004 ≤ st n; omega, b.2⟩, d⟩
      · exact ih
    · split
      · exact ⟨⟨by show -1000004 ≤ st n; omega, b.2⟩, d⟩
      · exact ih

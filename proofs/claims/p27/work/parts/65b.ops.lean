/-! the law's arrays and the font, sheets too; what the changes leave -/
theorem put5_num {A : hGM} (h : fNum A) {k v : Int} (v0 : 0 ≤ v) (v1 : v ≤ 3) : fNum (m_X5_put A 5 48 k v) := by
  obtain ⟨n0, n1, n2, n3, n4, n5, n6⟩ := h
  unfold fNum
  rw [put_row (show (0 : Nat) ≠ 5 by decide), put_row (show (1 : Nat) ≠ 5 by decide), put_row (show (2 : Nat) ≠ 5 by decide), put_row (show (3 : Nat) ≠ 5 by decide), put_row (show (4 : Nat) ≠ 5 by decide), put_row (show (6 : Nat) ≠ 5 by decide)]
  refine ⟨n0, n1, n2, n3, n4, fun q h0 h1 => ?_, n6⟩
  have b := n5 q h0 h1
  refine ⟨b.1, b.2.1, ?_⟩
  unfold m_X5_put
  split
  · exact b.2.2
  · split
    · unfold aset
      split
      · exact ⟨v0, v1⟩
      · exact b.2.2
    · exact b.2.2
/-- a sheet: the class's slot s, the law's place i -/
def ShL (A P : hGM) (s i : Int) : Prop := A 9 s = P 8 i ∧ (6 ≤ A 9 s ∧ A 9 s ≤ 48) ∧ A 10 s = P 9 i ∧ (0 ≤ A 10 s ∧ A 10 s ≤ A 0 0) ∧ ∀ g : Int, 0 ≤ g → g < A 10 s → A 11 (s * 8 + g) = P 10 (8 * i + g) ∧ A 112 (s * 8 + g) = P 111 (8 * i + g)
def OrdL (A P : hGM) (n : Int) (o : Int → Int) : Prop :=
  (∀ i : Int, 0 ≤ i → i < n → (0 ≤ o i ∧ o i < 4) ∧ (1 ≤ A 8 (o i) ∧ A 8 (o i) ≤ A 7 0) ∧ ShL A P (o i) i) ∧
  (∀ i j : Int, 0 ≤ i → i < j → j < n → A 8 (o i) < A 8 (o j) ∧ ¬ A 9 (o i) = A 9 (o j)) ∧
  (∀ s : Int, 0 ≤ s → s < 4 → 1 ≤ A 8 s → ∃ i : Int, 0 ≤ i ∧ i < n ∧ o i = s)
def RLS (A P : hGM) : Prop := (∀ s : Int, 0 ≤ s → s < 4 → 0 ≤ A 8 s) ∧ ∃ (n : Int) (o : Int → Int), (0 ≤ n ∧ n ≤ 4) ∧ (∀ i : Int, n ≤ i → i < 4 → P 8 i = 0) ∧ OrdL A P n o
def RLA (A P : hGM) : Prop := RL0 A P ∧ P 1 3 = A 7 0 ∧ RLS A P
theorem ShL_low {A A' P P' : hGM} {s i : Int} (h : ShL A P s i) (e : ∀ i : Nat, 7 ≤ i → A' i = A i) (e0 : A 0 0 ≤ A' 0 0) (p8 : P' 8 = P 8) (p9 : P' 9 = P 9) (p10 : P' 10 = P 10) (p11 : P' 111 = P 111) : ShL A' P' s i := by
  unfold ShL at h ⊢
  rw [e 9 (by decide), e 10 (by decide), e 11 (by decide), e 112 (by decide), p8, p9, p10, p11]
  exact ⟨h.1, h.2.1, h.2.2.1, ⟨h.2.2.2.1.1, by have := h.2.2.2.1.2; omega⟩, h.2.2.2.2⟩
theorem RLS_low {A A' P P' : hGM} (h : RLS A P) (e : ∀ i : Nat, 7 ≤ i → A' i = A i) (e0 : A 0 0 ≤ A' 0 0) (p8 : P' 8 = P 8) (p9 : P' 9 = P 9) (p10 : P' 10 = P 10) (p11 : P' 111 = P 111) : RLS A' P' := by
  obtain ⟨hs, n, o, hn, hz, o1, o2, o3⟩ := h
  refine ⟨fun s a b => by rw [e 8 (by decide)]; exact hs s a b, n, o, hn, fun i a b => by rw [p8]; exact hz i a b, fun i a b => ?_, fun i j a b c => ?_, fun s a b c => ?_⟩
  · obtain ⟨q1, q2, q3⟩ := o1 i a b
    exact ⟨q1, by rw [e 8 (by decide), e 7 (by decide)]; exact q2, ShL_low q3 e e0 p8 p9 p10 p11⟩
  · rw [e 8 (by decide), e 9 (by decide)]
    exact o2 i j a b c
  · rw [e 8 (by decide)] at c
    exact o3 s a b c
/-- changes that leave the sheets -/
theorem RL_low {A A' P P' : hGM} (h : RLA A P) (h0 : RL0 A' P') (e : ∀ i : Nat, 7 ≤ i → A' i = A i) (e0 : A 0 0 ≤ A' 0 0) (p1 : P' 1 3 = P 1 3) (p : ∀ i : Nat, 8 ≤ i → P' i = P i) : RLA A' P' :=
  ⟨h0, by rw [p1, e 7 (by decide)]; exact h.2.1, RLS_low h.2.2 e e0 (p 8 (by decide)) (p 9 (by decide)) (p 10 (by decide)) (p 111 (by decide))⟩
/-- changes of one glyph's stems -/
theorem RL0_stems {A A' P P' : hGM} (h : RL0 A P) (hn : fNum A') {g m : Int} (g0 : 0 ≤ g) (g1 : g < A 0 0) (a0 : A' 0 = A 0) (a1 : A' 1 = A 1) (a6 : A' 6 = A 6) (p1 : P' 1 = P 1) (p2 : P' 2 = P 2) (p7 : P' 7 = P 7)
    (a2 : ∀ x : Int, A' 2 x = if x = g then m else A 2 x) (p3 : ∀ x : Int, P' 3 x = if x = g then m else P 3 x)
    (ho : ∀ q : Int, (q < g * 6 ∨ g * 6 + 6 ≤ q) → (A' 3 q = A 3 q ∧ A' 4 q = A 4 q ∧ A' 5 q = A 5 q) ∧ (P' 4 q = P 4 q ∧ P' 5 q = P 5 q ∧ P' 6 q = P 6 q))
    (hg : ∀ k : Int, 0 ≤ k → k < 6 → (k < m → (P' 4 (g * 6 + k) = A' 3 (g * 6 + k) ∧ P' 5 (g * 6 + k) = A' 4 (g * 6 + k) ∧ P' 6 (g * 6 + k) = A' 5 (g * 6 + k)) ∧ 1 ≤ A' 4 (g * 6 + k) ∧ (k + 1 < m → A' 3 (g * 6 + k) + A' 4 (g * 6 + k) ≤ A' 3 (g * 6 + (k + 1)))) ∧ (m ≤ k → A' 4 (g * 6 + k) = 0)) : RL0 A' P' := by
  have ng := rl_g h
  refine ⟨hn, ?_, ?_, ?_, ?_⟩
  · rw [a0, p1]; exact h.2.1
  · rw [a0, a6, p7]; exact h.2.2.1
  · intro x x0 x1
    have w := h.2.2.2.1 x x0 x1
    rw [a0, a1, p2, a2, p3]
    by_cases e : x = g
    · rw [if_pos e, if_pos e]
      exact ⟨fun c => ⟨(w.1 c).1, rfl⟩, fun c => by omega⟩
    · rw [if_neg e, if_neg e]
      exact w
  · intro x k x0 x1 k0 k1
    rw [a2]
    by_cases e : x = g
    · rw [if_pos e, e]
      exact hg k k0 k1
    · have w := h.2.2.2.2 x k x0 x1 k0 k1
      have mb := rl_m8 h x0 x1
      obtain ⟨o1, o2⟩ := ho (x * 6 + k) (by omega)
      rw [if_neg e, o1.1, o1.2.1, o1.2.2, o2.1, o2.2.1, o2.2.2]
      refine ⟨fun c => ?_, w.2⟩
      have v := w.1 c
      refine ⟨v.1, v.2.1, fun d => ?_⟩
      rw [(ho (x * 6 + (k + 1)) (by omega)).1.1]
      exact v.2.2 d
theorem rl_hintSet {A P P' : hGM} (h : RLA A P) {g k v : Int} (g0 : 0 ≤ g) (g1 : g < A 0 0) (k0 : 0 ≤ k) (k1 : k < A 2 g) (v0 : 0 ≤ v) (v1 : v ≤ 3) (hP : P' = aset P 6 (6 * g + k) v) : RLA (aset A 5 (g * 6 + k) v) P' := by
  have ng := rl_g h.1
  have mb := rl_m8 h.1 g0 (by omega)
  have p := put5_num h.1.1 (k := g * 6 + k) v0 v1
  rw [put_in (by omega) (by omega)] at p
  rw [show 6 * g + k = g * 6 + k by omega] at hP
  subst hP
  refine RL_low h (RL0_stems (g := g) (m := A 2 g) h.1 p g0 g1 (aset_row (by decide)) (aset_row (by decide)) (aset_row (by decide)) (aset_row (by decide)) (aset_row (by decide)) (aset_row (by decide)) (fun x => ?_) (fun x => ?_) (fun q hq => ?_) (fun j j0 j1 => ?_)) (fun i hi => aset_row (by omega)) (by rw [aset_row (by decide)]; exact Int.le_refl _) (by rw [aset_row (by decide)]) (fun i hi => aset_row (by omega))
  · rw [aset_row (by decide)]
    by_cases e : x = g
    · rw [if_pos e, e]
    · rw [if_neg e]
  · rw [aset_row (by decide)]
    by_cases e : x = g
    · rw [if_pos e, e]; exact (rl_many h.1 g0 g1).1.2
    · rw [if_neg e]
  · rw [aset_row (i := 5) (j := 3) (by decide), aset_row (i := 5) (j := 4) (by decide), aset_row (i := 6) (j := 4) (by decide), aset_row (i := 6) (j := 5) (by decide), aset_ne (i := 5) (by omega), aset_ne (i := 6) (by omega)]
    exact ⟨⟨rfl, rfl, rfl⟩, rfl, rfl, rfl⟩
  · have w := h.1.2.2.2.2 g j g0 (by omega) j0 j1
    rw [aset_row (i := 5) (j := 3) (by decide), aset_row (i := 5) (j := 4) (by decide), aset_row (i := 6) (j := 4) (by decide), aset_row (i := 6) (j := 5) (by decide)]
    refine ⟨fun c => ?_, w.2⟩
    have u := w.1 c
    refine ⟨⟨u.1.1, u.1.2.1, ?_⟩, u.2⟩
    by_cases e : j = k
    · rw [e, aset_at, aset_at]
    · rw [aset_ne (by omega), aset_ne (by omega)]
      exact u.1.2.2
/-- stems lie in order -/
theorem stem_sorted {A P : hGM} (h : RL0 A P) {g : Int} (g0 : 0 ≤ g) (g1 : g < 8) {j : Int} (j0 : 0 ≤ j) (d : Nat) : j + 1 + d < A 2 g → A 3 (g * 6 + j) + A 4 (g * 6 + j) ≤ A 3 (g * 6 + (j + 1 + d)) := by
  induction d with
  | zero =>
    intro c
    have q := (rl_stem h (g := g) (k := j) g0 g1 j0 (by omega)).2.2.2.2 (by omega)
    rw [show j + 1 + ((0 : Nat) : Int) = j + 1 by omega]
    exact q
  | succ d ih =>
    intro c
    have i1 := ih (by omega)
    have q := (rl_stem h (g := g) (k := j + 1 + d) g0 g1 (by omega) (by omega)).2.2.2.2 (by omega)
    have w := (rl_stem h (g := g) (k := j + 1 + d) g0 g1 (by omega) (by omega)).2.2.1
    rw [show j + 1 + ((d + 1 : Nat) : Int) = j + 1 + d + 1 by omega]
    omega
theorem stem_lt {A P : hGM} (h : RL0 A P) {g : Int} (g0 : 0 ≤ g) (g1 : g < 8) {j k : Int} (j0 : 0 ≤ j) (jk : j < k) (k1 : k < A 2 g) : A 3 (g * 6 + j) + A 4 (g * 6 + j) ≤ A 3 (g * 6 + k) := by
  have q := stem_sorted h g0 g1 j0 (k - j - 1).toNat (by omega)
  rw [show j + 1 + ((k - j - 1).toNat : Int) = k by omega] at q
  exact q
/-- of numbers in order those below p are the first ones -/
theorem cnt_first {f : Int → Int} {p : Int} (n : Nat) (hs : ∀ j k : Int, 0 ≤ j → j < k → k < n → f j < f k) : (0 ≤ sumN (fun k => if f k < p then 1 else 0) n ∧ sumN (fun k => if f k < p then 1 else 0) n ≤ n) ∧ ∀ k : Int, 0 ≤ k → k < n → (f k < p ↔ k < sumN (fun k => if f k < p then 1 else 0) n) := by
  induction n with
  | zero => exact ⟨⟨by show (0 : Int) ≤ 0; decide, by show (0 : Int) ≤ 0; decide⟩, fun k a b => by omega⟩
  | succ n ih =>
    obtain ⟨b, ih⟩ := ih (fun j k x y z => hs j k x y (by omega))
    rw [sumN_s]
    generalize sumN (fun k => if f k < p then 1 else 0) n = c at b ih ⊢
    show (0 ≤ c + (if f n < p then 1 else 0) ∧ c + (if f n < p then 1 else 0) ≤ ((n + 1 : Nat) : Int)) ∧ ∀ k : Int, 0 ≤ k → k < ((n + 1 : Nat) : Int) → (f k < p ↔ k < c + (if f n < p then 1 else 0))
    by_cases d : f n < p
    · rw [if_pos d]
      have cn : c = n := by
        by_cases z : n = 0
        · omega
        · have q := (ih ((n : Int) - 1) (by omega) (by omega)).mp (by have := hs ((n : Int) - 1) n (by omega) (by omega) (by omega); omega)
          omega
      refine ⟨by omega, fun k k0 k1 => ⟨fun _ => by omega, fun _ => ?_⟩⟩
      by_cases e : k = n
      · rw [e]; exact d
      · have := hs k n k0 (by omega) (by omega)
        omega
    · rw [if_neg d, Int.add_zero]
      refine ⟨by omega, fun k k0 k1 => ?_⟩
      by_cases e : k = n
      · rw [e]; exact ⟨fun q => absurd q d, fun q => by omega⟩
      · exact ih k k0 (by omega)
theorem lf_first {A P : hGM} (h : RL0 A P) {g : Int} (g0 : 0 ≤ g) (g1 : g < 8) (p : Int) : (0 ≤ lfN A g p (A 2 g).toNat ∧ lfN A g p (A 2 g).toNat ≤ A 2 g) ∧ ∀ k : Int, 0 ≤ k → k < A 2 g → (A 3 (g * 6 + k) < p ↔ k < lfN A g p (A 2 g).toNat) := by
  have mb := rl_m8 h g0 g1
  have q := cnt_first (f := fun k => A 3 (g * 6 + k)) (p := p) (A 2 g).toNat (fun j k a b c => by
    have := stem_lt h g0 g1 a b (by omega : k < A 2 g)
    have := (rl_stem h (g := g) (k := j) g0 g1 a (by omega)).2.2.1
    show A 3 (g * 6 + j) < A 3 (g * 6 + k)
    omega)
  have q1 : 0 ≤ lfN A g p (A 2 g).toNat ∧ lfN A g p (A 2 g).toNat ≤ ((A 2 g).toNat : Int) := q.1
  exact ⟨by omega, fun k a b => q.2 k a (by omega)⟩
/-- stems of the law, moved to the right -/
def mvR (P : hGM) (a b : Int) : hGM := fun i q => if (i = 4 ∨ i = 5 ∨ i = 6) ∧ a < q ∧ q ≤ b then P i (q - 1) else P i q
def mvL (P : hGM) (a b : Int) : hGM := fun i q => if (i = 4 ∨ i = 5 ∨ i = 6) ∧ a ≤ q ∧ q < b then P i (q + 1) else P i q
theorem mvR_0 (P : hGM) (a : Int) : mvR P a a = P := by
  funext i q
  unfold mvR
  rw [if_neg (by omega)]
theorem mvL_0 (P : hGM) (a : Int) : mvL P a a = P := by
  funext i q
  unfold mvL
  rw [if_neg (by omega)]
theorem mvR_step {P : hGM} {a b : Int} (h : a ≤ b) : aset (aset (aset (mvR P a b) 4 a ((mvR P a b) 4 (a - 1))) 5 a ((aset (mvR P a b) 4 a ((mvR P a b) 4 (a - 1))) 5 (a - 1))) 6 a ((aset (aset (mvR P a b) 4 a ((mvR P a b) 4 (a - 1))) 5 a ((aset (mvR P a b) 4 a ((mvR P a b) 4 (a - 1))) 5 (a - 1))) 6 (a - 1)) = mvR P (a - 1) b := by
  have e : ∀ i : Nat, mvR P a b i (a - 1) = P i (a - 1) := fun i => by unfold mvR; rw [if_neg (by omega)]
  rw [aset_row (i := 4) (j := 5) (by decide), aset_row (i := 5) (j := 6) (by decide), aset_row (i := 4) (j := 6) (by decide), e, e, e]
  funext i q
  unfold aset mvR
  by_cases c6 : i = 6 ∧ q = a
  · rw [if_pos c6, if_pos (by omega), c6.1, c6.2]
  · rw [if_neg c6]
    by_cases c5 : i = 5 ∧ q = a
    · rw [if_pos c5, if_pos (by omega), c5.1, c5.2]
    · rw [if_neg c5]
      by_cases c4 : i = 4 ∧ q = a
      · rw [if_pos c4, if_pos (by omega), c4.1, c4.2]
      · rw [if_neg c4]
        by_cases d : (i = 4 ∨ i = 5 ∨ i = 6) ∧ a < q ∧ q ≤ b
        · rw [if_pos d, if_pos (by omega)]
        · rw [if_neg d, if_neg (by omega)]
theorem mvL_step {P : hGM} {a b : Int} (h : a ≤ b) : aset (aset (aset (mvL P a b) 4 b ((mvL P a b) 4 (b + 1))) 5 b ((aset (mvL P a b) 4 b ((mvL P a b) 4 (b + 1))) 5 (b + 1))) 6 b ((aset (aset (mvL P a b) 4 b ((mvL P a b) 4 (b + 1))) 5 b ((aset (mvL P a b) 4 b ((mvL P a b) 4 (b + 1))) 5 (b + 1))) 6 (b + 1)) = mvL P a (b + 1) := by
  have e : ∀ i : Nat, mvL P a b i (b + 1) = P i (b + 1) := fun i => by unfold mvL; rw [if_neg (by omega)]
  rw [aset_row (i := 4) (j := 5) (by decide), aset_row (i := 5) (j := 6) (by decide), aset_row (i := 4) (j := 6) (by decide), e, e, e]
  funext i q
  unfold aset mvL
  by_cases c6 : i = 6 ∧ q = b
  · rw [if_pos c6, if_pos (by omega), c6.1, c6.2]
  · rw [if_neg c6]
    by_cases c5 : i = 5 ∧ q = b
    · rw [if_pos c5, if_pos (by omega), c5.1, c5.2]
    · rw [if_neg c5]
      by_cases c4 : i = 4 ∧ q = b
      · rw [if_pos c4, if_pos (by omega), c4.1, c4.2]
      · rw [if_neg c4]
        by_cases d : (i = 4 ∨ i = 5 ∨ i = 6) ∧ a ≤ q ∧ q < b
        · rw [if_pos d, if_pos (by omega)]
        · rw [if_neg d, if_neg (by omega)]
theorem mvR_row {P : hGM} {a b : Int} {i : Nat} (h : i < 4 ∨ 6 < i) : mvR P a b i = P i := by
  funext q
  unfold mvR
  rw [if_neg (by omega)]
theorem mvL_row {P : hGM} {a b : Int} {i : Nat} (h : i < 4 ∨ 6 < i) : mvL P a b i = P i := by
  funext q
  unfold mvL
  rw [if_neg (by omega)]
/-- a stem comes -/
theorem rl_stemIn {A P P' : hGM} (h : RLA A P) {g n p w : Int} (g0 : 0 ≤ g) (g1 : g < A 0 0) (p0 : 0 ≤ p) (p1 : p ≤ 999) (w0 : 1 ≤ w) (w1 : w ≤ 300) (m6 : A 2 g < 6) (n0 : 0 ≤ n) (n1 : n ≤ A 2 g) (hl : 0 < n → A 3 (g * 6 + (n - 1)) + A 4 (g * 6 + (n - 1)) ≤ p) (hr : n < A 2 g → p + w ≤ A 3 (g * 6 + n))
    (hP : P' = aset (aset (aset (aset (mvR P (g * 6 + n) (g * 6 + A 2 g)) 4 (g * 6 + n) p) 5 (g * 6 + n) w) 6 (g * 6 + n) 0) 3 g (A 2 g + 1)) :
    RLA (aset (put3 (shR A (g * 6 + n) (g * 6 + A 2 g)) (g * 6 + n) p w 0) 2 g (A 2 g + 1)) P' := by
  have ng := rl_g h.1
  have mb := rl_m8 h.1 g0 (by omega : g < 8)
  obtain ⟨f0, f1, f2, f3, f4, f5, f6⟩ := h.1.1
  have dr : ∀ i : Nat, i ≠ 2 → i ≠ 3 → i ≠ 4 → i ≠ 5 → aset (put3 (shR A (g * 6 + n) (g * 6 + A 2 g)) (g * 6 + n) p w 0) 2 g (A 2 g + 1) i = A i := by
    intro i a b c d
    rw [aset_row a]
    funext q
    unfold put3 shR
    by_cases e : q = g * 6 + n
    · rw [if_pos e, if_neg b, if_neg c, if_neg d, if_neg (by omega)]
    · rw [if_neg e, if_neg (by omega)]
  have d2 : ∀ x : Int, aset (put3 (shR A (g * 6 + n) (g * 6 + A 2 g)) (g * 6 + n) p w 0) 2 g (A 2 g + 1) 2 x = if x = g then A 2 g + 1 else A 2 x := by
    intro x
    by_cases e : x = g
    · rw [e, aset_at, if_pos rfl]
    · rw [aset_ne (by omega), if_neg e]
      unfold put3 shR
      by_cases e2 : x = g * 6 + n
      · rw [if_pos e2, if_neg (by decide), if_neg (by decide), if_neg (by decide), if_neg (by omega)]
      · rw [if_neg e2, if_neg (by omega)]
  have d3 : ∀ (i : Nat) (v : Int), (i = 3 ∧ v = p) ∨ (i = 4 ∧ v = w) ∨ (i = 5 ∧ v = 0) → ∀ q : Int, aset (put3 (shR A (g * 6 + n) (g * 6 + A 2 g)) (g * 6 + n) p w 0) 2 g (A 2 g + 1) i q = if q = g * 6 + n then v else if g * 6 + n < q ∧ q ≤ g * 6 + A 2 g then A i (q - 1) else A i q := by
    intro i v hi q
    rw [aset_row (by omega)]
    unfold put3 shR
    by_cases e : q = g * 6 + n
    · rw [if_pos e, if_pos e]
      rcases hi with ⟨rfl, rfl⟩ | ⟨rfl, rfl⟩ | ⟨rfl, rfl⟩
      · rw [if_pos rfl]
      · rw [if_neg (by decide), if_pos rfl]
      · rw [if_neg (by decide), if_neg (by decide), if_pos rfl]
    · rw [if_neg e, if_neg e]
      by_cases c : g * 6 + n < q ∧ q ≤ g * 6 + A 2 g
      · rw [if_pos (by omega), if_pos c]
      · rw [if_neg (by omega), if_neg c]
  have d33 := d3 3 p (Or.inl ⟨rfl, rfl⟩)
  have d34 := d3 4 w (Or.inr (Or.inl ⟨rfl, rfl⟩))
  have d35 := d3 5 0 (Or.inr (Or.inr ⟨rfl, rfl⟩))
  clear d3
  generalize aset (put3 (shR A (g * 6 + n) (g * 6 + A 2 g)) (g * 6 + n) p w 0) 2 g (A 2 g + 1) = B at dr d2 d33 d34 d35 ⊢
  have er : ∀ i : Nat, i < 3 ∨ 6 < i → P' i = P i := fun i hi => by rw [hP, aset_row (by omega), aset_row (by omega), aset_row (by omega), aset_row (by omega), mvR_row (by omega)]
  have e3 : ∀ x : Int, P' 3 x = if x = g then A 2 g + 1 else P 3 x := by
    intro x
    rw [hP]
    by_cases e : x = g
    · rw [e, aset_at, if_pos rfl]
    · rw [aset_ne (by omega), if_neg e, aset_row (by decide), aset_row (by decide), aset_row (by decide), mvR_row (by decide)]
  have e4 : ∀ (i : Nat) (v : Int), (i = 4 ∧ v = p) ∨ (i = 5 ∧ v = w) ∨ (i = 6 ∧ v = 0) → ∀ q : Int, P' i q = if q = g * 6 + n then v else if g * 6 + n < q ∧ q ≤ g * 6 + A 2 g then P i (q - 1) else P i q := by
    intro i v hi q
    have em : ∀ i : Nat, (i = 4 ∨ i = 5 ∨ i = 6) → mvR P (g * 6 + n) (g * 6 + A 2 g) i q = if g * 6 + n < q ∧ q ≤ g * 6 + A 2 g then P i (q - 1) else P i q := fun i hi => by
      unfold mvR
      by_cases c : g * 6 + n < q ∧ q ≤ g * 6 + A 2 g
      · rw [if_pos (by omega), if_pos c]
      · rw [if_neg (by omega), if_neg c]
    rw [hP, aset_row (by omega)]
    by_cases e : q = g * 6 + n
    · rw [if_pos e, e]
      rcases hi with ⟨rfl, rfl⟩ | ⟨rfl, rfl⟩ | ⟨rfl, rfl⟩
      · rw [aset_row (by decide), aset_row (by decide), aset_at]
      · rw [aset_row (by decide), aset_at]
      · rw [aset_at]
    · rw [if_neg e, aset_ne (by omega), aset_ne (by omega), aset_ne (by omega)]
      exact em i (by omega)
  have e44 := e4 4 p (Or.inl ⟨rfl, rfl⟩)
  have e45 := e4 5 w (Or.inr (Or.inl ⟨rfl, rfl⟩))
  have e46 := e4 6 0 (Or.inr (Or.inr ⟨rfl, rfl⟩))
  clear e4 hP
  have hn : fNum B := by
    refine ⟨by rw [dr 0 (by decide) (by decide) (by decide) (by decide)]; exact f0, by rw [dr 0 (by decide) (by decide) (by decide) (by decide)]; exact f1, by rw [dr 0 (by decide) (by decide) (by decide) (by decide)]; exact f2, by rw [dr 0 (by decide) (by decide) (by decide) (by decide)]; exact f3, by rw [dr 6 (by decide) (by decide) (by decide) (by decide)]; exact f4, fun q q0 q1 => ?_, fun x x0 x1 => ?_⟩
    · rw [d33, d34, d35]
      by_cases e : q = g * 6 + n
      · rw [if_pos e, if_pos e, if_pos e]; omega
      · rw [if_neg e, if_neg e, if_neg e]
        by_cases c : g * 6 + n < q ∧ q ≤ g * 6 + A 2 g
        · rw [if_pos c, if_pos c, if_pos c]; exact f5 (q - 1) (by omega) (by omega)
        · rw [if_neg c, if_neg c, if_neg c]; exact f5 q q0 q1
    · rw [dr 1 (by decide) (by decide) (by decide) (by decide), d2]
      have a := f6 x x0 x1
      refine ⟨a.1, ?_⟩
      by_cases e : x = g
      · rw [if_pos e]; omega
      · rw [if_neg e]; exact a.2
  refine RL_low h (RL0_stems (g := g) (m := A 2 g + 1) h.1 hn g0 g1 (dr 0 (by decide) (by decide) (by decide) (by decide)) (dr 1 (by decide) (by decide) (by decide) (by decide)) (dr 6 (by decide) (by decide) (by decide) (by decide)) (er 1 (by decide)) (er 2 (by decide)) (er 7 (by decide)) d2 e3 (fun q hq => ?_) (fun k k0 k1 => ?_)) (fun i hi => dr i (by omega) (by omega) (by omega) (by omega)) (by rw [dr 0 (by decide) (by decide) (by decide) (by decide)]; exact Int.le_refl _) (by rw [er 1 (by decide)]) (fun i hi => er i (by omega))
  · have c1 : ¬ q = g * 6 + n := by omega
    have c2 : ¬ (g * 6 + n < q ∧ q ≤ g * 6 + A 2 g) := by omega
    rw [d33, d34, d35, e44, e45, e46, if_neg c1, if_neg c1, if_neg c1, if_neg c1, if_neg c1, if_neg c1, if_neg c2, if_neg c2, if_neg c2, if_neg c2, if_neg c2, if_neg c2]
    exact ⟨⟨rfl, rfl, rfl⟩, rfl, rfl, rfl⟩
  · have st : ∀ k : Int, 0 ≤ k → k < A 2 g → _ := fun k a b => rl_stem h.1 (g := g) (k := k) g0 (by omega) a b
    have nx : ∀ j : Int, 0 ≤ j → j ≤ A 2 g → B 3 (g * 6 + j) = if j = n then p else if n < j then A 3 (g * 6 + (j - 1)) else A 3 (g * 6 + j) := fun j a b => by
      rw [d33]
      by_cases c1 : j = n
      · rw [if_pos c1, if_pos (by omega)]
      · rw [if_neg c1, if_neg (by omega)]
        by_cases c2 : n < j
        · rw [if_pos c2, if_pos (by omega), show g * 6 + j - 1 = g * 6 + (j - 1) by omega]
        · rw [if_neg c2, if_neg (by omega)]
    constructor
    · intro c
      by_cases e : k = n
      · have q1 : g * 6 + k = g * 6 + n := by omega
        refine ⟨?_, ?_, fun d => ?_⟩
        · rw [d33, d34, d35, e44, e45, e46, if_pos q1, if_pos q1, if_pos q1, if_pos q1, if_pos q1, if_pos q1]; exact ⟨rfl, rfl, rfl⟩
        · rw [d34, if_pos q1]; exact w0
        · rw [d34, if_pos q1, nx k k0 (by omega), nx (k + 1) (by omega) (by omega), if_pos e, if_neg (by omega), if_pos (by omega), show k + 1 - 1 = n by omega]
          exact hr (by omega)
      · have q1 : ¬ g * 6 + k = g * 6 + n := by omega
        by_cases c2 : n < k
        · have q2 : g * 6 + n < g * 6 + k ∧ g * 6 + k ≤ g * 6 + A 2 g := by omega
          have v := st (k - 1) (by omega) (by omega)
          refine ⟨?_, ?_, fun d => ?_⟩
          · rw [d33, d34, d35, e44, e45, e46, if_neg q1, if_neg q1, if_neg q1, if_neg q1, if_neg q1, if_neg q1, if_pos q2, if_pos q2, if_pos q2, if_pos q2, if_pos q2, if_pos q2, show g * 6 + k - 1 = g * 6 + (k - 1) by omega]
            exact v.1
          · rw [d34, if_neg q1, if_pos q2, show g * 6 + k - 1 = g * 6 + (k - 1) by omega]; exact v.2.2.1.1
          · rw [d34, if_neg q1, if_pos q2, nx k k0 (by omega), nx (k + 1) (by omega) (by omega), if_neg e, if_pos c2, if_neg (by omega), if_pos (by omega), show g * 6 + k - 1 = g * 6 + (k - 1) by omega, show k + 1 - 1 = k - 1 + 1 by omega]
            exact v.2.2.2.2 (by omega)
        · have q2 : ¬ (g * 6 + n < g * 6 + k ∧ g * 6 + k ≤ g * 6 + A 2 g) := by omega
          have v := st k k0 (by omega)
          refine ⟨?_, ?_, fun d => ?_⟩
          · rw [d33, d34, d35, e44, e45, e46, if_neg q1, if_neg q1, if_neg q1, if_neg q1, if_neg q1, if_neg q1, if_neg q2, if_neg q2, if_neg q2, if_neg q2, if_neg q2, if_neg q2]
            exact v.1
          · rw [d34, if_neg q1, if_neg q2]; exact v.2.2.1.1
          · rw [d34, if_neg q1, if_neg q2, nx k k0 (by omega), nx (k + 1) (by omega) (by omega), if_neg e, if_neg c2]
            by_cases e2 : k + 1 = n
            · rw [if_pos e2]
              have := hl (by omega)
              rw [show n - 1 = k by omega] at this
              exact this
            · rw [if_neg e2, if_neg (by omega)]
              exact v.2.2.2.2 (by omega)
    · intro c
      rw [d34, if_neg (by omega), if_neg (by omega)]
      exact rl_none h.1 g0 (by omega) k0 k1 (by omega)
/-- a stem goes -/
theorem rl_stemOut {A P P' : hGM} (h : RLA A P) {g n : Int} (g0 : 0 ≤ g) (g1 : g < A 0 0) (n0 : 0 ≤ n) (n1 : n < A 2 g)
    (hP : P' = mvL (aset P 3 g (A 2 g - 1)) (g * 6 + n) (g * 6 + (A 2 g - 1))) :
    RLA (aset (put3 (shL A (g * 6 + n) (g * 6 + (A 2 g - 1))) (g * 6 + (A 2 g - 1)) 0 0 0) 2 g (A 2 g - 1)) P' := by
  have ng := rl_g h.1
  have mb := rl_m8 h.1 g0 (by omega : g < 8)
  obtain ⟨f0, f1, f2, f3, f4, f5, f6⟩ := h.1.1
  have dr : ∀ i : Nat, i ≠ 2 → i ≠ 3 → i ≠ 4 → i ≠ 5 → aset (put3 (shL A (g * 6 + n) (g * 6 + (A 2 g - 1))) (g * 6 + (A 2 g - 1)) 0 0 0) 2 g (A 2 g - 1) i = A i := by
    intro i a b c d
    rw [aset_row a]
    funext q
    unfold put3 shL
    by_cases e : q = g * 6 + (A 2 g - 1)
    · rw [if_pos e, if_neg b, if_neg c, if_neg d, if_neg (by omega)]
    · rw [if_neg e, if_neg (by omega)]
  have d2 : ∀ x : Int, aset (put3 (shL A (g * 6 + n) (g * 6 + (A 2 g - 1))) (g * 6 + (A 2 g - 1)) 0 0 0) 2 g (A 2 g - 1) 2 x = if x = g then A 2 g - 1 else A 2 x := by
    intro x
    by_cases e : x = g
    · rw [e, aset_at, if_pos rfl]
    · rw [aset_ne (by omega), if_neg e]
      unfold put3 shL
      by_cases e2 : x = g * 6 + (A 2 g - 1)
      · rw [if_pos e2, if_neg (by decide), if_neg (by decide), if_neg (by decide), if_neg (by omega)]
      · rw [if_neg e2, if_neg (by omega)]
  have d3 : ∀ i : Nat, i = 3 ∨ i = 4 ∨ i = 5 → ∀ q : Int, aset (put3 (shL A (g * 6 + n) (g * 6 + (A 2 g - 1))) (g * 6 + (A 2 g - 1)) 0 0 0) 2 g (A 2 g - 1) i q = if q = g * 6 + (A 2 g - 1) then 0 else if g * 6 + n ≤ q ∧ q < g * 6 + (A 2 g - 1) then A i (q + 1) else A i q := by
    intro i hi q
    rw [aset_row (by omega)]
    unfold put3 shL
    by_cases e : q = g * 6 + (A 2 g - 1)
    · rw [if_pos e, if_pos e]
      rcases hi with rfl | rfl | rfl
      · rw [if_pos rfl]
      · rw [if_neg (by decide), if_pos rfl]
      · rw [if_neg (by decide), if_neg (by decide), if_pos rfl]
    · rw [if_neg e, if_neg e]
      by_cases c : g * 6 + n ≤ q ∧ q < g * 6 + (A 2 g - 1)
      · rw [if_pos (by omega), if_pos c]
      · rw [if_neg (by omega), if_neg c]
  have d33 := d3 3 (Or.inl rfl)
  have d34 := d3 4 (Or.inr (Or.inl rfl))
  have d35 := d3 5 (Or.inr (Or.inr rfl))
  clear d3
  generalize aset (put3 (shL A (g * 6 + n) (g * 6 + (A 2 g - 1))) (g * 6 + (A 2 g - 1)) 0 0 0) 2 g (A 2 g - 1) = B at dr d2 d33 d34 d35 ⊢
  have er : ∀ i : Nat, i < 3 ∨ 6 < i → P' i = P i := fun i hi => by rw [hP, mvL_row (by omega), aset_row (by omega)]
  have e3 : ∀ x : Int, P' 3 x = if x = g then A 2 g - 1 else P 3 x := by
    intro x
    rw [hP, mvL_row (by decide)]
    by_cases e : x = g
    · rw [e, aset_at, if_pos rfl]
    · rw [aset_ne (by omega), if_neg e]
  have e4 : ∀ i : Nat, (i = 4 ∨ i = 5 ∨ i = 6) → ∀ q : Int, P' i q = if g * 6 + n ≤ q ∧ q < g * 6 + (A 2 g - 1) then P i (q + 1) else P i q := by
    intro i hi q
    rw [hP]
    unfold mvL
    rw [aset_row (by omega)]
    by_cases c : g * 6 + n ≤ q ∧ q < g * 6 + (A 2 g - 1)
    · rw [if_pos (by omega), if_pos c]
    · rw [if_neg (by omega), if_neg c]
  have e44 := e4 4 (Or.inl rfl)
  have e45 := e4 5 (Or.inr (Or.inl rfl))
  have e46 := e4 6 (Or.inr (Or.inr rfl))
  clear e4 hP
  have hn : fNum B := by
    refine ⟨by rw [dr 0 (by decide) (by decide) (by decide) (by decide)]; exact f0, by rw [dr 0 (by decide) (by decide) (by decide) (by decide)]; exact f1, by rw [dr 0 (by decide) (by decide) (by decide) (by decide)]; exact f2, by rw [dr 0 (by decide) (by decide) (by decide) (by decide)]; exact f3, by rw [dr 6 (by decide) (by decide) (by decide) (by decide)]; exact f4, fun q q0 q1 => ?_, fun x x0 x1 => ?_⟩
    · rw [d33, d34, d35]
      by_cases e : q = g * 6 + (A 2 g - 1)
      · rw [if_pos e, if_pos e, if_pos e]; omega
      · rw [if_neg e, if_neg e, if_neg e]
        by_cases c : g * 6 + n ≤ q ∧ q < g * 6 + (A 2 g - 1)
        · rw [if_pos c, if_pos c, if_pos c]; exact f5 (q + 1) (by omega) (by omega)
        · rw [if_neg c, if_neg c, if_neg c]; exact f5 q q0 q1
    · rw [dr 1 (by decide) (by decide) (by decide) (by decide), d2]
      have a := f6 x x0 x1
      refine ⟨a.1, ?_⟩
      by_cases e : x = g
      · rw [if_pos e]; omega
      · rw [if_neg e]; exact a.2
  refine RL_low h (RL0_stems (g := g) (m := A 2 g - 1) h.1 hn g0 g1 (dr 0 (by decide) (by decide) (by decide) (by decide)) (dr 1 (by decide) (by decide) (by decide) (by decide)) (dr 6 (by decide) (by decide) (by decide) (by decide)) (er 1 (by decide)) (er 2 (by decide)) (er 7 (by decide)) d2 e3 (fun q hq => ?_) (fun k k0 k1 => ?_)) (fun i hi => dr i (by omega) (by omega) (by omega) (by omega)) (by rw [dr 0 (by decide) (by decide) (by decide) (by decide)]; exact Int.le_refl _) (by rw [er 1 (by decide)]) (fun i hi => er i (by omega))
  · have c1 : ¬ q = g * 6 + (A 2 g - 1) := by omega
    have c2 : ¬ (g * 6 + n ≤ q ∧ q < g * 6 + (A 2 g - 1)) := by omega
    rw [d33, d34, d35, e44, e45, e46, if_neg c1, if_neg c1, if_neg c1, if_neg c2, if_neg c2, if_neg c2, if_neg c2, if_neg c2, if_neg c2]
    exact ⟨⟨rfl, rfl, rfl⟩, rfl, rfl, rfl⟩
  · have st : ∀ k : Int, 0 ≤ k → k < A 2 g → _ := fun k a b => rl_stem h.1 (g := g) (k := k) g0 (by omega) a b
    constructor
    · intro c
      have q1 : ¬ g * 6 + k = g * 6 + (A 2 g - 1) := by omega
      have nx : ∀ j : Int, j < A 2 g - 1 → B 3 (g * 6 + j) = if n ≤ j then A 3 (g * 6 + (j + 1)) else A 3 (g * 6 + j) := fun j b => by
        rw [d33, if_neg (by omega)]
        by_cases c2 : n ≤ j
        · rw [if_pos c2, if_pos (by omega), show g * 6 + j + 1 = g * 6 + (j + 1) by omega]
        · rw [if_neg c2, if_neg (by omega)]
      by_cases c2 : n ≤ k
      · have q2 : g * 6 + n ≤ g * 6 + k ∧ g * 6 + k < g * 6 + (A 2 g - 1) := by omega
        have v := st (k + 1) (by omega) (by omega)
        refine ⟨?_, ?_, fun d => ?_⟩
        · rw [d33, d34, d35, e44, e45, e46, if_neg q1, if_neg q1, if_neg q1, if_pos q2, if_pos q2, if_pos q2, if_pos q2, if_pos q2, if_pos q2, show g * 6 + k + 1 = g * 6 + (k + 1) by omega]
          exact v.1
        · rw [d34, if_neg q1, if_pos q2, show g * 6 + k + 1 = g * 6 + (k + 1) by omega]; exact v.2.2.1.1
        · rw [d34, if_neg q1, if_pos q2, nx k (by omega), nx (k + 1) (by omega), if_pos c2, if_pos (by omega), show g * 6 + k + 1 = g * 6 + (k + 1) by omega]
          exact v.2.2.2.2 (by omega)
      · have q2 : ¬ (g * 6 + n ≤ g * 6 + k ∧ g * 6 + k < g * 6 + (A 2 g - 1)) := by omega
        have v := st k k0 (by omega)
        refine ⟨?_, ?_, fun d => ?_⟩
        · rw [d33, d34, d35, e44, e45, e46, if_neg q1, if_neg q1, if_neg q1, if_neg q2, if_neg q2, if_neg q2, if_neg q2, if_neg q2, if_neg q2]
          exact v.1
        · rw [d34, if_neg q1, if_neg q2]; exact v.2.2.1.1
        · rw [d34, if_neg q1, if_neg q2, nx k (by omega), nx (k + 1) (by omega), if_neg c2]
          by_cases e2 : n ≤ k + 1
          · rw [if_pos e2]
            exact stem_lt h.1 g0 (by omega) k0 (by omega) (by omega)
          · rw [if_neg e2]
            exact v.2.2.2.2 (by omega)
    · intro c
      by_cases e : k = A 2 g - 1
      · rw [d34, if_pos (by omega)]
      · rw [d34, if_neg (by omega), if_neg (by omega)]
        exact rl_none h.1 g0 (by omega) k0 k1 (by omega)

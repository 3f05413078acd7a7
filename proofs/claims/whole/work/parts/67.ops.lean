/-! the whole of a font and a row: sheets too -/
def ShR (A : hGM) (r : Int → Int) (s i : Int) : Prop := A 9 s = r (169 + 10 * i) ∧ (6 ≤ A 9 s ∧ A 9 s ≤ 48) ∧ A 10 s = r (169 + 10 * i + 1) ∧ (0 ≤ A 10 s ∧ A 10 s ≤ A 0 0) ∧ ∀ g : Int, 0 ≤ g → g < 8 → (g < A 10 s → A 11 (s * 8 + g) = r (169 + 10 * i + (2 + g)) ∧ hlv (A 112 (s * 8 + g)) (r (209 + 16 * i + 2 * g)) (r (209 + 16 * i + 2 * g + 1))) ∧ (A 10 s ≤ g → r (169 + 10 * i + (2 + g)) = 0 ∧ r (209 + 16 * i + 2 * g) = 0 ∧ r (209 + 16 * i + 2 * g + 1) = 0)
def RelS (A : hGM) (r : Int → Int) : Prop := (∀ s : Int, 0 ≤ s → s < 4 → 0 ≤ A 8 s) ∧ ∃ o : Int → Int,
  (∀ i : Int, 0 ≤ i → i < r 7 → (0 ≤ o i ∧ o i < 4) ∧ (1 ≤ A 8 (o i) ∧ A 8 (o i) ≤ A 7 0) ∧ ShR A r (o i) i) ∧
  (∀ i j : Int, 0 ≤ i → i < j → j < r 7 → A 8 (o i) < A 8 (o j) ∧ ¬ A 9 (o i) = A 9 (o j)) ∧
  (∀ s : Int, 0 ≤ s → s < 4 → 1 ≤ A 8 s → ∃ i : Int, 0 ≤ i ∧ i < r 7 ∧ o i = s)
def Rel (A : hGM) (r : Int → Int) : Prop := Rel0 A r ∧ A 7 0 = r 8 ∧ RelS A r
def agR (r r' : Int → Int) : Prop := ∀ q : Int, 0 ≤ q → q < 273 → r' q = r q
def agF (A A' : hGM) : Prop := (∀ k : Int, 0 ≤ k → k < 4 → A' 0 k = A 0 k) ∧ (∀ k : Int, 0 ≤ k → k < 8 → A' 1 k = A 1 k ∧ A' 2 k = A 2 k) ∧ (∀ k : Int, 0 ≤ k → k < 48 → A' 3 k = A 3 k ∧ A' 4 k = A 4 k ∧ A' 5 k = A 5 k) ∧ (∀ k : Int, 0 ≤ k → k < 3 → A' 6 k = A 6 k) ∧ A' 7 0 = A 7 0 ∧ (∀ k : Int, 0 ≤ k → k < 4 → A' 8 k = A 8 k ∧ A' 9 k = A 9 k ∧ A' 10 k = A 10 k) ∧ (∀ k : Int, 0 ≤ k → k < 32 → A' 11 k = A 11 k ∧ A' 112 k = A 112 k)
theorem agF_copy (A B : hGM) : agF B (m_X1_copy A B) :=
  ⟨fun k a b => copy_0 A B k (by omega), fun k a b => ⟨copy_1 A B a b, copy_2 A B a b⟩, fun k a b => ⟨copy_3 A B a b, copy_4 A B a b, copy_5 A B a b⟩, fun k a b => copy_6 A B a b, copy_7 A B, fun k a b => ⟨copy_8 A B a b, copy_9 A B a b, copy_10 A B a b⟩, fun k a b => ⟨copy_11 A B a b, copy_112 A B a b⟩⟩
theorem mNum_ag {r r' : Int → Int} (h : mNum r) (o : agR r r') : mNum r' := by
  obtain ⟨a0, a1, a2, a5, a6, a7, a8, a9, a10⟩ := h
  refine ⟨by rw [o 0 (by omega) (by omega)]; exact a0, by rw [o 1 (by omega) (by omega)]; exact a1, fun k k0 k1 => by rw [o (2 + k) (by omega) (by omega)]; exact a2 k k0 k1, by rw [o 5 (by omega) (by omega)]; exact a5, by rw [o 6 (by omega) (by omega)]; exact a6, by rw [o 7 (by omega) (by omega)]; exact a7, by rw [o 8 (by omega) (by omega)]; exact a8, ?_, ?_⟩
  · intro g g0 g1
    have a := a9 g g0 g1
    rw [o (9 + 20 * g) (by omega) (by omega), o (9 + 20 * g + 1) (by omega) (by omega)]
    refine ⟨a.1, a.2.1, fun k k0 k1 => ?_⟩
    rw [o (9 + 20 * g + 2 + 3 * k) (by omega) (by omega), o (9 + 20 * g + 2 + 3 * k + 1) (by omega) (by omega), o (9 + 20 * g + 2 + 3 * k + 2) (by omega) (by omega)]
    exact a.2.2 k k0 k1
  · intro i i0 i1
    have a := a10 i i0 i1
    rw [o (169 + 10 * i) (by omega) (by omega), o (169 + 10 * i + 1) (by omega) (by omega)]
    refine ⟨a.1, a.2.1, fun g g0 g1 => ?_⟩
    rw [o (169 + 10 * i + (2 + g)) (by omega) (by omega)]
    exact a.2.2 g g0 g1
theorem fNum_ag {A A' : hGM} (h : fNum A) (o : agF A A') : fNum A' := by
  obtain ⟨n0, n1, n2, n3, n4, n5, n6⟩ := h
  obtain ⟨o0, o1, o3, o6, -, -, -⟩ := o
  refine ⟨by rw [o0 0 (by decide) (by decide)]; exact n0, by rw [o0 1 (by decide) (by decide)]; exact n1, by rw [o0 2 (by decide) (by decide)]; exact n2, by rw [o0 3 (by decide) (by decide)]; exact n3, fun k a b => by rw [o6 k a b]; exact n4 k a b, fun k a b => ?_, fun g a b => ?_⟩
  · have q := o3 k a b
    rw [q.1, q.2.1, q.2.2]; exact n5 k a b
  · have q := o1 g a b
    rw [q.1, q.2]; exact n6 g a b
theorem rel0_ag {A A' : hGM} {r r' : Int → Int} (h : Rel0 A r) (oA : agF A A') (o : agR r r') : Rel0 A' r' := by
  have n := rel_g h
  have hn := h.1
  have hm := h.2.1
  refine ⟨fNum_ag hn oA, mNum_ag hm o, ?_, ?_, ?_, ?_⟩
  · have q := h.2.2.1
    rw [oA.1 0 (by decide) (by decide), oA.1 1 (by decide) (by decide), oA.1 2 (by decide) (by decide), oA.1 3 (by decide) (by decide), o 0 (by decide) (by decide), o 1 (by decide) (by decide), o 5 (by decide) (by decide), o 6 (by decide) (by decide)]
    exact q
  · intro k k0 k1
    have b := hm.2.1
    rw [o 1 (by decide) (by decide)] at k1
    rw [oA.2.2.2.1 k k0 (by omega), o (2 + k) (by omega) (by omega)]
    exact h.2.2.2.1 k k0 k1
  · intro g g0 g1
    rw [(oA.2.1 g g0 g1).1, (oA.2.1 g g0 g1).2, o 0 (by decide) (by decide), o (9 + 20 * g) (by omega) (by omega), o (9 + 20 * g + 1) (by omega) (by omega)]
    exact h.2.2.2.2.1 g g0 g1
  · intro g k g0 g1 k0 k1
    have m := rel_many h g0 g1
    have q := oA.2.2.1 (g * 6 + k) (by omega) (by omega)
    rw [(oA.2.1 g g0 g1).2, q.1, q.2.1, q.2.2, o (v_X6_at g k 0) (by unfold v_X6_at; omega) (by unfold v_X6_at; omega), o (v_X6_at g k 1) (by unfold v_X6_at; omega) (by unfold v_X6_at; omega), o (v_X6_at g k 2) (by unfold v_X6_at; omega) (by unfold v_X6_at; omega)]
    have w := h.2.2.2.2.2 g k g0 g1 k0 k1
    refine ⟨fun c => ?_, w.2⟩
    have v := w.1 c
    refine ⟨v.1, v.2.1, fun d => ?_⟩
    rw [(oA.2.2.1 (g * 6 + (k + 1)) (by omega) (by omega)).1]
    exact v.2.2 d
theorem rel_ag {A A' : hGM} {r r' : Int → Int} (h : Rel A r) (oA : agF A A') (o : agR r r') : Rel A' r' := by
  obtain ⟨h0, h7, hs, od, p1, p2, p3⟩ := h
  have hm := h0.2.1
  have b7 := hm.2.2.2.2.2.1
  have ng := rel_g h0
  refine ⟨rel0_ag h0 oA o, by rw [oA.2.2.2.2.1, o 8 (by decide) (by decide)]; exact h7, fun s a b => by rw [(oA.2.2.2.2.2.1 s a b).1]; exact hs s a b, od, ?_, ?_, ?_⟩
  · intro i i0 i1
    rw [o 7 (by decide) (by decide)] at i1
    obtain ⟨q1, q2, q3⟩ := p1 i i0 i1
    have e := oA.2.2.2.2.2.1 (od i) q1.1 q1.2
    refine ⟨q1, by rw [e.1, oA.2.2.2.2.1]; exact q2, ?_⟩
    unfold ShR at q3 ⊢
    rw [e.2.1, e.2.2, oA.1 0 (by decide) (by decide), o (169 + 10 * i) (by omega) (by omega), o (169 + 10 * i + 1) (by omega) (by omega)]
    refine ⟨q3.1, q3.2.1, q3.2.2.1, q3.2.2.2.1, fun g g0 g1 => ?_⟩
    have e2 := oA.2.2.2.2.2.2 (od i * 8 + g) (by omega) (by omega)
    rw [e2.1, e2.2, o (169 + 10 * i + (2 + g)) (by omega) (by omega), o (209 + 16 * i + 2 * g) (by omega) (by omega), o (209 + 16 * i + 2 * g + 1) (by omega) (by omega)]
    exact q3.2.2.2.2 g g0 g1
  · intro i j i0 ij j1
    rw [o 7 (by decide) (by decide)] at j1
    have a := p1 i i0 (by omega)
    have b := p1 j (by omega) j1
    have e := oA.2.2.2.2.2.1 (od i) a.1.1 a.1.2
    have e2 := oA.2.2.2.2.2.1 (od j) b.1.1 b.1.2
    rw [e.1, e.2.1, e2.1, e2.2.1]
    exact p2 i j i0 ij j1
  · intro s s0 s1 s2
    rw [(oA.2.2.2.2.2.1 s s0 s1).1] at s2
    obtain ⟨i, i0, i1, i2⟩ := p3 s s0 s1 s2
    exact ⟨i, i0, by rw [o 7 (by decide) (by decide)]; exact i1, i2⟩
/-- changes that leave the sheets -/
theorem relS_low {A A' : hGM} {r r' : Int → Int} (h : RelS A r) (e : ∀ i : Nat, 7 ≤ i → A' i = A i) (e0 : A 0 0 ≤ A' 0 0) (o7 : r' 7 = r 7) (o : ∀ q : Int, 169 ≤ q → r' q = r q) : RelS A' r' := by
  obtain ⟨hs, od, p1, p2, p3⟩ := h
  refine ⟨fun s a b => by rw [e 8 (by decide)]; exact hs s a b, od, ?_, ?_, ?_⟩
  · intro i i0 i1
    rw [o7] at i1
    obtain ⟨q1, q2, q3⟩ := p1 i i0 i1
    refine ⟨q1, by rw [e 8 (by decide), e 7 (by decide)]; exact q2, ?_⟩
    unfold ShR at q3 ⊢
    rw [e 9 (by decide), e 10 (by decide), e 11 (by decide), e 112 (by decide), o (169 + 10 * i) (by omega), o (169 + 10 * i + 1) (by omega)]
    refine ⟨q3.1, q3.2.1, q3.2.2.1, ⟨q3.2.2.2.1.1, by omega⟩, fun g g0 g1 => ?_⟩
    rw [o (169 + 10 * i + (2 + g)) (by omega), o (209 + 16 * i + 2 * g) (by omega), o (209 + 16 * i + 2 * g + 1) (by omega)]
    exact q3.2.2.2.2 g g0 g1
  · intro i j i0 ij j1
    rw [o7] at j1
    rw [e 8 (by decide), e 9 (by decide)]
    exact p2 i j i0 ij j1
  · intro s s0 s1 s2
    rw [e 8 (by decide)] at s2
    obtain ⟨i, i0, i1, i2⟩ := p3 s s0 s1 s2
    exact ⟨i, i0, by rw [o7]; exact i1, i2⟩
/-- ranges of a row whose glyphs change -/
theorem mNum_of {r r' : Int → Int} (h : mNum r) (o0 : 0 ≤ r' 0 ∧ r' 0 ≤ 8) (o : ∀ q : Int, (1 ≤ q ∧ q < 9) ∨ 169 ≤ q → r' q = r q) (hg : ∀ g : Int, 0 ≤ g → g < 8 → (0 ≤ r' (9 + 20 * g) ∧ r' (9 + 20 * g) ≤ 1500) ∧ (0 ≤ r' (9 + 20 * g + 1) ∧ r' (9 + 20 * g + 1) ≤ 6) ∧ ∀ k : Int, 0 ≤ k → k < 6 → (0 ≤ r' (9 + 20 * g + 2 + 3 * k) ∧ r' (9 + 20 * g + 2 + 3 * k) ≤ 999) ∧ (0 ≤ r' (9 + 20 * g + 2 + 3 * k + 1) ∧ r' (9 + 20 * g + 2 + 3 * k + 1) ≤ 300) ∧ (0 ≤ r' (9 + 20 * g + 2 + 3 * k + 2) ∧ r' (9 + 20 * g + 2 + 3 * k + 2) ≤ 3)) : mNum r' := by
  obtain ⟨a0, a1, a2, a5, a6, a7, a8, a9, a10⟩ := h
  refine ⟨o0, by rw [o 1 (by omega)]; exact a1, fun k k0 k1 => by rw [o (2 + k) (by omega)]; exact a2 k k0 k1, by rw [o 5 (by omega)]; exact a5, by rw [o 6 (by omega)]; exact a6, by rw [o 7 (by omega)]; exact a7, by rw [o 8 (by omega)]; exact a8, hg, ?_⟩
  intro i i0 i1
  have a := a10 i i0 i1
  rw [o (169 + 10 * i) (by omega), o (169 + 10 * i + 1) (by omega)]
  refine ⟨a.1, a.2.1, fun g g0 g1 => ?_⟩
  rw [o (169 + 10 * i + (2 + g)) (by omega)]
  exact a.2.2 g g0 g1
/-- ranges of a row whose first numbers change -/
theorem mNum_lo {r r' : Int → Int} (h : mNum r) (o : ∀ q : Int, q < 1 ∨ 7 ≤ q → r' q = r q) (o1 : 0 ≤ r' 1 ∧ r' 1 ≤ 3) (o2 : ∀ k : Int, 0 ≤ k → k < 3 → 0 ≤ r' (2 + k) ∧ r' (2 + k) ≤ 300) (o5 : 0 ≤ r' 5 ∧ r' 5 ≤ 100) (o6 : 0 ≤ r' 6 ∧ r' 6 ≤ 3) : mNum r' := by
  obtain ⟨a0, a1, a2, a5, a6, a7, a8, a9, a10⟩ := h
  refine ⟨by rw [o 0 (by omega)]; exact a0, o1, o2, o5, o6, by rw [o 7 (by omega)]; exact a7, by rw [o 8 (by omega)]; exact a8, ?_, ?_⟩
  · intro g g0 g1
    have a := a9 g g0 g1
    rw [o (9 + 20 * g) (by omega), o (9 + 20 * g + 1) (by omega)]
    refine ⟨a.1, a.2.1, fun k k0 k1 => ?_⟩
    rw [o (9 + 20 * g + 2 + 3 * k) (by omega), o (9 + 20 * g + 2 + 3 * k + 1) (by omega), o (9 + 20 * g + 2 + 3 * k + 2) (by omega)]
    exact a.2.2 k k0 k1
  · intro i i0 i1
    have a := a10 i i0 i1
    rw [o (169 + 10 * i) (by omega), o (169 + 10 * i + 1) (by omega)]
    refine ⟨a.1, a.2.1, fun g g0 g1 => ?_⟩
    rw [o (169 + 10 * i + (2 + g)) (by omega)]
    exact a.2.2 g g0 g1
/-- glyphs and stems stay -/
theorem relF_lo {A A' : hGM} {r r' : Int → Int} (h : Rel0 A r) (n : fNum A') (m : mNum r') (e : ∀ i : Nat, 1 ≤ i → i ≤ 5 → A' i = A i) (o : ∀ q : Int, 9 ≤ q → q < 169 → r' q = r q) (o0 : r' 0 = r 0) (h1 : A' 0 0 = r' 0 ∧ A' 0 1 = r' 1 ∧ A' 0 2 = r' 5 ∧ A' 0 3 = r' 6) (h2 : ∀ k : Int, 0 ≤ k → k < r' 1 → A' 6 k = r' (2 + k) ∧ 1 ≤ A' 6 k) : Rel0 A' r' := by
  refine ⟨n, m, h1, h2, ?_, ?_⟩
  · intro g g0 g1
    rw [e 1 (by decide) (by decide), e 2 (by decide) (by decide), o (9 + 20 * g) (by omega) (by omega), o (9 + 20 * g + 1) (by omega) (by omega), o0]
    exact h.2.2.2.2.1 g g0 g1
  · intro g k g0 g1 k0 k1
    rw [e 2 (by decide) (by decide), e 3 (by decide) (by decide), e 4 (by decide) (by decide), e 5 (by decide) (by decide), o (v_X6_at g k 0) (by unfold v_X6_at; omega) (by unfold v_X6_at; omega), o (v_X6_at g k 1) (by unfold v_X6_at; omega) (by unfold v_X6_at; omega), o (v_X6_at g k 2) (by unfold v_X6_at; omega) (by unfold v_X6_at; omega)]
    exact h.2.2.2.2.2 g k g0 g1 k0 k1
/-! a hint is set -/
theorem rel0_hint {A C : hGM} (h : Rel0 A (C 1)) {g k v : Int} (g0 : 0 ≤ g) (g1 : g < 8) (k0 : 0 ≤ k) (k1 : k < A 2 g) (v0 : 0 ≤ v) (v1 : v ≤ 3) : Rel0 (aset A 5 (g * 6 + k) v) ((aset C 1 (v_X6_at g k 2) v) 1) := by
  have mb := rel_many h g0 g1
  have ne : ∀ q : Int, q ≠ v_X6_at g k 2 → aset C 1 (v_X6_at g k 2) v 1 q = C 1 q := fun q z => aset_ne (fun c => z c.2)
  have p := put5_num h.1 (k := g * 6 + k) v0 v1
  rw [put_in (by omega) (by omega)] at p
  refine ⟨p, mNum_hint h.2.1 g0 g1 k0 (by omega) v0 v1, ?_, ?_, ?_, ?_⟩
  · rw [aset_row (by decide), ne 0 (by unfold v_X6_at; omega), ne 1 (by unfold v_X6_at; omega), ne 5 (by unfold v_X6_at; omega), ne 6 (by unfold v_X6_at; omega)]
    exact h.2.2.1
  · intro j j0 j1
    rw [ne 1 (by unfold v_X6_at; omega)] at j1
    have b := h.2.1.2.1
    rw [aset_row (by decide), ne (2 + j) (by unfold v_X6_at; omega)]
    exact h.2.2.2.1 j j0 j1
  · intro x x0 x1
    rw [aset_row (i := 5) (j := 2) (by decide), aset_row (i := 5) (j := 1) (by decide), ne 0 (by unfold v_X6_at; omega), ne (9 + 20 * x) (by unfold v_X6_at; omega), ne (9 + 20 * x + 1) (by unfold v_X6_at; omega)]
    exact h.2.2.2.2.1 x x0 x1
  · intro x j x0 x1 j0 j1
    have w := h.2.2.2.2.2 x j x0 x1 j0 j1
    rw [aset_row (i := 5) (j := 2) (by decide), aset_row (i := 5) (j := 3) (by decide), aset_row (i := 5) (j := 4) (by decide), ne (v_X6_at x j 0) (by unfold v_X6_at; omega), ne (v_X6_at x j 1) (by unfold v_X6_at; omega)]
    refine ⟨fun c => ?_, w.2⟩
    have v := w.1 c
    refine ⟨⟨v.1.1, v.1.2.1, ?_⟩, v.2⟩
    by_cases e : x = g ∧ j = k
    · rw [e.1, e.2, aset_at, aset_at]
    · rw [aset_ne (by omega), ne _ (by unfold v_X6_at; omega)]
      exact v.1.2.2
theorem rel_hint {A C : hGM} (h : Rel A (C 1)) {g k v : Int} (g0 : 0 ≤ g) (g1 : g < 8) (k0 : 0 ≤ k) (k1 : k < A 2 g) (v0 : 0 ≤ v) (v1 : v ≤ 3) : Rel (aset A 5 (g * 6 + k) v) ((aset C 1 (v_X6_at g k 2) v) 1) := by
  have mb := rel_many h.1 g0 g1
  have ne : ∀ q : Int, q ≠ v_X6_at g k 2 → aset C 1 (v_X6_at g k 2) v 1 q = C 1 q := fun q z => aset_ne (fun c => z c.2)
  refine ⟨rel0_hint h.1 g0 g1 k0 k1 v0 v1, ?_, ?_⟩
  · rw [aset_row (by decide), ne 8 (by unfold v_X6_at; omega)]; exact h.2.1
  · exact relS_low h.2.2 (fun i hi => aset_row (by omega)) (by rw [aset_row (by decide)]; exact Int.le_refl _) (ne 7 (by unfold v_X6_at; omega)) (fun q hq => ne q (by unfold v_X6_at; omega))
/-! a glyph comes -/
theorem rel_glyph {A C : hGM} (h : Rel A (C 1)) {a : Int} (a0 : 100 ≤ a) (a1 : a ≤ 1500) (n8 : A 0 0 < 8) : Rel (aset (aset A 1 (A 0 0) a) 0 0 (A 0 0 + 1)) ((aset (aset (aset C 1 (9 + 20 * C 1 0 + 0) a) 1 (9 + 20 * C 1 0 + 1) 0) 1 0 (C 1 0 + 1)) 1) := by
  have n := rel_g h.1
  have hm := h.1.2.1
  rw [← n.1]
  have c1 : (aset (aset (aset C 1 (9 + 20 * A 0 0 + 0) a) 1 (9 + 20 * A 0 0 + 1) 0) 1 0 (A 0 0 + 1)) 1 0 = A 0 0 + 1 := aset_at _ _ _ _
  have c2 : (aset (aset (aset C 1 (9 + 20 * A 0 0 + 0) a) 1 (9 + 20 * A 0 0 + 1) 0) 1 0 (A 0 0 + 1)) 1 (9 + 20 * A 0 0 + 1) = 0 := by rw [aset_ne (by omega), aset_at]
  have c3 : (aset (aset (aset C 1 (9 + 20 * A 0 0 + 0) a) 1 (9 + 20 * A 0 0 + 1) 0) 1 0 (A 0 0 + 1)) 1 (9 + 20 * A 0 0) = a := by rw [aset_ne (by omega), aset_ne (by omega), Int.add_zero, aset_at]
  have ne : ∀ q : Int, q ≠ 0 → q ≠ 9 + 20 * A 0 0 + 1 → q ≠ 9 + 20 * A 0 0 → (aset (aset (aset C 1 (9 + 20 * A 0 0 + 0) a) 1 (9 + 20 * A 0 0 + 1) 0) 1 0 (A 0 0 + 1)) 1 q = C 1 q := fun q x y z => by rw [aset_ne (by omega), aset_ne (by omega), aset_ne (by omega)]
  generalize (aset (aset (aset C 1 (9 + 20 * A 0 0 + 0) a) 1 (9 + 20 * A 0 0 + 1) 0) 1 0 (A 0 0 + 1)) 1 = r at c1 c2 c3 ne ⊢
  have d0 : aset (aset A 1 (A 0 0) a) 0 0 (A 0 0 + 1) 0 0 = A 0 0 + 1 := aset_at _ _ _ _
  have dk : ∀ k : Int, k ≠ 0 → aset (aset A 1 (A 0 0) a) 0 0 (A 0 0 + 1) 0 k = A 0 k := fun k z => by rw [aset_ne (by omega), aset_row (by decide)]
  have dn : aset (aset A 1 (A 0 0) a) 0 0 (A 0 0 + 1) 1 (A 0 0) = a := by rw [aset_row (by decide), aset_at]
  have d1 : ∀ g : Int, g ≠ A 0 0 → aset (aset A 1 (A 0 0) a) 0 0 (A 0 0 + 1) 1 g = A 1 g := fun g z => by rw [aset_row (by decide), aset_ne (by omega)]
  have di : ∀ i : Nat, 2 ≤ i → aset (aset A 1 (A 0 0) a) 0 0 (A 0 0 + 1) i = A i := fun i z => by rw [aset_row (by omega), aset_row (by omega)]
  generalize aset (aset A 1 (A 0 0) a) 0 0 (A 0 0 + 1) = B at d0 dk dn d1 di ⊢
  obtain ⟨n0, n1, n2, n3, n4, n5, n6⟩ := h.1.1
  refine ⟨⟨⟨by omega, by rw [dk 1 (by decide)]; exact n1, by rw [dk 2 (by decide)]; exact n2, by rw [dk 3 (by decide)]; exact n3, by rw [di 6 (by decide)]; exact n4, by rw [di 3 (by decide), di 4 (by decide), di 5 (by decide)]; exact n5, fun g g0 g1 => ?_⟩, ?_, ?_, ?_, ?_, ?_⟩, ?_, ?_⟩
  · rw [di 2 (by decide)]
    refine ⟨?_, (n6 g g0 g1).2⟩
    by_cases e : g = A 0 0
    · rw [e, dn]; omega
    · rw [d1 g e]; exact (n6 g g0 g1).1
  · refine mNum_of hm (by omega) (fun q hq => ne q (by omega) (by omega) (by omega)) (fun g g0 g1 => ?_)
    have w := hm.2.2.2.2.2.2.2.1 g g0 g1
    refine ⟨?_, ?_, fun k k0 k1 => ?_⟩
    · by_cases e : g = A 0 0
      · rw [e, c3]; omega
      · rw [ne _ (by omega) (by omega) (by omega)]; exact w.1
    · by_cases e : g = A 0 0
      · rw [e, c2]; omega
      · rw [ne _ (by omega) (by omega) (by omega)]; exact w.2.1
    · rw [ne _ (by omega) (by omega) (by omega), ne _ (by omega) (by omega) (by omega), ne _ (by omega) (by omega) (by omega)]; exact w.2.2 k k0 k1
  · rw [d0, c1, dk 1 (by decide), dk 2 (by decide), dk 3 (by decide), ne 1 (by omega) (by omega) (by omega), ne 5 (by omega) (by omega) (by omega), ne 6 (by omega) (by omega) (by omega)]
    exact ⟨rfl, h.1.2.2.1.2⟩
  · intro k k0 k1
    have b := hm.2.1
    rw [ne 1 (by omega) (by omega) (by omega)] at k1
    rw [di 6 (by decide), ne _ (by omega) (by omega) (by omega)]
    exact h.1.2.2.2.1 k k0 k1
  · intro g g0 g1
    have w := h.1.2.2.2.2.1 g g0 g1
    rw [di 2 (by decide), c1]
    by_cases e : g = A 0 0
    · rw [e, dn, c2, c3]
      rw [e] at w
      exact ⟨w.2.2 (by omega), fun _ => rfl, fun z => by omega⟩
    · rw [d1 g e, ne (9 + 20 * g + 1) (by omega) (by omega) (by omega), ne (9 + 20 * g) (by omega) (by omega) (by omega)]
      exact ⟨w.1, fun z => w.2.1 (by omega), fun z => w.2.2 (by omega)⟩
  · intro g k g0 g1 k0 k1
    rw [di 2 (by decide), di 3 (by decide), di 4 (by decide), di 5 (by decide), ne (v_X6_at g k 0) (by unfold v_X6_at; omega) (by unfold v_X6_at; omega) (by unfold v_X6_at; omega), ne (v_X6_at g k 1) (by unfold v_X6_at; omega) (by unfold v_X6_at; omega) (by unfold v_X6_at; omega), ne (v_X6_at g k 2) (by unfold v_X6_at; omega) (by unfold v_X6_at; omega) (by unfold v_X6_at; omega)]
    exact h.1.2.2.2.2.2 g k g0 g1 k0 k1
  · rw [di 7 (by decide), ne 8 (by omega) (by omega) (by omega)]; exact h.2.1
  · exact relS_low h.2.2 (fun i hi => di i (by omega)) (by omega) (ne 7 (by omega) (by omega) (by omega)) (fun q hq => ne q (by omega) (by omega) (by omega))
/-! a setting is set -/
theorem rel_set0 {A C : hGM} (h : Rel A (C 1)) {v : Int} (v0 : 0 ≤ v) (v1 : v ≤ 100) : Rel (aset A 0 2 v) ((aset C 1 (5 + 0) v) 1) := by
  have e5 : (aset C 1 (5 + 0) v) 1 5 = v := aset_at _ _ _ _
  have ne : ∀ q : Int, q ≠ 5 → (aset C 1 (5 + 0) v) 1 q = C 1 q := fun q z => aset_ne (fun c => z c.2)
  generalize (aset C 1 (5 + 0) v) 1 = r at e5 ne ⊢
  have hm := h.1.2.1
  obtain ⟨n0, n1, n2, n3, n4, n5, n6⟩ := h.1.1
  have d2 : aset A 0 2 v 0 2 = v := aset_at _ _ _ _
  have dk : ∀ k : Int, k ≠ 2 → aset A 0 2 v 0 k = A 0 k := fun k z => aset_ne (fun c => z c.2)
  have di : ∀ i : Nat, 1 ≤ i → aset A 0 2 v i = A i := fun i z => aset_row (by omega)
  generalize aset A 0 2 v = B at d2 dk di ⊢
  refine ⟨relF_lo h.1 ⟨by rw [dk 0 (by decide)]; exact n0, by rw [dk 1 (by decide)]; exact n1, by omega, by rw [dk 3 (by decide)]; exact n3, by rw [di 6 (by decide)]; exact n4, by rw [di 3 (by decide), di 4 (by decide), di 5 (by decide)]; exact n5, by rw [di 1 (by decide), di 2 (by decide)]; exact n6⟩ (mNum_lo hm (fun q hq => ne q (by omega)) (by rw [ne 1 (by decide)]; exact hm.2.1) (fun k a b => by rw [ne (2 + k) (by omega)]; exact hm.2.2.1 k a b) (by omega) (by rw [ne 6 (by decide)]; exact hm.2.2.2.2.1)) (fun i a b => di i a) (fun q a b => ne q (by omega)) (ne 0 (by decide)) ?_ ?_, ?_, ?_⟩
  · have q := h.1.2.2.1
    rw [dk 0 (by decide), dk 1 (by decide), dk 3 (by decide), d2, ne 0 (by decide), ne 1 (by decide), ne 6 (by decide), e5]
    exact ⟨q.1, q.2.1, rfl, q.2.2.2⟩
  · intro k k0 k1
    have b := hm.2.1
    rw [ne 1 (by decide)] at k1
    rw [di 6 (by decide), ne (2 + k) (by omega)]
    exact h.1.2.2.2.1 k k0 k1
  · rw [di 7 (by decide), ne 8 (by decide)]; exact h.2.1
  · exact relS_low h.2.2 (fun i hi => di i (by omega)) (by rw [dk 0 (by decide)]; exact Int.le_refl _) (ne 7 (by decide)) (fun q hq => ne q (by omega))
theorem rel_set1 {A C : hGM} (h : Rel A (C 1)) {v : Int} (v0 : 0 ≤ v) (v1 : v ≤ 3) : Rel (aset A 0 3 v) ((aset C 1 (5 + 1) v) 1) := by
  have e5 : (aset C 1 (5 + 1) v) 1 6 = v := aset_at _ _ _ _
  have ne : ∀ q : Int, q ≠ 6 → (aset C 1 (5 + 1) v) 1 q = C 1 q := fun q z => aset_ne (fun c => z c.2)
  generalize (aset C 1 (5 + 1) v) 1 = r at e5 ne ⊢
  have hm := h.1.2.1
  obtain ⟨n0, n1, n2, n3, n4, n5, n6⟩ := h.1.1
  have d2 : aset A 0 3 v 0 3 = v := aset_at _ _ _ _
  have dk : ∀ k : Int, k ≠ 3 → aset A 0 3 v 0 k = A 0 k := fun k z => aset_ne (fun c => z c.2)
  have di : ∀ i : Nat, 1 ≤ i → aset A 0 3 v i = A i := fun i z => aset_row (by omega)
  generalize aset A 0 3 v = B at d2 dk di ⊢
  refine ⟨relF_lo h.1 ⟨by rw [dk 0 (by decide)]; exact n0, by rw [dk 1 (by decide)]; exact n1, by rw [dk 2 (by decide)]; exact n2, by omega, by rw [di 6 (by decide)]; exact n4, by rw [di 3 (by decide), di 4 (by decide), di 5 (by decide)]; exact n5, by rw [di 1 (by decide), di 2 (by decide)]; exact n6⟩ (mNum_lo hm (fun q hq => ne q (by omega)) (by rw [ne 1 (by decide)]; exact hm.2.1) (fun k a b => by rw [ne (2 + k) (by omega)]; exact hm.2.2.1 k a b) (by rw [ne 5 (by decide)]; exact hm.2.2.2.1) (by omega)) (fun i a b => di i a) (fun q a b => ne q (by omega)) (ne 0 (by decide)) ?_ ?_, ?_, ?_⟩
  · have q := h.1.2.2.1
    rw [dk 0 (by decide), dk 1 (by decide), dk 2 (by decide), d2, ne 0 (by decide), ne 1 (by decide), ne 5 (by decide), e5]
    exact ⟨q.1, q.2.1, q.2.2.1, rfl⟩
  · intro k k0 k1
    have b := hm.2.1
    rw [ne 1 (by decide)] at k1
    rw [di 6 (by decide), ne (2 + k) (by omega)]
    exact h.1.2.2.2.1 k k0 k1
  · rw [di 7 (by decide), ne 8 (by decide)]; exact h.2.1
  · exact relS_low h.2.2 (fun i hi => di i (by omega)) (by rw [dk 0 (by decide)]; exact Int.le_refl _) (ne 7 (by decide)) (fun q hq => ne q (by omega))
/-! standard widths come and go -/
theorem pos_rel {A P : hGM} (h : Rel0 A (P 1)) (w : Int) (n : Nat) (hn : (n : Int) ≤ P 1 1) : stPos A w n = swPos P w n := by
  induction n with
  | zero => rfl
  | succ n ih =>
    have q := h.2.2.2.1 n (by omega) (by omega)
    have e1 : stPos A w (n + 1) = if A 6 n ≤ w then (n : Int) + 1 else stPos A w n := rfl
    have e2 : swPos P w (n + 1) = if P 1 (2 + n) ≤ w then (n : Int) + 1 else swPos P w n := rfl
    rw [e1, e2, ih (by omega), q.1]
theorem wideAt_rel {A P : hGM} (h : Rel0 A (P 1)) (w : Int) : v_X6_wideAt P w = if v_X1_standardAt A w = -1 then -1000004 else v_X1_standardAt A w := by
  have b := h.2.1.2.1
  have e := h.2.2.1.2.1
  have key : firstN (fun k => decide (P 1 (2 + k) = w)) (P 1 1).toNat = firstN (fun k => decide (v_X5_cell A 6 3 k = w)) (A 0 1).toNat := by
    rw [e]
    have c : ∀ k : Int, 0 ≤ k → k < P 1 1 → v_X5_cell A 6 3 k = P 1 (2 + k) := fun k a d => by
      rw [cell_in a (by omega)]
      exact (h.2.2.2.1 k a d).1
    rcases firstN_spec (fun k => decide (P 1 (2 + k) = w)) (P 1 1).toNat with ⟨a, f⟩ | ⟨a, d, f, g⟩
    · rw [a, firstN_none]
      intro j j0 j1
      have := f j j0 j1
      show decide (v_X5_cell A 6 3 j = w) = false
      rw [c j j0 (by omega)]; exact this
    · refine (firstN_eq a d ?_ ?_).symm
      · show decide (v_X5_cell A 6 3 _ = w) = true
        rw [c _ a (by omega)]; exact f
      · intro j j0 j1
        have := g j j0 j1
        show decide (v_X5_cell A 6 3 j = w) = false
        rw [c j j0 (by omega)]; exact this
  unfold v_X6_wideAt v_X1_standardAt
  rw [key]
theorem standardAt_bd {A : hGM} (h : fNum A) (w : Int) : v_X1_standardAt A w = -1 ∨ 0 ≤ v_X1_standardAt A w ∧ v_X1_standardAt A w < A 0 1 := by
  have b := h.2.1
  unfold v_X1_standardAt
  rcases firstN_spec (fun k => decide (v_X5_cell A 6 3 k = w)) (A 0 1).toNat with ⟨a, f⟩ | ⟨a, d, f, g⟩
  · exact Or.inl a
  · exact Or.inr ⟨a, by omega⟩
theorem rel_std {A C : hGM} (h : Rel A (C 1)) {w : Int} (w0 : 1 ≤ w) (w1 : w ≤ 300) (n3 : A 0 1 < 3) : Rel (stIns A w) ((swI C w) 1) := by
  have hm := h.1.2.1
  have q := h.1.2.2.1
  have hp := pos_rel h.1 w (C 1 1).toNat (by have := hm.2.1; omega)
  have b := swPos_bd C w (C 1 1).toNat
  have o : ∀ q : Int, ¬ (1 ≤ q ∧ q ≤ 4) → swI C w 1 q = C 1 q := fun q z => swI_out ⟨hm.2.1.1, by omega⟩ (by omega)
  have er : ∀ i : Nat, i ≠ 0 → i ≠ 6 → stIns A w i = A i := by
    intro i h0 h6
    funext q
    unfold stIns
    rw [aset_row h0, aset_row h6]
    unfold shW
    rw [if_neg (fun z => h6 z.1)]
  have e0 : ∀ k : Int, k ≠ 1 → stIns A w 0 k = A 0 k := by
    intro k hk
    unfold stIns
    rw [aset_ne (by omega), aset_row (by decide)]
    unfold shW
    rw [if_neg (by omega)]
  have e1 : stIns A w 0 1 = A 0 1 + 1 := by unfold stIns; rw [aset_at]
  have s1 : swI C w 1 1 = C 1 1 + 1 := by unfold swI; rw [aset_at]
  refine ⟨relF_lo h.1 (stIns_num h.1.1 n3 (by omega) w1) (swI_num hm (by omega) ⟨by omega, w1⟩) (fun i a c => er i (by omega) (by omega)) (fun q a c => o q (by omega)) (o 0 (by decide)) ?_ ?_, ?_, ?_⟩
  · rw [e1, e0 0 (by decide), e0 2 (by decide), e0 3 (by decide), o 0 (by decide), o 5 (by decide), o 6 (by decide), s1]
    exact ⟨q.1, by omega, q.2.2.1, q.2.2.2⟩
  · intro k k0 k1
    rw [s1] at k1
    unfold stIns swI
    rw [aset_row (by decide), aset_ne (i := 1) (by omega), ← q.2.1]
    rw [← q.2.1] at hp b
    rw [hp]
    generalize swPos C w (A 0 1).toNat = x at b ⊢
    by_cases c : k = x
    · subst c
      rw [aset_at, aset_at]
      exact ⟨rfl, w0⟩
    · rw [aset_ne (by omega), aset_ne (by omega)]
      unfold shW mvU
      by_cases c2 : x < k
      · have v := h.1.2.2.2.1 (k - 1) (by omega) (by omega)
        rw [if_pos (by omega), if_pos (by omega), show 2 + k - 1 = 2 + (k - 1) by omega]
        exact v
      · have v := h.1.2.2.2.1 k (by omega) (by omega)
        rw [if_neg (by omega), if_neg (by omega)]
        exact v
  · rw [er 7 (by decide) (by decide), o 8 (by decide)]; exact h.2.1
  · exact relS_low h.2.2 (fun i hi => er i (by omega) (by omega)) (by rw [e0 0 (by decide)]; exact Int.le_refl _) (o 7 (by decide)) (fun q hq => o q (by omega))
theorem rel_drop {A C : hGM} (h : Rel A (C 1)) {x : Int} (x0 : 0 ≤ x) (x1 : x < A 0 1) : Rel (stDel A x) ((swO C x) 1) := by
  have hm := h.1.2.1
  have q := h.1.2.2.1
  have n1 := hm.2.1
  obtain ⟨f0, f1, f2, f3, f4, f5, f6⟩ := h.1.1
  have o : ∀ q : Int, ¬ (1 ≤ q ∧ q ≤ 4) → swO C x 1 q = C 1 q := by
    intro q z
    unfold swO mvD
    rw [if_neg (by omega), aset_ne (by omega)]
  have s1 : swO C x 1 1 = C 1 1 - 1 := by
    unfold swO mvD
    rw [if_neg (by omega), aset_at]
  have s2 : ∀ k : Int, 0 ≤ k → k < 3 → swO C x 1 (2 + k) = if x ≤ k ∧ k < C 1 1 - 1 then C 1 (2 + (k + 1)) else C 1 (2 + k) := by
    intro k k0 k1
    unfold swO mvD
    by_cases c : x ≤ k ∧ k < C 1 1 - 1
    · rw [if_pos (by omega), if_pos c, aset_ne (by omega), show 2 + k + 1 = 2 + (k + 1) by omega]
    · rw [if_neg (by omega), if_neg c, aset_ne (by omega)]
  have er : ∀ i : Nat, i ≠ 0 → i ≠ 6 → stDel A x i = A i := by
    intro i h0 h6
    funext q
    unfold stDel
    rw [aset_row h6]
    unfold slW
    rw [if_neg (fun z => h6 z.1), aset_row h0]
  have e0 : ∀ k : Int, k ≠ 1 → stDel A x 0 k = A 0 k := by
    intro k hk
    unfold stDel
    rw [aset_row (by decide)]
    unfold slW
    rw [if_neg (by omega), aset_ne (by omega)]
  have e1 : stDel A x 0 1 = A 0 1 - 1 := by
    unfold stDel
    rw [aset_row (by decide)]
    unfold slW
    rw [if_neg (by omega), aset_at]
  have e6 : ∀ k : Int, 0 ≤ k → k < 3 → stDel A x 6 k = if k = A 0 1 - 1 then 0 else if x ≤ k ∧ k < A 0 1 - 1 then A 6 (k + 1) else A 6 k := by
    intro k k0 k1
    unfold stDel
    by_cases c : k = A 0 1 - 1
    · rw [c, aset_at, if_pos rfl]
    · rw [aset_ne (by omega), if_neg c]
      unfold slW
      by_cases c2 : x ≤ k ∧ k < A 0 1 - 1
      · rw [if_pos (by omega), if_pos c2, aset_row (by decide)]
      · rw [if_neg (by omega), if_neg c2, aset_row (by decide)]
  refine ⟨relF_lo h.1 ⟨by rw [e0 0 (by decide)]; exact f0, by omega, by rw [e0 2 (by decide)]; exact f2, by rw [e0 3 (by decide)]; exact f3, ?_, by rw [er 3 (by decide) (by decide), er 4 (by decide) (by decide), er 5 (by decide) (by decide)]; exact f5, by rw [er 1 (by decide) (by decide), er 2 (by decide) (by decide)]; exact f6⟩ (mNum_lo hm (fun q hq => o q (by omega)) (by omega) ?_ (by rw [o 5 (by decide)]; exact hm.2.2.2.1) (by rw [o 6 (by decide)]; exact hm.2.2.2.2.1)) (fun i a c => er i (by omega) (by omega)) (fun q a c => o q (by omega)) (o 0 (by decide)) ?_ ?_, ?_, ?_⟩
  · intro k k0 k1
    rw [e6 k k0 k1]
    split
    · exact ⟨by decide, by decide⟩
    · split
      · exact f4 (k + 1) (by omega) (by omega)
      · exact f4 k k0 k1
  · intro k k0 k1
    rw [s2 k k0 k1]
    split
    · exact hm.2.2.1 (k + 1) (by omega) (by omega)
    · exact hm.2.2.1 k k0 k1
  · rw [e1, e0 0 (by decide), e0 2 (by decide), e0 3 (by decide), o 0 (by decide), o 5 (by decide), o 6 (by decide), s1]
    exact ⟨q.1, by omega, q.2.2.1, q.2.2.2⟩
  · intro k k0 k1
    rw [s1] at k1
    rw [e6 k k0 (by omega), s2 k k0 (by omega), if_neg (by omega)]
    have v := h.1.2.2.2.1 k (by omega) (by omega)
    have v2 := h.1.2.2.2.1 (k + 1) (by omega) (by omega)
    by_cases c : x ≤ k
    · rw [if_pos (by omega), if_pos (by omega)]; exact v2
    · rw [if_neg (by omega), if_neg (by omega)]; exact v
  · rw [er 7 (by decide) (by decide), o 8 (by decide)]; exact h.2.1
  · exact relS_low h.2.2 (fun i hi => er i (by omega) (by omega)) (by rw [e0 0 (by decide)]; exact Int.le_refl _) (o 7 (by decide)) (fun q hq => o q (by omega))

/-! a glyph comes; settings; standard widths come and go -/
theorem rl_glyphIn {A P P' : hGM} (h : RLA A P) {a : Int} (a0 : 100 ≤ a) (a1 : a ≤ 1500) (n8 : A 0 0 < 8) (hP : P' = aset (aset (aset P 2 (A 0 0) a) 3 (A 0 0) 0) 1 0 (A 0 0 + 1)) : RLA (aset (aset A 1 (A 0 0) a) 0 0 (A 0 0 + 1)) P' := by
  have n := rl_g h.1
  have d0 : aset (aset A 1 (A 0 0) a) 0 0 (A 0 0 + 1) 0 0 = A 0 0 + 1 := aset_at _ _ _ _
  have dk : ∀ k : Int, k ≠ 0 → aset (aset A 1 (A 0 0) a) 0 0 (A 0 0 + 1) 0 k = A 0 k := fun k z => by rw [aset_ne (by omega), aset_row (by decide)]
  have dn : aset (aset A 1 (A 0 0) a) 0 0 (A 0 0 + 1) 1 (A 0 0) = a := by rw [aset_row (by decide), aset_at]
  have d1 : ∀ g : Int, g ≠ A 0 0 → aset (aset A 1 (A 0 0) a) 0 0 (A 0 0 + 1) 1 g = A 1 g := fun g z => by rw [aset_row (by decide), aset_ne (by omega)]
  have di : ∀ i : Nat, 2 ≤ i → aset (aset A 1 (A 0 0) a) 0 0 (A 0 0 + 1) i = A i := fun i z => by rw [aset_row (by omega), aset_row (by omega)]
  generalize aset (aset A 1 (A 0 0) a) 0 0 (A 0 0 + 1) = B at d0 dk dn d1 di ⊢
  have c0 : P' 1 0 = A 0 0 + 1 := by rw [hP, aset_at]
  have ck : ∀ k : Int, k ≠ 0 → P' 1 k = P 1 k := fun k z => by rw [hP, aset_ne (by omega), aset_row (by decide), aset_row (by decide)]
  have c2 : ∀ g : Int, P' 2 g = if g = A 0 0 then a else P 2 g := fun g => by
    rw [hP, aset_row (by decide), aset_row (by decide)]
    by_cases e : g = A 0 0
    · rw [if_pos e, e, aset_at]
    · rw [if_neg e, aset_ne (by omega)]
  have c3 : ∀ g : Int, P' 3 g = if g = A 0 0 then 0 else P 3 g := fun g => by
    rw [hP, aset_row (by decide)]
    by_cases e : g = A 0 0
    · rw [if_pos e, e, aset_at]
    · rw [if_neg e, aset_ne (by omega), aset_row (by decide)]
  have ci : ∀ i : Nat, 4 ≤ i → P' i = P i := fun i z => by rw [hP, aset_row (by omega), aset_row (by omega), aset_row (by omega)]
  clear hP
  obtain ⟨n0, n1, n2, n3, n4, n5, n6⟩ := h.1.1
  refine RL_low h ⟨⟨by omega, by rw [dk 1 (by decide)]; exact n1, by rw [dk 2 (by decide)]; exact n2, by rw [dk 3 (by decide)]; exact n3, by rw [di 6 (by decide)]; exact n4, by rw [di 3 (by decide), di 4 (by decide), di 5 (by decide)]; exact n5, fun g g0 g1 => ?_⟩, ?_, ?_, ?_, ?_⟩ (fun i hi => di i (by omega)) (by omega) (ck 3 (by decide)) (fun i hi => ci i (by omega))
  · rw [di 2 (by decide)]
    refine ⟨?_, (n6 g g0 g1).2⟩
    by_cases e : g = A 0 0
    · rw [e, dn]; omega
    · rw [d1 g e]; exact (n6 g g0 g1).1
  · rw [d0, dk 2 (by decide), dk 3 (by decide), c0, ck 1 (by decide), ck 2 (by decide)]
    exact ⟨rfl, h.1.2.1.2⟩
  · rw [dk 1 (by decide), di 6 (by decide), ci 7 (by decide)]; exact h.1.2.2.1
  · intro g g0 g1
    have w := h.1.2.2.2.1 g g0 g1
    rw [d0, di 2 (by decide), c2, c3]
    by_cases e : g = A 0 0
    · rw [if_pos e, if_pos e]
      refine ⟨fun _ => ⟨?_, ?_⟩, fun z => by omega⟩
      · rw [e, dn]
      · exact (w.2 (by omega)).symm
    · rw [if_neg e, if_neg e, d1 g e]
      exact ⟨fun z => w.1 (by omega), fun z => w.2 (by omega)⟩
  · intro g k g0 g1 k0 k1
    rw [di 2 (by decide), di 3 (by decide), di 4 (by decide), di 5 (by decide), ci 4 (by decide), ci 5 (by decide), ci 6 (by decide)]
    exact h.1.2.2.2.2 g k g0 g1 k0 k1
theorem rl_set0 {A P P' : hGM} (h : RLA A P) {v : Int} (v0 : 0 ≤ v) (v1 : v ≤ 100) (hP : P' = aset P 1 1 v) : RLA (aset A 0 2 v) P' := by
  have d2 : aset A 0 2 v 0 2 = v := aset_at _ _ _ _
  have dk : ∀ k : Int, k ≠ 2 → aset A 0 2 v 0 k = A 0 k := fun k z => aset_ne (fun c => z c.2)
  have di : ∀ i : Nat, 1 ≤ i → aset A 0 2 v i = A i := fun i z => aset_row (by omega)
  generalize aset A 0 2 v = B at d2 dk di ⊢
  have c1 : P' 1 1 = v := by rw [hP, aset_at]
  have ck : ∀ k : Int, k ≠ 1 → P' 1 k = P 1 k := fun k z => by rw [hP, aset_ne (by omega)]
  have ci : ∀ i : Nat, 2 ≤ i → P' i = P i := fun i z => by rw [hP, aset_row (by omega)]
  clear hP
  obtain ⟨n0, n1, n2, n3, n4, n5, n6⟩ := h.1.1
  refine RL_low h ⟨⟨by rw [dk 0 (by decide)]; exact n0, by rw [dk 1 (by decide)]; exact n1, by omega, by rw [dk 3 (by decide)]; exact n3, by rw [di 6 (by decide)]; exact n4, by rw [di 3 (by decide), di 4 (by decide), di 5 (by decide)]; exact n5, by rw [di 1 (by decide), di 2 (by decide)]; exact n6⟩, ?_, ?_, ?_, ?_⟩ (fun i hi => di i (by omega)) (by rw [dk 0 (by decide)]; exact Int.le_refl _) (ck 3 (by decide)) (fun i hi => ci i (by omega))
  · rw [dk 0 (by decide), dk 3 (by decide), d2, ck 0 (by decide), ck 2 (by decide), c1]
    exact ⟨h.1.2.1.1, rfl, h.1.2.1.2.2⟩
  · rw [dk 1 (by decide), di 6 (by decide), ci 7 (by decide)]; exact h.1.2.2.1
  · rw [dk 0 (by decide), di 1 (by decide), di 2 (by decide), ci 2 (by decide), ci 3 (by decide)]; exact h.1.2.2.2.1
  · rw [di 2 (by decide), di 3 (by decide), di 4 (by decide), di 5 (by decide), ci 4 (by decide), ci 5 (by decide), ci 6 (by decide)]; exact h.1.2.2.2.2
theorem rl_set1 {A P P' : hGM} (h : RLA A P) {v : Int} (v0 : 0 ≤ v) (v1 : v ≤ 3) (hP : P' = aset P 1 2 v) : RLA (aset A 0 3 v) P' := by
  have d2 : aset A 0 3 v 0 3 = v := aset_at _ _ _ _
  have dk : ∀ k : Int, k ≠ 3 → aset A 0 3 v 0 k = A 0 k := fun k z => aset_ne (fun c => z c.2)
  have di : ∀ i : Nat, 1 ≤ i → aset A 0 3 v i = A i := fun i z => aset_row (by omega)
  generalize aset A 0 3 v = B at d2 dk di ⊢
  have c1 : P' 1 2 = v := by rw [hP, aset_at]
  have ck : ∀ k : Int, k ≠ 2 → P' 1 k = P 1 k := fun k z => by rw [hP, aset_ne (by omega)]
  have ci : ∀ i : Nat, 2 ≤ i → P' i = P i := fun i z => by rw [hP, aset_row (by omega)]
  clear hP
  obtain ⟨n0, n1, n2, n3, n4, n5, n6⟩ := h.1.1
  refine RL_low h ⟨⟨by rw [dk 0 (by decide)]; exact n0, by rw [dk 1 (by decide)]; exact n1, by rw [dk 2 (by decide)]; exact n2, by omega, by rw [di 6 (by decide)]; exact n4, by rw [di 3 (by decide), di 4 (by decide), di 5 (by decide)]; exact n5, by rw [di 1 (by decide), di 2 (by decide)]; exact n6⟩, ?_, ?_, ?_, ?_⟩ (fun i hi => di i (by omega)) (by rw [dk 0 (by decide)]; exact Int.le_refl _) (ck 3 (by decide)) (fun i hi => ci i (by omega))
  · rw [dk 0 (by decide), dk 2 (by decide), d2, ck 0 (by decide), ck 1 (by decide), c1]
    exact ⟨h.1.2.1.1, h.1.2.1.2.1, rfl⟩
  · rw [dk 1 (by decide), di 6 (by decide), ci 7 (by decide)]; exact h.1.2.2.1
  · rw [dk 0 (by decide), di 1 (by decide), di 2 (by decide), ci 2 (by decide), ci 3 (by decide)]; exact h.1.2.2.2.1
  · rw [di 2 (by decide), di 3 (by decide), di 4 (by decide), di 5 (by decide), ci 4 (by decide), ci 5 (by decide), ci 6 (by decide)]; exact h.1.2.2.2.2
/-! standard widths -/
theorem fnL_spec (f : Int → Int) (v : Int) (n : Nat) : (fnL f v n = -1 ∧ ∀ k : Int, 0 ≤ k → k < n → ¬ f k = v) ∨ (0 ≤ fnL f v n ∧ fnL f v n < n ∧ f (fnL f v n) = v) := by
  induction n with
  | zero => exact Or.inl ⟨rfl, fun k a b => by omega⟩
  | succ n ih =>
    unfold fnL
    by_cases c : f n = v
    · rw [if_pos c]
      exact Or.inr ⟨by omega, by omega, c⟩
    · rw [if_neg c]
      rcases ih with ⟨a, b⟩ | ⟨a, b, d⟩
      · refine Or.inl ⟨a, fun k k0 k1 => ?_⟩
        by_cases e : k = n
        · rw [e]; exact c
        · exact b k k0 (by omega)
      · exact Or.inr ⟨a, by omega, d⟩
theorem StR_p1 {d0 d1 d2 n s0 s1 s2 : Int} (h : StR d0 d1 d2 n s0 s1 s2) : StR d1 d0 d2 n s0 s1 s2 := by
  obtain ⟨a0, a1, a2, an, ac, x0, x1, t0, t1, t2, m0, m1, m2⟩ := h
  exact ⟨a1, a0, a2, an, by omega, fun c => by by_cases d : 0 < d0 <;> omega, fun c => by omega, t0, t1, t2, m1, m0, m2⟩
theorem StR_p2 {d0 d1 d2 n s0 s1 s2 : Int} (h : StR d0 d1 d2 n s0 s1 s2) : StR d2 d1 d0 n s0 s1 s2 := by
  obtain ⟨a0, a1, a2, an, ac, x0, x1, t0, t1, t2, m0, m1, m2⟩ := h
  exact ⟨a2, a1, a0, an, by omega, fun c => by by_cases d : 0 < d0 <;> by_cases e : 0 < d1 <;> omega, fun c => by by_cases d : 0 < d0 <;> omega, t0, t1, t2, m2, m1, m0⟩
set_option maxHeartbeats 4000000 in
theorem StR_in {d1 d2 n s0 s1 s2 w u t0 t1 t2 : Int} (h : StR 0 d1 d2 n s0 s1 s2) (w0 : 1 ≤ w) (w1 : w ≤ 300) (e1 : ¬ d1 = w) (e2 : ¬ d2 = w) (hu : 0 ≤ u ∧ u ≤ n) (l0 : 0 < u → s0 ≤ w) (l1 : 1 < u → s1 ≤ w) (g0 : u ≤ 0 → 0 < n → w < s0) (g1 : u ≤ 1 → 1 < n → w < s1)
    (b0 : t0 = if u = 0 then w else s0) (b1 : t1 = if u = 1 then w else if u < 1 then s0 else s1) (b2 : t2 = if u = 2 then w else if u < 2 then s1 else s2) : n ≤ 2 ∧ StR w d1 d2 (n + 1) t0 t1 t2 := by
  have nz : ¬ ((0 < n ∧ s0 = w) ∨ (1 < n ∧ s1 = w) ∨ (2 < n ∧ s2 = w)) := fun q => by
    have := (StR_set h w).mpr q
    omega
  obtain ⟨-, a1, a2, an, ac, x0, x1, h0, h1, h2, m0, m1, m2⟩ := h
  have n2 : n ≤ 2 := by by_cases c1 : 0 < d1 <;> by_cases c2 : 0 < d2 <;> omega
  rw [if_neg (show ¬ (0 : Int) < 0 by decide)] at ac
  refine ⟨n2, ⟨by omega, w1⟩, a1, a2, ⟨by omega, by omega⟩, by rw [if_pos (show 0 < w by omega)]; omega, fun _ => ⟨fun z => e1 z.symm, fun z => e2 z.symm⟩, x1, ?_⟩
  clear ac
  have ws : ∀ d : Int, ¬ d = w → (0 < d → (0 < n ∧ d = s0) ∨ (1 < n ∧ d = s1) ∨ (2 < n ∧ d = s2)) → 0 < d → (0 < n + 1 ∧ d = t0) ∨ (1 < n + 1 ∧ d = t1) ∨ (2 < n + 1 ∧ d = t2) := by
    intro d dw hd hp
    have q := hd hp
    clear hd m0 m1 m2 x0 x1
    rcases (show u = 0 ∨ u = 1 ∨ u = 2 by omega) with rfl | rfl | rfl <;> simp at b0 b1 b2 <;> omega
  have hw : (0 < n + 1 ∧ w = t0) ∨ (1 < n + 1 ∧ w = t1) ∨ (2 < n + 1 ∧ w = t2) := by
    rcases (show u = 0 ∨ u = 1 ∨ u = 2 by omega) with rfl | rfl | rfl
    · exact Or.inl ⟨by omega, by rw [b0, if_pos rfl]⟩
    · exact Or.inr (Or.inl ⟨by omega, by rw [b1, if_pos rfl]⟩)
    · exact Or.inr (Or.inr ⟨by omega, by rw [b2, if_pos rfl]⟩)
  refine ⟨?_, ?_, ?_, fun _ => hw, ws d1 e1 m1, ws d2 e2 m2⟩
  · intro c
    clear ws hw m0 m1 m2 x0 x1
    rcases (show u = 0 ∨ u = 1 ∨ u = 2 by omega) with rfl | rfl | rfl <;> simp at b0 b1 b2 <;> omega
  · intro c
    clear ws hw m0 m1 m2 x0 x1
    rcases (show u = 0 ∨ u = 1 ∨ u = 2 by omega) with rfl | rfl | rfl <;> simp at b0 b1 b2 <;> omega
  · intro c
    clear ws hw m0 m1 m2 x0 x1
    rcases (show u = 0 ∨ u = 1 ∨ u = 2 by omega) with rfl | rfl | rfl <;> simp at b0 b1 b2 <;> omega
set_option maxHeartbeats 4000000 in
theorem StR_out {d0 d1 d2 n s0 s1 s2 x t0 t1 t2 : Int} (h : StR d0 d1 d2 n s0 s1 s2) (p0 : 0 < d0) (hx : 0 ≤ x ∧ x < n) (ex : (x = 0 ∧ d0 = s0) ∨ (x = 1 ∧ d0 = s1) ∨ (x = 2 ∧ d0 = s2))
    (b0 : 0 < n - 1 → t0 = if x ≤ 0 then s1 else s0) (b1 : 1 < n - 1 → t1 = if x ≤ 1 then s2 else s1) : StR 0 d1 d2 (n - 1) t0 t1 t2 := by
  obtain ⟨a0, a1, a2, an, ac, x0, x1, h0, h1, h2, m0, m1, m2⟩ := h
  rw [if_pos p0] at ac
  have y0 := x0 p0
  have ws : ∀ d : Int, ¬ d = d0 → (0 < d → (0 < n ∧ d = s0) ∨ (1 < n ∧ d = s1) ∨ (2 < n ∧ d = s2)) → 0 < d → (0 < n - 1 ∧ d = t0) ∨ (1 < n - 1 ∧ d = t1) ∨ (2 < n - 1 ∧ d = t2) := by
    intro d dw hd hp
    have q := hd hp
    clear hd m0 m1 m2 x0 x1 ac
    rcases (show x = 0 ∨ x = 1 ∨ x = 2 by omega) with rfl | rfl | rfl <;> simp at b0 b1 <;> omega
  refine ⟨⟨by decide, by decide⟩, a1, a2, ⟨by omega, by omega⟩, by rw [if_neg (show ¬ (0 : Int) < 0 by decide)]; omega, fun z => absurd z (by decide), x1, ?_, ?_, ?_, fun z => absurd z (by decide), ws d1 (fun z => y0.1 z.symm) m1, ws d2 (fun z => y0.2 z.symm) m2⟩
  all_goals clear ws m0 m1 m2 x0 x1 ac
  all_goals rcases (show x = 0 ∨ x = 1 ∨ x = 2 by omega) with rfl | rfl | rfl <;> simp at b0 b1 <;> omega
theorem stPos_c {A : hGM} {w : Int} (n : Nat) (hn : n ≤ 2) (h1 : 1 < n → A 6 0 < A 6 1) : (0 ≤ stPos A w n ∧ stPos A w n ≤ n) ∧ (0 < stPos A w n → A 6 0 ≤ w) ∧ (1 < stPos A w n → A 6 1 ≤ w) ∧ (stPos A w n ≤ 0 → (0 : Int) < n → w < A 6 0) ∧ (stPos A w n ≤ 1 → (1 : Int) < n → w < A 6 1) := by
  rcases (show n = 0 ∨ n = 1 ∨ n = 2 by omega) with rfl | rfl | rfl
  · exact ⟨⟨by show (0 : Int) ≤ 0; decide, by show (0 : Int) ≤ 0; decide⟩, fun z => absurd z (by show ¬ (0 : Int) < 0; decide), fun z => absurd z (by show ¬ (1 : Int) < 0; decide), fun _ z => absurd z (by decide), fun _ z => absurd z (by decide)⟩
  · have e : stPos A w 1 = if A 6 0 ≤ w then 1 else 0 := rfl
    rw [e]
    by_cases c : A 6 0 ≤ w
    · rw [if_pos c]; omega
    · rw [if_neg c]; omega
  · have e : stPos A w 2 = if A 6 1 ≤ w then 2 else if A 6 0 ≤ w then 1 else 0 := rfl
    rw [e]
    have h1 := h1 (by decide)
    by_cases c : A 6 1 ≤ w
    · rw [if_pos c]; omega
    · rw [if_neg c]
      by_cases c : A 6 0 ≤ w
      · rw [if_pos c]; omega
      · rw [if_neg c]; omega
theorem stIns_6 (A : hGM) (w k : Int) : stIns A w 6 k = if k = stPos A w (A 0 1).toNat then w else if stPos A w (A 0 1).toNat < k ∧ k ≤ A 0 1 then A 6 (k - 1) else A 6 k := by
  unfold stIns
  rw [aset_row (by decide)]
  by_cases c : k = stPos A w (A 0 1).toNat
  · rw [if_pos c, c, aset_at]
  · rw [if_neg c, aset_ne (by omega)]
    unfold shW
    by_cases d : stPos A w (A 0 1).toNat < k ∧ k ≤ A 0 1
    · rw [if_pos d, if_pos ⟨rfl, d⟩]
    · rw [if_neg d, if_neg (fun z => d z.2)]
theorem rl_lo6 {A A' P P' : hGM} (h : RLA A P) (hn : fNum A') (er : ∀ i : Nat, i ≠ 0 → i ≠ 6 → A' i = A i) (e0 : ∀ k : Int, k ≠ 1 → A' 0 k = A 0 k) (ep : ∀ i : Nat, i ≠ 7 → P' i = P i) (hs : StR (P' 7 0) (P' 7 1) (P' 7 2) (A' 0 1) (A' 6 0) (A' 6 1) (A' 6 2)) : RLA A' P' := by
  refine RL_low h ⟨hn, ?_, hs, ?_, ?_⟩ (fun i hi => er i (by omega) (by omega)) (by rw [e0 0 (by decide)]; exact Int.le_refl _) (by rw [ep 1 (by decide)]) (fun i hi => ep i (by omega))
  · rw [e0 0 (by decide), e0 2 (by decide), e0 3 (by decide), ep 1 (by decide)]; exact h.1.2.1
  · rw [e0 0 (by decide), er 1 (by decide) (by decide), er 2 (by decide) (by decide), ep 2 (by decide), ep 3 (by decide)]; exact h.1.2.2.2.1
  · rw [er 2 (by decide) (by decide), er 3 (by decide) (by decide), er 4 (by decide) (by decide), er 5 (by decide) (by decide), ep 4 (by decide), ep 5 (by decide), ep 6 (by decide)]; exact h.1.2.2.2.2
theorem rl_stdIn {A P P' : hGM} (h : RLA A P) {w f : Int} (w0 : 1 ≤ w) (w1 : w ≤ 300) (hno : ∀ k : Int, 0 ≤ k → k < 3 → ¬ P 7 k = w) (f0 : 0 ≤ f) (f1 : f < 3) (hf : P 7 f = 0) (hP : P' = aset P 7 f w) : A 0 1 < 3 ∧ RLA (stIns A w) P' := by
  have hs := h.1.2.2.1
  obtain ⟨s0, s1, s2, sn⟩ := StR_sd hs
  have n2 : A 0 1 ≤ 2 := by
    obtain ⟨a0, a1, a2, an, ac, -⟩ := hs
    rcases (show f = 0 ∨ f = 1 ∨ f = 2 by omega) with rfl | rfl | rfl <;> by_cases c0 : 0 < P 7 0 <;> by_cases c1 : 0 < P 7 1 <;> by_cases c2 : 0 < P 7 2 <;> omega
  have pc := stPos_c (A := A) (w := w) (A 0 1).toNat (by omega) (fun z => s1 (by omega))
  have i0 := stIns_6 A w 0
  have i1 := stIns_6 A w 1
  have i2 := stIns_6 A w 2
  have er : ∀ i : Nat, i ≠ 0 → i ≠ 6 → stIns A w i = A i := by
    intro i h0 h6
    funext q
    unfold stIns
    rw [aset_row h0, aset_row h6]
    unfold shW
    rw [if_neg (fun z => h6 z.1)]
  have e0 : ∀ k : Int, k ≠ 1 → stIns A w 0 k = A 0 k := by
    intro k hk
    unfold stIns
    rw [aset_ne (by omega), aset_row (by decide)]
    unfold shW
    rw [if_neg (by omega)]
  have e1 : stIns A w 0 1 = A 0 1 + 1 := by unfold stIns; rw [aset_at]
  refine ⟨by omega, rl_lo6 h (stIns_num h.1.1 (by omega) (by omega) w1) er e0 (fun i hi => by rw [hP, aset_row hi]) ?_⟩
  rw [e1]
  generalize stPos A w (A 0 1).toNat = u at pc i0 i1 i2
  obtain ⟨p1, p2, p3, p4, p5⟩ := pc
  have b0 : stIns A w 6 0 = if u = 0 then w else A 6 0 := by
    rw [i0]
    by_cases c : u = 0
    · rw [if_pos c.symm, if_pos c]
    · rw [if_neg (fun z => c z.symm), if_neg c, if_neg (by omega)]
  have b1 : stIns A w 6 1 = if u = 1 then w else if u < 1 then (if 1 ≤ A 0 1 then A 6 0 else A 6 1) else A 6 1 := by
    rw [i1]
    by_cases c : u = 1
    · rw [if_pos c.symm, if_pos c]
    · rw [if_neg (fun z => c z.symm), if_neg c]
      by_cases d : u < 1
      · rw [if_pos d]
        by_cases e : 1 ≤ A 0 1
        · rw [if_pos ⟨d, e⟩, if_pos e]; rfl
        · rw [if_neg (fun z => e z.2), if_neg e]
      · rw [if_neg d, if_neg (fun z => d z.1)]
  have b2 : stIns A w 6 2 = if u = 2 then w else if u < 2 then (if 2 ≤ A 0 1 then A 6 1 else A 6 2) else A 6 2 := by
    rw [i2]
    by_cases c : u = 2
    · rw [if_pos c.symm, if_pos c]
    · rw [if_neg (fun z => c z.symm), if_neg c]
      by_cases d : u < 2
      · rw [if_pos d]
        by_cases e : 2 ≤ A 0 1
        · rw [if_pos ⟨d, e⟩, if_pos e]; rfl
        · rw [if_neg (fun z => e z.2), if_neg e]
      · rw [if_neg d, if_neg (fun z => d z.1)]
  -- numbers behind the last one are of no account
  have key : ∀ d1 d2 : Int, StR 0 d1 d2 (A 0 1) (A 6 0) (A 6 1) (A 6 2) → ¬ d1 = w → ¬ d2 = w → StR w d1 d2 (A 0 1 + 1) (stIns A w 6 0) (stIns A w 6 1) (stIns A w 6 2) := by
    intro d1 d2 hh z1 z2
    have q := (StR_in hh w0 w1 z1 z2 ⟨p1.1, by omega⟩ p2 p3 (fun a b => p4 a (by omega)) (fun a b => p5 a (by omega)) rfl rfl rfl).2
    obtain ⟨a0, a1, a2, an, ac, x0, x1, t0, t1, t2, m0, m1, m2⟩ := q
    rw [b0, b1, b2]
    refine ⟨a0, a1, a2, an, ac, x0, x1, t0, fun c => ?_, fun c => ?_, fun c => ?_, fun c => ?_, fun c => ?_⟩
    · have := t1 c
      rw [if_pos (show 1 ≤ A 0 1 by omega)]; exact this
    · have := t2 c
      rw [if_pos (show 1 ≤ A 0 1 by omega), if_pos (show 2 ≤ A 0 1 by omega)]; exact this
    · have := m0 c
      by_cases c1 : 1 ≤ A 0 1
      · rw [if_pos c1]
        by_cases c2 : 2 ≤ A 0 1
        · rw [if_pos c2]; exact this
        · omega
      · omega
    · have := m1 c
      by_cases c1 : 1 ≤ A 0 1
      · rw [if_pos c1]
        by_cases c2 : 2 ≤ A 0 1
        · rw [if_pos c2]; exact this
        · omega
      · omega
    · have := m2 c
      by_cases c1 : 1 ≤ A 0 1
      · rw [if_pos c1]
        by_cases c2 : 2 ≤ A 0 1
        · rw [if_pos c2]; exact this
        · omega
      · omega
  have n0 := hno 0 (by decide) (by decide)
  have n1 := hno 1 (by decide) (by decide)
  have n2 := hno 2 (by decide) (by decide)
  rcases (show f = 0 ∨ f = 1 ∨ f = 2 by omega) with rfl | rfl | rfl
  · rw [hf] at hs
    rw [hP, aset_at, aset_ne (by omega), aset_ne (by omega)]
    exact key _ _ hs n1 n2
  · rw [hf] at hs
    rw [hP, aset_at, aset_ne (by omega), aset_ne (by omega)]
    exact StR_p1 (key _ _ (StR_p1 hs) n0 n2)
  · rw [hf] at hs
    rw [hP, aset_at, aset_ne (by omega), aset_ne (by omega)]
    exact StR_p2 (key _ _ (StR_p2 hs) n1 n0)
theorem rl_stdOut {A P P' : hGM} (h : RLA A P) {x f : Int} (x0 : 0 ≤ x) (x1 : x < A 0 1) (f0 : 0 ≤ f) (f1 : f < 3) (hf : 0 < P 7 f) (hx : P 7 f = A 6 x) (hP : P' = aset P 7 f 0) : RLA (stDel A x) P' := by
  have hs := h.1.2.2.1
  obtain ⟨g0, g1, g2, g3, g4, g5, g6⟩ := h.1.1
  have er : ∀ i : Nat, i ≠ 0 → i ≠ 6 → stDel A x i = A i := by
    intro i h0 h6
    funext q
    unfold stDel
    rw [aset_row h6]
    unfold slW
    rw [if_neg (fun z => h6 z.1), aset_row h0]
  have e0 : ∀ k : Int, k ≠ 1 → stDel A x 0 k = A 0 k := by
    intro k hk
    unfold stDel
    rw [aset_row (by decide)]
    unfold slW
    rw [if_neg (by omega), aset_ne (by omega)]
  have e1 : stDel A x 0 1 = A 0 1 - 1 := by
    unfold stDel
    rw [aset_row (by decide)]
    unfold slW
    rw [if_neg (by omega), aset_at]
  have e6 : ∀ k : Int, 0 ≤ k → k < 3 → stDel A x 6 k = if k = A 0 1 - 1 then 0 else if x ≤ k ∧ k < A 0 1 - 1 then A 6 (k + 1) else A 6 k := by
    intro k k0 k1
    unfold stDel
    by_cases c : k = A 0 1 - 1
    · rw [c, aset_at, if_pos rfl]
    · rw [aset_ne (by omega), if_neg c]
      unfold slW
      by_cases c2 : x ≤ k ∧ k < A 0 1 - 1
      · rw [if_pos (by omega), if_pos c2, aset_row (by decide)]
      · rw [if_neg (by omega), if_neg c2, aset_row (by decide)]
  have hn : fNum (stDel A x) := by
    refine ⟨by rw [e0 0 (by decide)]; exact g0, by omega, by rw [e0 2 (by decide)]; exact g2, by rw [e0 3 (by decide)]; exact g3, fun k k0 k1 => ?_, by rw [er 3 (by decide) (by decide), er 4 (by decide) (by decide), er 5 (by decide) (by decide)]; exact g5, by rw [er 1 (by decide) (by decide), er 2 (by decide) (by decide)]; exact g6⟩
    rw [e6 k k0 k1]
    by_cases c : k = A 0 1 - 1
    · rw [if_pos c]; omega
    · rw [if_neg c]
      by_cases d : x ≤ k ∧ k < A 0 1 - 1
      · rw [if_pos d]; exact g4 (k + 1) (by omega) (by omega)
      · rw [if_neg d]; exact g4 k k0 k1
  have i0 := e6 0 (by decide) (by decide)
  have i1 := e6 1 (by decide) (by decide)
  have b0 : 0 < A 0 1 - 1 → stDel A x 6 0 = if x ≤ 0 then A 6 1 else A 6 0 := by
    intro c
    rw [i0, if_neg (by omega)]
    by_cases d : x ≤ 0
    · rw [if_pos ⟨d, c⟩, if_pos d]; rfl
    · rw [if_neg (fun z => d z.1), if_neg d]
  have b1 : 1 < A 0 1 - 1 → stDel A x 6 1 = if x ≤ 1 then A 6 2 else A 6 1 := by
    intro c
    rw [i1, if_neg (by omega)]
    by_cases d : x ≤ 1
    · rw [if_pos ⟨d, c⟩, if_pos d]; rfl
    · rw [if_neg (fun z => d z.1), if_neg d]
  refine rl_lo6 h hn er e0 (fun i hi => by rw [hP, aset_row hi]) ?_
  rw [e1]
  have key : ∀ d0 d1 d2 : Int, StR d0 d1 d2 (A 0 1) (A 6 0) (A 6 1) (A 6 2) → 0 < d0 → d0 = A 6 x → StR 0 d1 d2 (A 0 1 - 1) (stDel A x 6 0) (stDel A x 6 1) (stDel A x 6 2) := by
    intro d0 d1 d2 hh z1 z2
    refine StR_out hh z1 ⟨x0, x1⟩ ?_ b0 b1
    rcases (show x = 0 ∨ x = 1 ∨ x = 2 by omega) with rfl | rfl | rfl
    · exact Or.inl ⟨rfl, z2⟩
    · exact Or.inr (Or.inl ⟨rfl, z2⟩)
    · exact Or.inr (Or.inr ⟨rfl, z2⟩)
  rcases (show f = 0 ∨ f = 1 ∨ f = 2 by omega) with rfl | rfl | rfl
  · rw [hP, aset_at, aset_ne (by omega), aset_ne (by omega)]
    exact key _ _ _ hs hf hx
  · rw [hP, aset_at, aset_ne (by omega), aset_ne (by omega)]
    exact StR_p1 (key _ _ _ (StR_p1 hs) hf hx)
  · rw [hP, aset_at, aset_ne (by omega), aset_ne (by omega)]
    exact StR_p2 (key _ _ _ (StR_p2 hs) hf hx)
theorem stdAt_c {A P : hGM} (h : RL0 A P) {w : Int} (w0 : 1 ≤ w) : (v_X1_standardAt A w = -1 ∧ fnL (P 7) w 3 = -1) ∨ ((0 ≤ v_X1_standardAt A w ∧ v_X1_standardAt A w < A 0 1 ∧ A 6 (v_X1_standardAt A w) = w) ∧ (0 ≤ fnL (P 7) w 3 ∧ fnL (P 7) w 3 < 3 ∧ P 7 (fnL (P 7) w 3) = w)) := by
  have si := std_iff h w
  have sn := (std_sorted h).2.2
  unfold v_X1_standardAt
  rcases firstN_spec (fun k => decide (v_X5_cell A 6 3 k = w)) (A 0 1).toNat with ⟨a, f⟩ | ⟨a, b, f, _⟩
  · left
    refine ⟨a, ?_⟩
    rcases fnL_spec (P 7) w 3 with q | ⟨q1, q2, q3⟩
    · exact q.1
    · exfalso
      obtain ⟨k, k0, k1, kv⟩ := si.mp ⟨by omega, _, q1, q2, q3⟩
      have := of_decide_eq_false (f k k0 k1)
      rw [cell_in k0 (by omega)] at this
      exact this kv
  · right
    have f := of_decide_eq_true f
    rw [cell_in a (by omega)] at f
    refine ⟨⟨a, by omega, f⟩, ?_⟩
    rcases fnL_spec (P 7) w 3 with q | q
    · exfalso
      obtain ⟨_, k, k0, k1, kv⟩ := si.mpr ⟨_, a, b, f⟩
      exact q.2 k k0 k1 kv
    · exact q
/-- whether there are three -/
theorem std_full {A P : hGM} (h : RL0 A P) : fnL (P 7) 0 3 = -1 ↔ A 0 1 = 3 := by
  obtain ⟨a0, a1, a2, an, ac, -⟩ := h.2.2.1
  have e : fnL (P 7) 0 3 = if P 7 2 = 0 then 2 else if P 7 1 = 0 then 1 else if P 7 0 = 0 then 0 else -1 := rfl
  rw [e]
  by_cases c2 : P 7 2 = 0
  · rw [if_pos c2]
    rw [if_neg (show ¬ 0 < P 7 2 by omega)] at ac
    by_cases c0 : 0 < P 7 0 <;> by_cases c1 : 0 < P 7 1 <;> omega
  · rw [if_neg c2]
    by_cases c1 : P 7 1 = 0
    · rw [if_pos c1]
      rw [if_neg (show ¬ 0 < P 7 1 by omega)] at ac
      by_cases c0 : 0 < P 7 0 <;> by_cases d2 : 0 < P 7 2 <;> omega
    · rw [if_neg c1]
      by_cases c0 : P 7 0 = 0
      · rw [if_pos c0]
        rw [if_neg (show ¬ 0 < P 7 0 by omega)] at ac
        by_cases d1 : 0 < P 7 1 <;> by_cases d2 : 0 < P 7 2 <;> omega
      · rw [if_neg c0]
        rw [if_pos (show 0 < P 7 0 by omega), if_pos (show 0 < P 7 1 by omega), if_pos (show 0 < P 7 2 by omega)] at ac
        omega

/-! a stem comes, a stem goes -/
theorem glyph_iff {A P : hGM} (h : Rel0 A (P 1)) (g : Int) : v_X1_hasGlyph A g = 0 ↔ v_X6_isGlyph P g = 0 := by
  have n := rel_g h
  unfold v_X1_hasGlyph
  rw [within_0, isGlyph_0, n.1]
  omega
theorem stem_iff {A P : hGM} (h : Rel0 A (P 1)) (g k : Int) : v_X1_hasStem A g k = 0 ↔ v_X6_isStem P g k = 0 := by
  have n := rel_g h
  rw [isStem_0]
  constructor
  · intro q
    have := hasStem_n h.1 q
    rw [← n.1]
    rintro ⟨⟨a, b⟩, c, d⟩
    rw [rel_of h a (by omega)] at d
    exact this ⟨⟨a, b⟩, c, d⟩
  · intro q
    by_cases c : v_X1_hasStem A g k = 0
    · exact c
    · have y := hasStem_y h.1 c
      exfalso
      apply q
      rw [← n.1, rel_of h y.1.1 (by omega)]
      exact y
theorem within_in (x a b : Int) : v_X5_within x a b = v_X6_in x a b := rfl
theorem stem_sorted {A : hGM} {r : Int → Int} (h : Rel0 A r) {g : Int} (g0 : 0 ≤ g) (g1 : g < 8) {j : Int} (j0 : 0 ≤ j) (d : Nat) : j + 1 + d < A 2 g → A 3 (g * 6 + j) + A 4 (g * 6 + j) ≤ A 3 (g * 6 + (j + 1 + d)) := by
  induction d with
  | zero =>
    intro c
    have q := (rel_stem h g0 g1 j0 (by omega)).2.2.2.2 (by omega)
    rw [show j + 1 + ((0 : Nat) : Int) = j + 1 by omega]
    exact q
  | succ d ih =>
    intro c
    have i := ih (by omega)
    have q := rel_stem h g0 g1 (k := j + 1 + (d : Int)) (by omega) (by omega)
    have q2 := q.2.2.2.2 (by omega)
    rw [show j + 1 + ((d + 1 : Nat) : Int) = j + 1 + (d : Int) + 1 by omega]
    omega
theorem stem_lt {A : hGM} {r : Int → Int} (h : Rel0 A r) {g : Int} (g0 : 0 ≤ g) (g1 : g < 8) {j k : Int} (j0 : 0 ≤ j) (jk : j < k) (k1 : k < A 2 g) : A 3 (g * 6 + j) + A 4 (g * 6 + j) ≤ A 3 (g * 6 + k) := by
  have q := stem_sorted h g0 g1 j0 (k - j - 1).toNat (by omega)
  rw [show j + 1 + (((k - j - 1).toNat : Nat) : Int) = k by omega] at q
  exact q
theorem ahead_at {A P : hGM} (h : Rel0 A (P 1)) {g : Int} (g0 : 0 ≤ g) (g1 : g < 8) (p : Int) : (0 ≤ v_X6_ahead P g p ∧ v_X6_ahead P g p ≤ A 2 g) ∧ (∀ k : Int, 0 ≤ k → k < v_X6_ahead P g p → A 3 (g * 6 + k) < p) ∧ (v_X6_ahead P g p < A 2 g → p ≤ A 3 (g * 6 + v_X6_ahead P g p)) := by
  have e := rel_of h g0 g1
  have m := rel_many h g0 g1
  have b := ahead_bd (P := P) (g := g) (p := p) (by omega)
  rw [e] at b
  refine ⟨b, ?_⟩
  unfold v_X6_ahead at b ⊢
  rw [e] at b ⊢
  rcases firstN_spec (fun k => decide (¬ v_X6_ofStem P g k 0 < p)) (A 2 g).toNat with ⟨a, f⟩ | ⟨a, d, f, f2⟩
  · rw [if_pos a]
    refine ⟨fun k k0 k1 => ?_, fun c => by omega⟩
    have q := of_decide_eq_false (f k k0 (by omega))
    rw [(ofStem_rel h g0 g1 k0 k1).1] at q
    omega
  · generalize firstN _ (A 2 g).toNat = x at a d f f2 ⊢
    rw [if_neg (by omega)]
    refine ⟨fun k k0 k1 => ?_, fun c => ?_⟩
    · have q := of_decide_eq_false (f2 k k0 k1)
      rw [(ofStem_rel h g0 g1 k0 (by omega)).1] at q
      omega
    · have q := of_decide_eq_true f
      rw [(ofStem_rel h g0 g1 a c).1] at q
      omega
theorem sumN_1 {f : Int → Int} (n : Nat) (h : ∀ k : Int, 0 ≤ k → k < n → f k = 1) : sumN f n = n := by
  induction n with
  | zero => rfl
  | succ n ih => rw [sumN_s, ih (fun k a b => h k a (by omega)), h n (by omega) (by omega)]; omega
theorem lf_rel {A P : hGM} (h : Rel0 A (P 1)) {g : Int} (g0 : 0 ≤ g) (g1 : g < 8) (p : Int) : lfN A g p (A 2 g).toNat = v_X6_ahead P g p := by
  have m := rel_many h g0 g1
  obtain ⟨b, c, d⟩ := ahead_at h g0 g1 p
  generalize v_X6_ahead P g p = n at b c d
  unfold lfN
  rw [sumN_cut (m := n.toNat) (by omega) (fun k k0 k1 => ?_), sumN_1 _ (fun k k0 k1 => if_pos (c k k0 (by omega)))]
  · omega
  · rw [if_neg]
    have q := d (by omega)
    by_cases e : k = n
    · rw [e]; omega
    · have s := stem_lt h g0 g1 (j := n) (k := k) b.1 (by omega) (by omega)
      have w := rel_stem h g0 g1 (k := n) b.1 (by omega)
      omega
theorem over_rel {A P : hGM} (h : Rel0 A (P 1)) {g : Int} (g0 : 0 ≤ g) (g1 : g < 8) {p w : Int} (w0 : 1 ≤ w) : ovAt A g p w = -1 ↔ ¬ clrM P g p w = false := by
  have m := rel_many h g0 g1
  obtain ⟨b, c, d⟩ := ahead_at h g0 g1 p
  unfold clrM v_X6_endOf
  rw [rel_of h g0 g1]
  generalize v_X6_ahead P g p = n at b c d
  have fs := firstN_spec (fun k => decide (p < A 3 (g * 6 + k) + A 4 (g * 6 + k) ∧ A 3 (g * 6 + k) < p + w)) (A 2 g).toNat
  have eo : ovAt A g p w = firstN (fun k => decide (p < A 3 (g * 6 + k) + A 4 (g * 6 + k) ∧ A 3 (g * 6 + k) < p + w)) (A 2 g).toNat := rfl
  rw [eo, Bool.not_eq_false, Bool.and_eq_true, decide_eq_true_eq, decide_eq_true_eq]
  constructor
  · intro q
    have f : ∀ j : Int, 0 ≤ j → j < A 2 g → ¬ (p < A 3 (g * 6 + j) + A 4 (g * 6 + j) ∧ A 3 (g * 6 + j) < p + w) := by
      rcases fs with ⟨a, f⟩ | ⟨a, _, _, _⟩
      · exact fun j j0 j1 => of_decide_eq_false (f j j0 (by omega))
      · omega
    constructor
    · by_cases z : n = 0
      · exact Or.inl z
      · right
        have o := ofStem_rel h g0 g1 (k := n - 1) (by omega) (by omega)
        have x := f (n - 1) (by omega) (by omega)
        have y := c (n - 1) (by omega) (by omega)
        rw [o.1, o.2.1]
        omega
    · by_cases z : n = A 2 g
      · exact Or.inl z
      · right
        have o := ofStem_rel h g0 g1 (k := n) (by omega) (by omega)
        have s := rel_stem h g0 g1 (k := n) (by omega) (by omega)
        have x := f n (by omega) (by omega)
        have y := d (by omega)
        rw [o.1]
        omega
  · rintro ⟨q1, q2⟩
    rcases fs with ⟨a, f⟩ | ⟨a, f1, f2, f3⟩
    · exact a
    · exfalso
      generalize firstN _ (A 2 g).toNat = j at a f1 f2
      have f2 := of_decide_eq_true f2
      by_cases z : j < n
      · rcases q1 with q1 | q1
        · omega
        · have o := ofStem_rel h g0 g1 (k := n - 1) (by omega) (by omega)
          rw [o.1, o.2.1] at q1
          by_cases e : j = n - 1
          · rw [e] at f2; omega
          · have s := stem_lt h g0 g1 (j := j) (k := n - 1) a (by omega) (by omega)
            have w := rel_stem h g0 g1 (k := n - 1) (by omega) (by omega)
            omega
      · rcases q2 with q2 | q2
        · omega
        · have o := ofStem_rel h g0 g1 (k := n) (by omega) (by omega)
          rw [o.1] at q2
          by_cases e : j = n
          · rw [e] at f2; omega
          · have s := stem_lt h g0 g1 (j := n) (k := j) (by omega) (by omega) (by omega)
            have w := rel_stem h g0 g1 (k := n) (by omega) (by omega)
            omega
theorem rel_stemIn {A C : hGM} (h : Rel A (C 1)) {g n p w : Int} (g0 : 0 ≤ g) (g1 : g < A 0 0) (p0 : 0 ≤ p) (p1 : p ≤ 999) (w0 : 1 ≤ w) (w1 : w ≤ 300) (m6 : A 2 g < 6) (n0 : 0 ≤ n) (n1 : n ≤ A 2 g) (hl : 0 < n → A 3 (g * 6 + (n - 1)) + A 4 (g * 6 + (n - 1)) ≤ p) (hr : n < A 2 g → p + w ≤ A 3 (g * 6 + n)) :
    Rel (aset (put3 (shR A (g * 6 + n) (g * 6 + A 2 g)) (g * 6 + n) p w 0) 2 g (A 2 g + 1)) ((stI C g n p w) 1) := by
  have ng := rel_g h.1
  have hm := h.1.2.1
  have mb := rel_many h.1 g0 (by omega : g < 8)
  have eo : v_X6_of C g 1 = A 2 g := rel_of h.1 g0 (by omega)
  obtain ⟨f0, f1, f2, f3, f4, f5, f6⟩ := h.1.1
  -- the class's side
  have dr : ∀ i : Nat, i ≠ 2 → i ≠ 3 → i ≠ 4 → i ≠ 5 → aset (put3 (shR A (g * 6 + n) (g * 6 + A 2 g)) (g * 6 + n) p w 0) 2 g (A 2 g + 1) i = A i := by
    intro i a b c d
    rw [aset_row a]
    funext q
    unfold put3 shR
    by_cases e : q = g * 6 + n
    · rw [if_pos e, if_neg b, if_neg c, if_neg d, if_neg (by omega)]
    · rw [if_neg e, if_neg (by omega)]
  have d2 : ∀ x : Int, aset (put3 (shR A (g * 6 + n) (g * 6 + A 2 g)) (g * 6 + n) p w 0) 2 g (A 2 g + 1) 2 x = if x = g then A 2 g + 1 else A 2 x := by
    intro x
    by_cases e : x = g
    · rw [e, aset_at, if_pos rfl]
    · rw [aset_ne (by omega), if_neg e]
      unfold put3 shR
      by_cases e2 : x = g * 6 + n
      · rw [if_pos e2, if_neg (by decide), if_neg (by decide), if_neg (by decide), if_neg (by omega)]
      · rw [if_neg e2, if_neg (by omega)]
  have d3 : ∀ (i : Nat) (v : Int), (i = 3 ∧ v = p) ∨ (i = 4 ∧ v = w) ∨ (i = 5 ∧ v = 0) → ∀ q : Int, aset (put3 (shR A (g * 6 + n) (g * 6 + A 2 g)) (g * 6 + n) p w 0) 2 g (A 2 g + 1) i q = if q = g * 6 + n then v else if g * 6 + n < q ∧ q ≤ g * 6 + A 2 g then A i (q - 1) else A i q := by
    intro i v hi q
    rw [aset_row (by omega)]
    unfold put3 shR
    by_cases e : q = g * 6 + n
    · rw [if_pos e, if_pos e]
      rcases hi with ⟨rfl, rfl⟩ | ⟨rfl, rfl⟩ | ⟨rfl, rfl⟩
      · rw [if_pos rfl]
      · rw [if_neg (by decide), if_pos rfl]
      · rw [if_neg (by decide), if_neg (by decide), if_pos rfl]
    · rw [if_neg e, if_neg e]
      by_cases c : g * 6 + n < q ∧ q ≤ g * 6 + A 2 g
      · rw [if_pos (by omega), if_pos c]
      · rw [if_neg (by omega), if_neg c]
  have d33 := d3 3 p (Or.inl ⟨rfl, rfl⟩)
  have d34 := d3 4 w (Or.inr (Or.inl ⟨rfl, rfl⟩))
  have d35 := d3 5 0 (Or.inr (Or.inr ⟨rfl, rfl⟩))
  clear d3
  generalize aset (put3 (shR A (g * 6 + n) (g * 6 + A 2 g)) (g * 6 + n) p w 0) 2 g (A 2 g + 1) = B at dr d2 d33 d34 d35 ⊢
  -- the model's side
  have s1 : stI C g n p w 1 (9 + 20 * g + 1) = A 2 g + 1 := by
    unfold stI
    rw [aset_at, stP_many n0, mvU_many n0, ← mb.1]
  have sn : ∀ x : Int, (x = 0 ∨ x = 1 ∨ x = 2) → stI C g n p w 1 (v_X6_at g n x) = if x = 0 then p else if x = 1 then w else 0 := by
    intro x hx
    unfold stI stP
    rw [aset_ne (by unfold v_X6_at; omega)]
    rcases hx with rfl | rfl | rfl
    · rw [aset_ne (by unfold v_X6_at; omega), aset_ne (by unfold v_X6_at; omega), aset_at, if_pos rfl]
    · rw [aset_ne (by unfold v_X6_at; omega), aset_at, if_neg (by decide), if_pos rfl]
    · rw [aset_at, if_neg (by decide), if_neg (by decide)]
  have sm : ∀ q : Int, q ≠ 9 + 20 * g + 1 → ¬ (v_X6_at g n 0 ≤ q ∧ q < v_X6_at g n 0 + 3) → stI C g n p w 1 q = if v_X6_at g n 0 + 3 ≤ q ∧ q < v_X6_at g (A 2 g) 0 + 3 then C 1 (q - 3) else C 1 q := by
    intro q a b
    unfold stI stP
    rw [aset_ne (by omega), aset_ne (by unfold v_X6_at at *; omega), aset_ne (by unfold v_X6_at at *; omega), aset_ne (by unfold v_X6_at at *; omega)]
    unfold mvU
    rw [eo]
    by_cases c : v_X6_at g n 0 + 3 ≤ q ∧ q < v_X6_at g (A 2 g) 0 + 3
    · rw [if_pos (by omega), if_pos c]
    · rw [if_neg (by omega), if_neg c]
  have so : ∀ q : Int, q < 9 + 20 * g + 1 ∨ 9 + 20 * g + 20 ≤ q → stI C g n p w 1 q = C 1 q := by
    intro q a
    rw [sm q (by omega) (by unfold v_X6_at; omega), if_neg (by unfold v_X6_at; omega)]
  have sk : ∀ k x : Int, 0 ≤ k → k < 6 → (x = 0 ∨ x = 1 ∨ x = 2) → stI C g n p w 1 (v_X6_at g k x) = if k = n then (if x = 0 then p else if x = 1 then w else 0) else if n < k ∧ k ≤ A 2 g then C 1 (v_X6_at g (k - 1) x) else C 1 (v_X6_at g k x) := by
    intro k x k0 k1 hx
    by_cases e : k = n
    · rw [if_pos e, e]; exact sn x hx
    · rw [if_neg e, sm _ (by unfold v_X6_at; omega) (by unfold v_X6_at; omega)]
      by_cases c : n < k ∧ k ≤ A 2 g
      · rw [if_pos (by unfold v_X6_at; omega), if_pos c]
        exact congrArg (C 1) (by unfold v_X6_at; omega)
      · rw [if_neg (by unfold v_X6_at; omega), if_neg c]
  generalize (stI C g n p w) 1 = r at s1 so sk ⊢
  clear sn sm
  have st : ∀ k : Int, 0 ≤ k → k < A 2 g → _ := fun k a b => rel_stem h.1 (g := g) (k := k) g0 (by omega) a b
  refine ⟨⟨⟨by rw [dr 0 (by decide) (by decide) (by decide) (by decide)]; exact f0, by rw [dr 0 (by decide) (by decide) (by decide) (by decide)]; exact f1, by rw [dr 0 (by decide) (by decide) (by decide) (by decide)]; exact f2, by rw [dr 0 (by decide) (by decide) (by decide) (by decide)]; exact f3, by rw [dr 6 (by decide) (by decide) (by decide) (by decide)]; exact f4, fun q q0 q1 => ?_, fun x x0 x1 => ?_⟩, ?_, ?_, ?_, ?_, ?_⟩, ?_, ?_⟩
  · rw [d33, d34, d35]
    have a := f5 q q0 q1
    by_cases e : q = g * 6 + n
    · rw [if_pos e, if_pos e, if_pos e]; omega
    · rw [if_neg e, if_neg e, if_neg e]
      by_cases c : g * 6 + n < q ∧ q ≤ g * 6 + A 2 g
      · rw [if_pos c, if_pos c, if_pos c]; exact f5 (q - 1) (by omega) (by omega)
      · rw [if_neg c, if_neg c, if_neg c]; exact a
  · rw [dr 1 (by decide) (by decide) (by decide) (by decide), d2]
    have a := f6 x x0 x1
    refine ⟨a.1, ?_⟩
    split
    · omega
    · exact a.2
  · refine mNum_of hm (by rw [so 0 (by omega)]; exact hm.1) (fun q hq => so q (by omega)) (fun x x0 x1 => ?_)
    have a := hm.2.2.2.2.2.2.2.1 x x0 x1
    by_cases e : x = g
    · subst e
      refine ⟨by rw [so (9 + 20 * x) (by omega)]; exact a.1, by omega, fun k k0 k1 => ?_⟩
      have b := a.2.2 k k0 k1
      have i0 : 9 + 20 * x + 2 + 3 * k = v_X6_at x k 0 := by unfold v_X6_at; omega
      have i1 : 9 + 20 * x + 2 + 3 * k + 1 = v_X6_at x k 1 := by unfold v_X6_at; omega
      have i2 : 9 + 20 * x + 2 + 3 * k + 2 = v_X6_at x k 2 := by unfold v_X6_at; omega
      rw [i2, i1, i0] at b ⊢
      rw [sk k 0 k0 k1 (Or.inl rfl), sk k 1 k0 k1 (Or.inr (Or.inl rfl)), sk k 2 k0 k1 (Or.inr (Or.inr rfl))]
      by_cases e : k = n
      · rw [if_pos e, if_pos e, if_pos e, if_pos rfl, if_neg (by decide), if_pos rfl, if_neg (by decide), if_neg (by decide)]; omega
      · rw [if_neg e, if_neg e, if_neg e]
        by_cases c : n < k ∧ k ≤ A 2 x
        · rw [if_pos c, if_pos c, if_pos c]
          have b2 := a.2.2 (k - 1) (by omega) (by omega)
          have j0 : 9 + 20 * x + 2 + 3 * (k - 1) = v_X6_at x (k - 1) 0 := by unfold v_X6_at; omega
          have j1 : 9 + 20 * x + 2 + 3 * (k - 1) + 1 = v_X6_at x (k - 1) 1 := by unfold v_X6_at; omega
          have j2 : 9 + 20 * x + 2 + 3 * (k - 1) + 2 = v_X6_at x (k - 1) 2 := by unfold v_X6_at; omega
          rw [j2, j1, j0] at b2
          exact b2
        · rw [if_neg c, if_neg c, if_neg c]; exact b
    · rw [so (9 + 20 * x) (by omega), so (9 + 20 * x + 1) (by omega)]
      refine ⟨a.1, a.2.1, fun k k0 k1 => ?_⟩
      rw [so (9 + 20 * x + 2 + 3 * k) (by omega), so (9 + 20 * x + 2 + 3 * k + 1) (by omega), so (9 + 20 * x + 2 + 3 * k + 2) (by omega)]
      exact a.2.2 k k0 k1
  · rw [dr 0 (by decide) (by decide) (by decide) (by decide), so 0 (by omega), so 1 (by omega), so 5 (by omega), so 6 (by omega)]
    exact h.1.2.2.1
  · intro k k0 k1
    have b := hm.2.1
    rw [so 1 (by omega)] at k1
    rw [dr 6 (by decide) (by decide) (by decide) (by decide), so (2 + k) (by omega)]
    exact h.1.2.2.2.1 k k0 k1
  · intro x x0 x1
    have a := h.1.2.2.2.2.1 x x0 x1
    rw [d2, dr 1 (by decide) (by decide) (by decide) (by decide), so 0 (by omega)]
    by_cases e : x = g
    · subst e
      rw [if_pos rfl, s1, so (9 + 20 * x) (by omega)]
      exact ⟨rfl, a.2.1, fun z => by omega⟩
    · rw [if_neg e, so (9 + 20 * x + 1) (by omega), so (9 + 20 * x) (by omega)]
      exact a
  · have bk : ∀ q : Int, q = g * 6 + n → B 3 q = p ∧ B 4 q = w ∧ B 5 q = 0 := fun q e => by
      rw [d33, d34, d35, if_pos e, if_pos e, if_pos e]; exact ⟨rfl, rfl, rfl⟩
    have bm : ∀ q : Int, g * 6 + n < q → q ≤ g * 6 + A 2 g → B 3 q = A 3 (q - 1) ∧ B 4 q = A 4 (q - 1) ∧ B 5 q = A 5 (q - 1) := fun q e e2 => by
      rw [d33, d34, d35, if_neg (show ¬ q = g * 6 + n by omega), if_neg (show ¬ q = g * 6 + n by omega), if_neg (show ¬ q = g * 6 + n by omega), if_pos ⟨e, e2⟩, if_pos ⟨e, e2⟩, if_pos ⟨e, e2⟩]; exact ⟨rfl, rfl, rfl⟩
    have bo : ∀ q : Int, q < g * 6 + n ∨ g * 6 + A 2 g < q → B 3 q = A 3 q ∧ B 4 q = A 4 q ∧ B 5 q = A 5 q := fun q e => by
      have c1 : ¬ q = g * 6 + n := by omega
      have c2 : ¬ (g * 6 + n < q ∧ q ≤ g * 6 + A 2 g) := by omega
      rw [d33, d34, d35, if_neg c1, if_neg c1, if_neg c1, if_neg c2, if_neg c2, if_neg c2]; exact ⟨rfl, rfl, rfl⟩
    intro x k x0 x1 k0 k1
    have a := h.1.2.2.2.2.2 x k x0 x1 k0 k1
    rw [d2]
    by_cases e : x = g
    · subst e
      have r0 := sk k 0 k0 k1 (Or.inl rfl)
      have r1 := sk k 1 k0 k1 (Or.inr (Or.inl rfl))
      have r2 := sk k 2 k0 k1 (Or.inr (Or.inr rfl))
      rw [if_pos rfl]
      by_cases e : k = n
      · rw [if_pos e, if_pos rfl] at r0
        rw [if_pos e, if_neg (by decide), if_pos rfl] at r1
        rw [if_pos e, if_neg (by decide), if_neg (by decide)] at r2
        have q := bk (x * 6 + k) (by omega)
        rw [r0, r1, r2, q.1, q.2.1, q.2.2]
        refine ⟨fun c => ⟨⟨rfl, rfl, rfl⟩, w0, fun c2 => ?_⟩, fun c => by omega⟩
        rw [(bm (x * 6 + (k + 1)) (by omega) (by omega)).1, show x * 6 + (k + 1) - 1 = x * 6 + n by omega]
        exact hr (by omega)
      · rw [if_neg e] at r0 r1 r2
        by_cases c : n < k ∧ k ≤ A 2 x
        · rw [if_pos c] at r0 r1 r2
          have q := bm (x * 6 + k) (by omega) (by omega)
          rw [r0, r1, r2, q.1, q.2.1, q.2.2, show x * 6 + k - 1 = x * 6 + (k - 1) by omega]
          have v := st (k - 1) (by omega) (by omega)
          refine ⟨fun _ => ⟨v.1, v.2.2.1.1, fun c3 => ?_⟩, fun c3 => by omega⟩
          rw [(bm (x * 6 + (k + 1)) (by omega) (by omega)).1, show x * 6 + (k + 1) - 1 = x * 6 + (k - 1 + 1) by omega]
          exact v.2.2.2.2 (by omega)
        · rw [if_neg c] at r0 r1 r2
          have q := bo (x * 6 + k) (by omega)
          rw [r0, r1, r2, q.1, q.2.1, q.2.2]
          refine ⟨fun c4 => ?_, fun c3 => a.2 (by omega)⟩
          have v := st k k0 (by omega)
          refine ⟨v.1, v.2.2.1.1, fun c3 => ?_⟩
          by_cases e2 : k + 1 = n
          · rw [(bk (x * 6 + (k + 1)) (by omega)).1]
            have := hl (by omega)
            rw [show n - 1 = k by omega] at this
            exact this
          · rw [(bo (x * 6 + (k + 1)) (by omega)).1]
            exact v.2.2.2.2 (by omega)
    · have mx := rel_many h.1 x0 x1
      have q := bo (x * 6 + k) (by omega)
      rw [if_neg e, q.1, q.2.1, q.2.2, so (v_X6_at x k 0) (by unfold v_X6_at; omega), so (v_X6_at x k 1) (by unfold v_X6_at; omega), so (v_X6_at x k 2) (by unfold v_X6_at; omega)]
      refine ⟨fun c => ?_, a.2⟩
      have v := a.1 c
      refine ⟨v.1, v.2.1, fun c2 => ?_⟩
      rw [(bo (x * 6 + (k + 1)) (by omega)).1]
      exact v.2.2 c2
  · rw [dr 7 (by decide) (by decide) (by decide) (by decide), so 8 (by omega)]; exact h.2.1
  · exact relS_low h.2.2 (fun i hi => dr i (by omega) (by omega) (by omega) (by omega)) (by rw [dr 0 (by decide) (by decide) (by decide) (by decide)]; exact Int.le_refl _) (so 7 (by omega)) (fun q hq => so q (by omega))
theorem rel_stemOut {A C : hGM} (h : Rel A (C 1)) {g n : Int} (g0 : 0 ≤ g) (g1 : g < A 0 0) (n0 : 0 ≤ n) (n1 : n < A 2 g) :
    Rel (aset (put3 (shL A (g * 6 + n) (g * 6 + (A 2 g - 1))) (g * 6 + (A 2 g - 1)) 0 0 0) 2 g (A 2 g - 1)) ((stO C g n) 1) := by
  have ng := rel_g h.1
  have hm := h.1.2.1
  have mb := rel_many h.1 g0 (by omega : g < 8)
  have eo : v_X6_of C g 1 = A 2 g := rel_of h.1 g0 (by omega)
  obtain ⟨f0, f1, f2, f3, f4, f5, f6⟩ := h.1.1
  have dr : ∀ i : Nat, i ≠ 2 → i ≠ 3 → i ≠ 4 → i ≠ 5 → aset (put3 (shL A (g * 6 + n) (g * 6 + (A 2 g - 1))) (g * 6 + (A 2 g - 1)) 0 0 0) 2 g (A 2 g - 1) i = A i := by
    intro i a b c d
    rw [aset_row a]
    funext q
    unfold put3 shL
    by_cases e : q = g * 6 + (A 2 g - 1)
    · rw [if_pos e, if_neg b, if_neg c, if_neg d, if_neg (by omega)]
    · rw [if_neg e, if_neg (by omega)]
  have d2 : ∀ x : Int, aset (put3 (shL A (g * 6 + n) (g * 6 + (A 2 g - 1))) (g * 6 + (A 2 g - 1)) 0 0 0) 2 g (A 2 g - 1) 2 x = if x = g then A 2 g - 1 else A 2 x := by
    intro x
    by_cases e : x = g
    · rw [e, aset_at, if_pos rfl]
    · rw [aset_ne (by omega), if_neg e]
      unfold put3 shL
      by_cases e2 : x = g * 6 + (A 2 g - 1)
      · rw [if_pos e2, if_neg (by decide), if_neg (by decide), if_neg (by decide), if_neg (by omega)]
      · rw [if_neg e2, if_neg (by omega)]
  have d3 : ∀ i : Nat, i = 3 ∨ i = 4 ∨ i = 5 → ∀ q : Int, aset (put3 (shL A (g * 6 + n) (g * 6 + (A 2 g - 1))) (g * 6 + (A 2 g - 1)) 0 0 0) 2 g (A 2 g - 1) i q = if q = g * 6 + (A 2 g - 1) then 0 else if g * 6 + n ≤ q ∧ q < g * 6 + (A 2 g - 1) then A i (q + 1) else A i q := by
    intro i hi q
    rw [aset_row (by omega)]
    unfold put3 shL
    by_cases e : q = g * 6 + (A 2 g - 1)
    · rw [if_pos e, if_pos e]
      rcases hi with rfl | rfl | rfl
      · rw [if_pos rfl]
      · rw [if_neg (by decide), if_pos rfl]
      · rw [if_neg (by decide), if_neg (by decide), if_pos rfl]
    · rw [if_neg e, if_neg e]
      by_cases c : g * 6 + n ≤ q ∧ q < g * 6 + (A 2 g - 1)
      · rw [if_pos (by omega), if_pos c]
      · rw [if_neg (by omega), if_neg c]
  have d33 := d3 3 (Or.inl rfl)
  have d34 := d3 4 (Or.inr (Or.inl rfl))
  have d35 := d3 5 (Or.inr (Or.inr rfl))
  clear d3
  generalize aset (put3 (shL A (g * 6 + n) (g * 6 + (A 2 g - 1))) (g * 6 + (A 2 g - 1)) 0 0 0) 2 g (A 2 g - 1) = B at dr d2 d33 d34 d35 ⊢
  have sm : ∀ q : Int, stO C g n 1 q = if v_X6_at g n 0 ≤ q ∧ q < v_X6_at g (A 2 g - 1) 0 then C 1 (q + 3) else if q = 9 + 20 * g + 1 then A 2 g - 1 else C 1 q := by
    intro q
    unfold stO mvD
    rw [eo]
    by_cases c : v_X6_at g n 0 ≤ q ∧ q < v_X6_at g (A 2 g - 1) 0
    · rw [if_pos (by omega), if_pos c, aset_ne (by unfold v_X6_at at c; omega)]
    · rw [if_neg (by omega), if_neg c]
      by_cases e : q = 9 + 20 * g + 1
      · rw [e, aset_at, if_pos rfl, ← mb.1]
      · rw [aset_ne (by omega), if_neg e]
  have s1 : stO C g n 1 (9 + 20 * g + 1) = A 2 g - 1 := by
    rw [sm, if_neg (by unfold v_X6_at; omega), if_pos rfl]
  have so : ∀ q : Int, q < 9 + 20 * g + 1 ∨ 9 + 20 * g + 20 ≤ q → stO C g n 1 q = C 1 q := by
    intro q a
    rw [sm, if_neg (by unfold v_X6_at; omega), if_neg (by omega)]
  have sk : ∀ k x : Int, 0 ≤ k → k < 6 → (x = 0 ∨ x = 1 ∨ x = 2) → stO C g n 1 (v_X6_at g k x) = if n ≤ k ∧ k < A 2 g - 1 then C 1 (v_X6_at g (k + 1) x) else C 1 (v_X6_at g k x) := by
    intro k x k0 k1 hx
    rw [sm]
    by_cases c : n ≤ k ∧ k < A 2 g - 1
    · rw [if_pos (by unfold v_X6_at; omega), if_pos c]
      exact congrArg (C 1) (by unfold v_X6_at; omega)
    · rw [if_neg (by unfold v_X6_at; omega), if_neg c, if_neg (by unfold v_X6_at; omega)]
  generalize (stO C g n) 1 = r at s1 so sk ⊢
  clear sm
  have st : ∀ k : Int, 0 ≤ k → k < A 2 g → _ := fun k a b => rel_stem h.1 (g := g) (k := k) g0 (by omega) a b
  refine ⟨⟨⟨by rw [dr 0 (by decide) (by decide) (by decide) (by decide)]; exact f0, by rw [dr 0 (by decide) (by decide) (by decide) (by decide)]; exact f1, by rw [dr 0 (by decide) (by decide) (by decide) (by decide)]; exact f2, by rw [dr 0 (by decide) (by decide) (by decide) (by decide)]; exact f3, by rw [dr 6 (by decide) (by decide) (by decide) (by decide)]; exact f4, fun q q0 q1 => ?_, fun x x0 x1 => ?_⟩, ?_, ?_, ?_, ?_, ?_⟩, ?_, ?_⟩
  · rw [d33, d34, d35]
    have a := f5 q q0 q1
    by_cases e : q = g * 6 + (A 2 g - 1)
    · rw [if_pos e, if_pos e, if_pos e]; omega
    · rw [if_neg e, if_neg e, if_neg e]
      by_cases c : g * 6 + n ≤ q ∧ q < g * 6 + (A 2 g - 1)
      · rw [if_pos c, if_pos c, if_pos c]; exact f5 (q + 1) (by omega) (by omega)
      · rw [if_neg c, if_neg c, if_neg c]; exact a
  · rw [dr 1 (by decide) (by decide) (by decide) (by decide), d2]
    have a := f6 x x0 x1
    refine ⟨a.1, ?_⟩
    split
    · omega
    · exact a.2
  · refine mNum_of hm (by rw [so 0 (by omega)]; exact hm.1) (fun q hq => so q (by omega)) (fun x x0 x1 => ?_)
    have a := hm.2.2.2.2.2.2.2.1 x x0 x1
    by_cases e : x = g
    · subst e
      refine ⟨by rw [so (9 + 20 * x) (by omega)]; exact a.1, by omega, fun k k0 k1 => ?_⟩
      have b := a.2.2 k k0 k1
      have i0 : 9 + 20 * x + 2 + 3 * k = v_X6_at x k 0 := by unfold v_X6_at; omega
      have i1 : 9 + 20 * x + 2 + 3 * k + 1 = v_X6_at x k 1 := by unfold v_X6_at; omega
      have i2 : 9 + 20 * x + 2 + 3 * k + 2 = v_X6_at x k 2 := by unfold v_X6_at; omega
      rw [i2, i1, i0] at b ⊢
      rw [sk k 0 k0 k1 (Or.inl rfl), sk k 1 k0 k1 (Or.inr (Or.inl rfl)), sk k 2 k0 k1 (Or.inr (Or.inr rfl))]
      by_cases c : n ≤ k ∧ k < A 2 x - 1
      · rw [if_pos c, if_pos c, if_pos c]
        have b2 := a.2.2 (k + 1) (by omega) (by omega)
        have j0 : 9 + 20 * x + 2 + 3 * (k + 1) = v_X6_at x (k + 1) 0 := by unfold v_X6_at; omega
        have j1 : 9 + 20 * x + 2 + 3 * (k + 1) + 1 = v_X6_at x (k + 1) 1 := by unfold v_X6_at; omega
        have j2 : 9 + 20 * x + 2 + 3 * (k + 1) + 2 = v_X6_at x (k + 1) 2 := by unfold v_X6_at; omega
        rw [j2, j1, j0] at b2
        exact b2
      · rw [if_neg c, if_neg c, if_neg c]; exact b
    · rw [so (9 + 20 * x) (by omega), so (9 + 20 * x + 1) (by omega)]
      refine ⟨a.1, a.2.1, fun k k0 k1 => ?_⟩
      rw [so (9 + 20 * x + 2 + 3 * k) (by omega), so (9 + 20 * x + 2 + 3 * k + 1) (by omega), so (9 + 20 * x + 2 + 3 * k + 2) (by omega)]
      exact a.2.2 k k0 k1
  · rw [dr 0 (by decide) (by decide) (by decide) (by decide), so 0 (by omega), so 1 (by omega), so 5 (by omega), so 6 (by omega)]
    exact h.1.2.2.1
  · intro k k0 k1
    have b := hm.2.1
    rw [so 1 (by omega)] at k1
    rw [dr 6 (by decide) (by decide) (by decide) (by decide), so (2 + k) (by omega)]
    exact h.1.2.2.2.1 k k0 k1
  · intro x x0 x1
    have a := h.1.2.2.2.2.1 x x0 x1
    rw [d2, dr 1 (by decide) (by decide) (by decide) (by decide), so 0 (by omega)]
    by_cases e : x = g
    · subst e
      rw [if_pos rfl, s1, so (9 + 20 * x) (by omega)]
      exact ⟨rfl, a.2.1, fun z => by omega⟩
    · rw [if_neg e, so (9 + 20 * x + 1) (by omega), so (9 + 20 * x) (by omega)]
      exact a
  · have bk : ∀ q : Int, q = g * 6 + (A 2 g - 1) → B 4 q = 0 := fun q e => by
      rw [d34, if_pos e]
    have bm : ∀ q : Int, g * 6 + n ≤ q → q < g * 6 + (A 2 g - 1) → B 3 q = A 3 (q + 1) ∧ B 4 q = A 4 (q + 1) ∧ B 5 q = A 5 (q + 1) := fun q e e2 => by
      have c1 : ¬ q = g * 6 + (A 2 g - 1) := by omega
      rw [d33, d34, d35, if_neg c1, if_neg c1, if_neg c1, if_pos ⟨e, e2⟩, if_pos ⟨e, e2⟩, if_pos ⟨e, e2⟩]; exact ⟨rfl, rfl, rfl⟩
    have bo : ∀ q : Int, q < g * 6 + n ∨ g * 6 + (A 2 g - 1) < q → B 3 q = A 3 q ∧ B 4 q = A 4 q ∧ B 5 q = A 5 q := fun q e => by
      have c1 : ¬ q = g * 6 + (A 2 g - 1) := by omega
      have c2 : ¬ (g * 6 + n ≤ q ∧ q < g * 6 + (A 2 g - 1)) := by omega
      rw [d33, d34, d35, if_neg c1, if_neg c1, if_neg c1, if_neg c2, if_neg c2, if_neg c2]; exact ⟨rfl, rfl, rfl⟩
    intro x k x0 x1 k0 k1
    have a := h.1.2.2.2.2.2 x k x0 x1 k0 k1
    rw [d2]
    by_cases e : x = g
    · subst e
      have r0 := sk k 0 k0 k1 (Or.inl rfl)
      have r1 := sk k 1 k0 k1 (Or.inr (Or.inl rfl))
      have r2 := sk k 2 k0 k1 (Or.inr (Or.inr rfl))
      rw [if_pos rfl]
      by_cases e : k = A 2 x - 1
      · exact ⟨fun z => by omega, fun _ => bk _ (by omega)⟩
      · by_cases c : n ≤ k ∧ k < A 2 x - 1
        · rw [if_pos c] at r0 r1 r2
          have q := bm (x * 6 + k) (by omega) (by omega)
          rw [r0, r1, r2, q.1, q.2.1, q.2.2, show x * 6 + k + 1 = x * 6 + (k + 1) by omega]
          have v := st (k + 1) (by omega) (by omega)
          refine ⟨fun _ => ⟨v.1, v.2.2.1.1, fun c3 => ?_⟩, fun c3 => by omega⟩
          rw [(bm (x * 6 + (k + 1)) (by omega) (by omega)).1, show x * 6 + (k + 1) + 1 = x * 6 + (k + 1 + 1) by omega]
          exact v.2.2.2.2 (by omega)
        · rw [if_neg c] at r0 r1 r2
          have q := bo (x * 6 + k) (by omega)
          rw [r0, r1, r2, q.1, q.2.1, q.2.2]
          refine ⟨fun c4 => ?_, fun c3 => a.2 (by omega)⟩
          have v := st k k0 (by omega)
          refine ⟨v.1, v.2.2.1.1, fun c3 => ?_⟩
          by_cases e2 : k + 1 = n
          · rw [(bm (x * 6 + (k + 1)) (by omega) (by omega)).1, show x * 6 + (k + 1) + 1 = x * 6 + (k + 1 + 1) by omega]
            have v1 := v.2.2.2.2 (by omega)
            have v2 := (st (k + 1) (by omega) (by omega)).2.2.2.2 (by omega)
            have v3 := (st (k + 1) (by omega) (by omega)).2.2.1.1
            omega
          · rw [(bo (x * 6 + (k + 1)) (by omega)).1]
            exact v.2.2.2.2 (by omega)
    · have mx := rel_many h.1 x0 x1
      have q := bo (x * 6 + k) (by omega)
      rw [if_neg e, q.1, q.2.1, q.2.2, so (v_X6_at x k 0) (by unfold v_X6_at; omega), so (v_X6_at x k 1) (by unfold v_X6_at; omega), so (v_X6_at x k 2) (by unfold v_X6_at; omega)]
      refine ⟨fun c => ?_, a.2⟩
      have v := a.1 c
      refine ⟨v.1, v.2.1, fun c2 => ?_⟩
      rw [(bo (x * 6 + (k + 1)) (by omega)).1]
      exact v.2.2 c2
  · rw [dr 7 (by decide) (by decide) (by decide) (by decide), so 8 (by omega)]; exact h.2.1
  · exact relS_low h.2.2 (fun i hi => dr i (by omega) (by omega) (by omega) (by omega)) (by rw [dr 0 (by decide) (by decide) (by decide) (by decide)]; exact Int.le_refl _) (so 7 (by omega)) (fun q hq => so q (by omega))

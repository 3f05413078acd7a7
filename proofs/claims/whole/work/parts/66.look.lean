/-! even sizes, clear sizes, the best hint -/
theorem made_idx {A : hGM} {r : Int → Int} (h : Rel0 A r) {i : Int} (i0 : 0 ≤ i) (i1 : i < 48) (hi : 0 < A 4 i) : ∃ g k : Int, i = g * 6 + k ∧ (0 ≤ g ∧ g < A 0 0) ∧ 0 ≤ k ∧ k < A 2 g := by
  have n := rel_g h
  have m := rel_many h (g := i / 6) (by omega) (by omega)
  have q := (h.2.2.2.2.2 (i / 6) (i % 6) (by omega) (by omega) (by omega) (by omega)).2
  rw [show i / 6 * 6 + i % 6 = i by omega] at q
  refine ⟨i / 6, i % 6, by omega, ⟨by omega, ?_⟩, by omega, ?_⟩
  · by_cases c : i / 6 < A 0 0
    · exact c
    · have := m.2.2.2 (by omega)
      have := q (by omega)
      omega
  · by_cases c : i % 6 < A 2 (i / 6)
    · exact c
    · have := q (by omega)
      omega
def EvP (A : hGM) (z : Int) : Prop := ∀ i j : Int, 0 ≤ i → i < 48 → 0 ≤ j → j < 48 → 0 < A 4 i → 0 < A 4 j → absI (A 4 i - A 4 j) ≤ A 0 2 → v_X1_wideOf A (A 4 i) z = v_X1_wideOf A (A 4 j) z
theorem absI_sym (x y : Int) : absI (x - y) = absI (y - x) := by unfold absI; split <;> split <;> omega
theorem isEven_c {A : hGM} (T : hGM) (z : Int) : v_X0_isEven A T z = 1 ↔ EvP A z := by
  have hm : ∀ k : Int, 0 ≤ k → k < 48 → m_X0_isEven A T z 3 k = v_X1_wideOf A (A 4 k) z := fun k a b => cpR_in a b
  unfold v_X0_isEven
  have fs := firstN_spec (fun k => decide (1 ≤ k ∧ v_X0_isEvenAhead A (m_X0_isEven A T z) k = 0)) 48
  have ah : ∀ k : Int, 0 ≤ k → k < 48 → (v_X0_isEvenAhead A (m_X0_isEven A T z) k = 0 ↔ 0 < A 4 k ∧ ∃ j : Int, 0 ≤ j ∧ j < k ∧ 0 < A 4 j ∧ absI (A 4 j - A 4 k) ≤ A 0 2 ∧ ¬ v_X1_wideOf A (A 4 j) z = v_X1_wideOf A (A 4 k) z) := by
    intro k k0 k1
    unfold v_X0_isEvenAhead
    have f2 := firstN_spec (unEv A (m_X0_isEven A T z) k) k.toNat
    have un : ∀ j : Int, 0 ≤ j → j < k → (unEv A (m_X0_isEven A T z) k j = true ↔ 0 < A 4 j ∧ absI (A 4 j - A 4 k) ≤ A 0 2 ∧ ¬ v_X1_wideOf A (A 4 j) z = v_X1_wideOf A (A 4 k) z) := by
      intro j j0 j1
      unfold unEv
      rw [hm j j0 (by omega), hm k k0 k1, decide_eq_true_eq]
    constructor
    · intro q
      by_cases c : 0 < A 4 k ∧ ¬ firstN (unEv A (m_X0_isEven A T z) k) k.toNat = -1
      · refine ⟨c.1, ?_⟩
        rcases f2 with ⟨a, b⟩ | ⟨a, b, d, e⟩
        · exact absurd a c.2
        · exact ⟨_, a, by omega, (un _ a (by omega)).mp d⟩
      · rw [if_neg c] at q; exact absurd q (by decide)
    · rintro ⟨q1, j, j0, j1, q2⟩
      rw [if_pos]
      refine ⟨q1, fun x => ?_⟩
      rcases f2 with ⟨a, b⟩ | ⟨a, b, d, e⟩
      · have := b j j0 (by omega)
        rw [(un j j0 j1).mpr q2] at this
        cases this
      · omega
  constructor
  · intro q
    rcases fs with ⟨a, b⟩ | ⟨a, b, d, e⟩
    · have low : ∀ i j : Int, 0 ≤ j → j < i → i < 48 → 0 < A 4 i → 0 < A 4 j → absI (A 4 j - A 4 i) ≤ A 0 2 → v_X1_wideOf A (A 4 j) z = v_X1_wideOf A (A 4 i) z := by
        intro i j j0 ji i1 h1 h2 h3
        have q1 := of_decide_eq_false (b i (by omega) (by omega))
        by_cases c : v_X1_wideOf A (A 4 j) z = v_X1_wideOf A (A 4 i) z
        · exact c
        · exact absurd ⟨by omega, (ah i (by omega) i1).mpr ⟨h1, j, j0, ji, h2, h3, c⟩⟩ q1
      intro i j i0 i1 j0 j1 h1 h2 h3
      rcases Int.lt_trichotomy i j with c | c | c
      · exact low j i i0 c j1 h2 h1 h3
      · rw [c]
      · exact (low i j j0 c i1 h1 h2 (by rw [absI_sym]; exact h3)).symm
    · rw [if_neg (by omega)] at q; exact absurd q (by decide)
  · intro q
    rw [if_pos]
    rcases fs with ⟨a, b⟩ | ⟨a, b, d, e⟩
    · exact a
    · exfalso
      generalize firstN _ 48 = k at a b d e
      have d := of_decide_eq_true d
      obtain ⟨h1, j, j0, j1, h2, h3, h4⟩ := (ah k a (by omega)).mp d.2
      exact h4 (q j k j0 (by omega) a (by omega) h2 h1 h3)
theorem fold1_all (f : Int → Int → Int) (q : Int → Prop) (n : Nat) (s : Int) (hs : s = 0 ∨ s = 1) (h1 : ∀ k y : Int, 0 ≤ k → k < n → (y = 0 ∨ y = 1) → (f k y = 0 ∨ f k y = 1) ∧ (f k y = 1 ↔ y = 1 ∧ q k)) : (fold1 f n s = 0 ∨ fold1 f n s = 1) ∧ (fold1 f n s = 1 ↔ s = 1 ∧ ∀ k : Int, 0 ≤ k → k < n → q k) := by
  induction n with
  | zero => exact ⟨hs, fun e => ⟨e, fun k a b => by omega⟩, fun e => e.1⟩
  | succ n ih =>
    obtain ⟨i1, i2⟩ := ih (fun k y a b => h1 k y a (by omega))
    have st : fold1 f (n + 1) s = f n (fold1 f n s) := rfl
    rw [st]
    have st2 := h1 n (fold1 f n s) (by omega) (by omega) i1
    refine ⟨st2.1, st2.2.trans ?_⟩
    rw [i2]
    constructor
    · rintro ⟨⟨a, b⟩, c⟩
      refine ⟨a, fun k k0 k1 => ?_⟩
      by_cases e : k = n
      · rw [e]; exact c
      · exact b k k0 (by omega)
    · rintro ⟨a, b⟩
      exact ⟨⟨a, fun k k0 k1 => b k k0 (by omega)⟩, b n (by omega) (by omega)⟩
theorem fold2_all (f : Int → Int → Int → Int) (q : Int → Int → Prop) (M : Int → Nat) (N : Nat) (h1 : ∀ g k y : Int, 0 ≤ g → g < N → 0 ≤ k → k < M g → (y = 0 ∨ y = 1) → (f g k y = 0 ∨ f g k y = 1) ∧ (f g k y = 1 ↔ y = 1 ∧ q g k)) : (fold2 f M N 1 = 0 ∨ fold2 f M N 1 = 1) ∧ (fold2 f M N 1 = 1 ↔ ∀ g k : Int, 0 ≤ g → g < N → 0 ≤ k → k < M g → q g k) := by
  have key := fold1_all (fun g s => fold1 (f g) (M g) s) (fun g => ∀ k : Int, 0 ≤ k → k < M g → q g k) N 1 (Or.inr rfl) (fun g y g0 g1 hy => fold1_all (f g) (q g) (M g) y hy (fun k y2 k0 k1 hy2 => h1 g k y2 g0 g1 k0 k1 hy2))
  refine ⟨key.1, key.2.trans ?_⟩
  exact ⟨fun a g k g0 g1 k0 k1 => a.2 g g0 g1 k k0 k1, fun a => ⟨rfl, fun g g0 g1 k k0 k1 => a g k g0 g1 k0 k1⟩⟩
theorem isEven_m {A P : hGM} (h : Rel0 A (P 1)) {g0 k0 z : Int} (a0 : 0 ≤ g0) (a1 : g0 < A 0 0) (b0 : 0 ≤ k0) (b1 : k0 < A 2 g0) (z0 : 0 ≤ z) (z1 : z ≤ 48) : v_X6_isEven P g0 k0 z = 1 ↔ ∀ g k : Int, 0 ≤ g → g < A 0 0 → 0 ≤ k → k < A 2 g → absI (A 4 (g * 6 + k) - A 4 (g0 * 6 + k0)) ≤ A 0 2 → layW A g z k = layW A g0 z k0 := by
  have n := rel_g h
  have key := fold2_all (evA P g0 k0 z) (fun g k => absI (A 4 (g * 6 + k) - A 4 (g0 * 6 + k0)) ≤ A 0 2 → layW A g z k = layW A g0 z k0) (fun g => (v_X6_of P g 1).toNat) (P 1 0).toNat (fun g k y c0 c1 d0 d1 hy => by
    have e := rel_of h c0 (g := g) (by omega)
    have d1 : k < ((v_X6_of P g 1).toNat : Int) := d1
    have o1 := (ofStem_rel h c0 (by omega) d0 (by omega)).2.1
    have o2 := (ofStem_rel h a0 (by omega) b0 b1).2.1
    have w1 := wide_rel h c0 (by omega) d0 (by omega) z0 z1
    have w2 := wide_rel h a0 (by omega) b0 b1 z0 z1
    refine ⟨evA_01 _ _ _ _ _ _ _, ?_⟩
    unfold evA
    rw [size_v, o1, o2, w1, w2, ← h.2.2.1.2.2.1]
    rcases hy with hy | hy
    · rw [if_pos hy]; exact ⟨fun q => absurd q (by decide), fun q => by omega⟩
    · rw [if_neg (by omega)]
      by_cases c : absI (A 4 (g * 6 + k) - A 4 (g0 * 6 + k0)) ≤ A 0 2
      · rw [if_pos c]
        by_cases c2 : layW A g z k = layW A g0 z k0
        · rw [if_pos c2]; exact ⟨fun _ => ⟨hy, fun _ => c2⟩, fun _ => rfl⟩
        · rw [if_neg c2]; exact ⟨fun q => absurd q (by decide), fun q => absurd (q.2 c) c2⟩
      · rw [if_neg c]; exact ⟨fun _ => ⟨hy, fun q => absurd q c⟩, fun _ => rfl⟩)
  refine key.2.trans ?_
  constructor
  · intro q g k c0 c1 d0 d1
    have e := rel_of h c0 (g := g) (by omega)
    exact q g k c0 (by omega) d0 (by show k < ((v_X6_of P g 1).toNat : Int); omega)
  · intro q g k c0 c1 d0 d1
    have e := rel_of h c0 (g := g) (by omega)
    have d1 : k < ((v_X6_of P g 1).toNat : Int) := d1
    exact q g k c0 (by omega) d0 (by omega)
theorem even_rel {A P : hGM} (T : hGM) (h : Rel0 A (P 1)) {z : Int} (z0 : 0 ≤ z) (z1 : z ≤ 48) : v_X0_isEven A T z = fold2 (evB P z) (fun g => (v_X6_of P g 1).toNat) (P 1 0).toNat 1 := by
  have n := rel_g h
  have key := fold2_all (evB P z) (fun g k => v_X6_isEven P g k z = 1) (fun g => (v_X6_of P g 1).toNat) (P 1 0).toNat (fun g k y c0 c1 d0 d1 hy => by
    refine ⟨evB_01 _ _ _ _ _, ?_⟩
    unfold evB
    have z01 := z_X6_isEven P g k z
    rcases hy with hy | hy
    · rw [if_pos hy]; exact ⟨fun q => absurd q (by decide), fun q => by omega⟩
    · rw [if_neg (by omega)]
      by_cases c : v_X6_isEven P g k z = 0
      · rw [if_pos c]; exact ⟨fun q => absurd q (by decide), fun q => by omega⟩
      · rw [if_neg c]; exact ⟨fun _ => ⟨hy, by omega⟩, fun _ => rfl⟩)
  have cz := z_X0_isEven A T z
  have ce := isEven_c (A := A) T z
  have eq : (fold2 (evB P z) (fun g => (v_X6_of P g 1).toNat) (P 1 0).toNat 1 = 1) ↔ EvP A z := by
    refine key.2.trans ?_
    constructor
    · intro q i j i0 i1 j0 j1 h1 h2 h3
      obtain ⟨g, k, e1, g0, k0⟩ := made_idx h i0 i1 h1
      obtain ⟨g', k', e2, g0', k0'⟩ := made_idx h j0 j1 h2
      have e := rel_of h (g := g') g0'.1 (by omega)
      have q1 := q g' k' g0'.1 (by omega) k0'.1 (by show k' < ((v_X6_of P g' 1).toNat : Int); omega)
      rw [isEven_m h g0'.1 g0'.2 k0'.1 k0'.2 z0 z1] at q1
      have q2 := q1 g k g0.1 g0.2 k0.1 k0.2 (by rw [← e1, ← e2]; exact h3)
      unfold layW at q2
      rw [e1, e2]
      exact q2
    · intro q g k g0 g1 k0 k1
      have e := rel_of h g0 (g := g) (by omega)
      have k1 : k < ((v_X6_of P g 1).toNat : Int) := k1
      have m := rel_many h g0 (g := g) (by omega)
      rw [isEven_m h g0 (by omega) k0 (by omega) z0 z1]
      intro g' k' g0' g1' k0' k1' h3
      have m' := rel_many h g0' (g := g') (by omega)
      have s := rel_stem h g0 (by omega) k0 (by omega : k < A 2 g)
      have s' := rel_stem h g0' (by omega) k0' k1'
      exact q (g' * 6 + k') (g * 6 + k) (by omega) (by omega) (by omega) (by omega) (by omega) (by omega) h3
  rcases cz with c | c <;> rcases key.1 with d | d
  · rw [c, d]
  · exact absurd (ce.mpr (eq.mp d)) (by omega)
  · exact absurd (eq.mpr (ce.mp c)) (by omega)
  · rw [c, d]
/-! clear sizes -/
theorem clr_rel {A P : hGM} (T : hGM) (h : Rel0 A (P 1)) {g z : Int} (g0 : 0 ≤ g) (g1 : g < A 0 0) (z0 : 0 ≤ z) (z1 : z ≤ 48) : v_X0_isClear (m_X0_lay A T g z) = v_X6_isClear P g z := by
  have f := fit_rel T h g0 g1 z0 z1
  unfold v_X0_isClear v_X6_isClear
  rw [f.2.1, f.2.2.1]
theorem clr_same {A P L : hGM} (h : Rel0 A (P 1)) (hL : L 1 = P 1) {g z : Int} (g0 : 0 ≤ g) (g1 : g < A 0 0) (z0 : 0 ≤ z) (z1 : z ≤ 48) : v_X6_isClear L g z = v_X6_isClear P g z := by
  rw [← clr_rel P h g0 g1 z0 z1, ← clr_rel P (P := L) (by rw [hL]; exact h) g0 g1 z0 z1]
theorem clR_v {A P : hGM} (h : Rel0 A (P 1)) {g : Int} (g0 : 0 ≤ g) (g1 : g < A 0 0) (n : Nat) : ∀ (z : Int) (L : hGM), 0 ≤ z → z + n ≤ 49 → L 1 = P 1 → ((∀ k : Int, 0 ≤ k → k < n → v_X6_isClear P g (z + k) = 0) → (clR g n z L).1 = -1000004) ∧ (∀ j : Int, 0 ≤ j → j < n → ¬ v_X6_isClear P g (z + j) = 0 → (∀ k : Int, 0 ≤ k → k < j → v_X6_isClear P g (z + k) = 0) → (clR g n z L).1 = z + j) := by
  induction n with
  | zero => intro z L z0 z1 hL; exact ⟨fun _ => rfl, fun j a b => by omega⟩
  | succ n ih =>
    intro z L z0 z1 hL
    have e := clr_same h hL g0 g1 z0 (by omega : z ≤ 48)
    have st : clR g (n + 1) z L = if v_X6_isClear L g z = 0 then clR g n (z + 1) (m_X6_isClear L g z) else (z, m_X6_isClear L g z) := rfl
    rw [st, e]
    have hL2 : m_X6_isClear L g z 1 = P 1 := by rw [isClear_1]; exact hL
    obtain ⟨i1, i2⟩ := ih (z + 1) (m_X6_isClear L g z) (by omega) (by omega) hL2
    constructor
    · intro q
      have q0 := q 0 (by decide) (by omega)
      rw [Int.add_zero] at q0
      rw [if_pos q0]
      refine i1 (fun k k0 k1 => ?_)
      have := q (1 + k) (by omega) (by omega)
      rw [show z + 1 + k = z + (1 + k) by omega]; exact this
    · intro j j0 j1 q1 q2
      by_cases c : j = 0
      · subst c
        rw [Int.add_zero] at q1 ⊢
        rw [if_neg q1]
      · have q0 := q2 0 (by decide) (by omega)
        rw [Int.add_zero] at q0
        rw [if_pos q0]
        have := i2 (j - 1) (by omega) (by omega) (by rw [show z + 1 + (j - 1) = z + j by omega]; exact q1) (fun k k0 k1 => by
          have := q2 (1 + k) (by omega) (by omega)
          rw [show z + 1 + k = z + (1 + k) by omega]; exact this)
        rw [this]; omega
theorem clT_v {A P : hGM} (T : hGM) (h : Rel0 A (P 1)) {g : Int} (g0 : 0 ≤ g) (g1 : g < A 0 0) {k : Int} (k0 : 0 ≤ k) (k1 : k < 43) : v_X0_isClear (clT A T g (k.toNat + 1)) = v_X6_isClear P g (6 + k) := by
  have e : clT A T g (k.toNat + 1) = m_X0_lay A (clT A T g k.toNat) g (6 + (k.toNat : Nat)) := rfl
  rw [e, Int.toNat_of_nonneg k0]
  exact clr_rel _ h g0 g1 (by omega) (by omega)
theorem clear_rel {A P : hGM} (T : hGM) (h : Rel0 A (P 1)) {g : Int} (g0 : 0 ≤ g) (g1 : g < A 0 0) : (if clF A T g = -1 then -1000004 else 6 + clF A T g) = (clR g 43 6 P).1 := by
  have key := clR_v h g0 g1 43 6 P (by decide) (by decide) rfl
  unfold clF
  rcases firstN_spec (fun k => decide (¬ v_X0_isClear (clT A T g (k.toNat + 1)) = 0)) 43 with ⟨a, b⟩ | ⟨a, b, c, d⟩
  · rw [if_pos a]
    refine (key.1 (fun k k0 k1 => ?_)).symm
    have := of_decide_eq_false (b k k0 k1)
    rw [clT_v T h g0 g1 k0 (by omega)] at this
    exact Decidable.not_not.mp this
  · generalize firstN _ 43 = j at a b c d
    rw [if_neg (by omega)]
    refine (key.2 j a b ?_ (fun k k0 k1 => ?_)).symm
    · have := of_decide_eq_true c
      rw [clT_v T h g0 g1 a (by omega)] at this
      exact this
    · have := of_decide_eq_false (d k k0 k1)
      rw [clT_v T h g0 g1 k0 (by omega)] at this
      exact Decidable.not_not.mp this
theorem czS_v {A P : hGM} (h : Rel0 A (P 1)) {g : Int} (g0 : 0 ≤ g) (g1 : g < A 0 0) (n : Nat) (hn : n ≤ 43) : (czS P g n).1 = sumN (fun k => if ¬ v_X6_isClear P g (6 + k) = 0 then 1 else 0) n := by
  induction n with
  | zero => rfl
  | succ n ih =>
    have st : (czS P g (n + 1)).1 = (czS P g n).1 + (if v_X6_isClear (czS P g n).2 g (6 + n) = 0 then 0 else 1) := rfl
    rw [st, ih (by omega), sumN_s, clr_same h (czS_row P g n (by decide) (by decide) (by decide)) g0 g1 (by omega) (by omega)]
    congr 1
    by_cases c : v_X6_isClear P g (6 + (n : Int)) = 0
    · rw [if_pos c, if_neg (by omega)]
    · rw [if_neg c, if_pos c]
theorem sizes_rel {A P : hGM} (S : hS) (j : Nat) (hS : S j = A) (h : Rel0 A (P 1)) {g : Int} (g0 : 0 ≤ g) (g1 : g < A 0 0) : v_X5_clearSizes S j g = v_X6_clearSizes P g := by
  unfold v_X5_clearSizes v_X6_clearSizes
  rw [czS_v h g0 g1 43 (Nat.le_refl _), hS]
  refine sumN_congr 43 (fun k a b => ?_)
  show (if ¬ v_X0_isClear (clT A (S 7) g (k.toNat + 1)) = 0 then (1 : Int) else 0) = _
  rw [clT_v (S 7) h g0 g1 a (by omega)]

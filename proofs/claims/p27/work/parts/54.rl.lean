/-! the law's arrays and the class's font: what both tell -/
/-- standard widths: the least first in the class, in any order in the law, 0 for none -/
def StR (d0 d1 d2 n s0 s1 s2 : Int) : Prop :=
  (0 ≤ d0 ∧ d0 ≤ 300) ∧ (0 ≤ d1 ∧ d1 ≤ 300) ∧ (0 ≤ d2 ∧ d2 ≤ 300) ∧ (0 ≤ n ∧ n ≤ 3) ∧
  ((if 0 < d0 then 1 else 0) + (if 0 < d1 then 1 else 0) + (if 0 < d2 then 1 else 0) = n) ∧
  (0 < d0 → ¬ d0 = d1 ∧ ¬ d0 = d2) ∧ (0 < d1 → ¬ d1 = d2) ∧
  (0 < n → 1 ≤ s0) ∧ (1 < n → s0 < s1) ∧ (2 < n → s1 < s2) ∧
  (0 < d0 → (0 < n ∧ d0 = s0) ∨ (1 < n ∧ d0 = s1) ∨ (2 < n ∧ d0 = s2)) ∧
  (0 < d1 → (0 < n ∧ d1 = s0) ∨ (1 < n ∧ d1 = s1) ∨ (2 < n ∧ d1 = s2)) ∧
  (0 < d2 → (0 < n ∧ d2 = s0) ∨ (1 < n ∧ d2 = s1) ∨ (2 < n ∧ d2 = s2))
theorem StR_set {d0 d1 d2 n s0 s1 s2 : Int} (h : StR d0 d1 d2 n s0 s1 s2) (v : Int) : ((0 < d0 ∧ d0 = v) ∨ (0 < d1 ∧ d1 = v) ∨ (0 < d2 ∧ d2 = v)) ↔ ((0 < n ∧ s0 = v) ∨ (1 < n ∧ s1 = v) ∨ (2 < n ∧ s2 = v)) := by
  obtain ⟨a0, a1, a2, an, ac, x0, x1, t0, t1, t2, m0, m1, m2⟩ := h
  by_cases c0 : 0 < d0 <;> by_cases c1 : 0 < d1 <;> by_cases c2 : 0 < d2 <;> (constructor <;> intro q <;> omega)
theorem StR_sd {d0 d1 d2 n s0 s1 s2 : Int} (h : StR d0 d1 d2 n s0 s1 s2) : (0 < n → 1 ≤ s0) ∧ (1 < n → s0 < s1) ∧ (2 < n → s1 < s2) ∧ (0 ≤ n ∧ n ≤ 3) := ⟨h.2.2.2.2.2.2.2.1, h.2.2.2.2.2.2.2.2.1, h.2.2.2.2.2.2.2.2.2.1, h.2.2.2.1⟩
def RL0 (A P : hGM) : Prop := fNum A ∧ (P 1 0 = A 0 0 ∧ P 1 1 = A 0 2 ∧ P 1 2 = A 0 3) ∧ StR (P 7 0) (P 7 1) (P 7 2) (A 0 1) (A 6 0) (A 6 1) (A 6 2) ∧
  (∀ g : Int, 0 ≤ g → g < 8 → (g < A 0 0 → P 2 g = A 1 g ∧ P 3 g = A 2 g) ∧ (A 0 0 ≤ g → A 2 g = 0)) ∧
  (∀ g k : Int, 0 ≤ g → g < 8 → 0 ≤ k → k < 6 → (k < A 2 g → (P 4 (g * 6 + k) = A 3 (g * 6 + k) ∧ P 5 (g * 6 + k) = A 4 (g * 6 + k) ∧ P 6 (g * 6 + k) = A 5 (g * 6 + k)) ∧ 1 ≤ A 4 (g * 6 + k) ∧ (k + 1 < A 2 g → A 3 (g * 6 + k) + A 4 (g * 6 + k) ≤ A 3 (g * 6 + (k + 1)))) ∧ (A 2 g ≤ k → A 4 (g * 6 + k) = 0))
theorem rl_g {A P : hGM} (h : RL0 A P) : P 1 0 = A 0 0 ∧ 0 ≤ A 0 0 ∧ A 0 0 ≤ 8 := ⟨h.2.1.1, h.1.1.1, h.1.1.2⟩
theorem rl_set {A P : hGM} (h : RL0 A P) : (P 1 1 = A 0 2 ∧ 0 ≤ A 0 2 ∧ A 0 2 ≤ 100) ∧ (P 1 2 = A 0 3 ∧ 0 ≤ A 0 3 ∧ A 0 3 ≤ 3) := ⟨⟨h.2.1.2.1, h.1.2.2.1⟩, h.2.1.2.2, h.1.2.2.2.1⟩
theorem rl_many {A P : hGM} (h : RL0 A P) {g : Int} (g0 : 0 ≤ g) (g1 : g < A 0 0) : (P 2 g = A 1 g ∧ P 3 g = A 2 g) ∧ (0 ≤ A 1 g ∧ A 1 g ≤ 1500) ∧ (0 ≤ A 2 g ∧ A 2 g ≤ 6) := by
  have n := rl_g h
  have b := h.1.2.2.2.2.2.2 g g0 (by omega)
  exact ⟨(h.2.2.2.1 g g0 (by omega)).1 g1, b.1, b.2⟩
theorem rl_m8 {A P : hGM} (h : RL0 A P) {g : Int} (g0 : 0 ≤ g) (g1 : g < 8) : (0 ≤ A 2 g ∧ A 2 g ≤ 6) ∧ (A 0 0 ≤ g → A 2 g = 0) := ⟨(h.1.2.2.2.2.2.2 g g0 g1).2, (h.2.2.2.1 g g0 g1).2⟩
theorem rl_stem {A P : hGM} (h : RL0 A P) {g k : Int} (g0 : 0 ≤ g) (g1 : g < 8) (k0 : 0 ≤ k) (k1 : k < A 2 g) : (P 4 (g * 6 + k) = A 3 (g * 6 + k) ∧ P 5 (g * 6 + k) = A 4 (g * 6 + k) ∧ P 6 (g * 6 + k) = A 5 (g * 6 + k)) ∧ (0 ≤ A 3 (g * 6 + k) ∧ A 3 (g * 6 + k) ≤ 999) ∧ (1 ≤ A 4 (g * 6 + k) ∧ A 4 (g * 6 + k) ≤ 300) ∧ (0 ≤ A 5 (g * 6 + k) ∧ A 5 (g * 6 + k) ≤ 3) ∧ (k + 1 < A 2 g → A 3 (g * 6 + k) + A 4 (g * 6 + k) ≤ A 3 (g * 6 + (k + 1))) := by
  have b := rl_m8 h g0 g1
  have q := (h.2.2.2.2 g k g0 g1 k0 (by omega)).1 k1
  have n := h.1.2.2.2.2.2.1 (g * 6 + k) (by omega) (by omega)
  exact ⟨q.1, n.1, ⟨q.2.1, n.2.1.2⟩, n.2.2, q.2.2⟩
theorem rl_none {A P : hGM} (h : RL0 A P) {g k : Int} (g0 : 0 ≤ g) (g1 : g < 8) (k0 : 0 ≤ k) (k1 : k < 6) (c : A 2 g ≤ k) : A 4 (g * 6 + k) = 0 := (h.2.2.2.2 g k g0 g1 k0 k1).2 c
/-- which of the 48 places hold a stem -/
theorem rl_val {A P : hGM} (h : RL0 A P) {i : Int} (i0 : 0 ≤ i) (i1 : i < 48) : 0 < A 4 i ↔ (i / 6 < A 0 0 ∧ i % 6 < A 2 (i / 6)) := by
  have e : i = i / 6 * 6 + i % 6 := by omega
  have b := rl_m8 h (g := i / 6) (by omega) (by omega)
  constructor
  · intro c
    by_cases d : i % 6 < A 2 (i / 6)
    · refine ⟨?_, d⟩
      by_cases f : A 0 0 ≤ i / 6
      · have := b.2 f; omega
      · omega
    · have q := rl_none h (g := i / 6) (k := i % 6) (by omega) (by omega) (by omega) (by omega) (by omega)
      rw [← e] at q
      omega
  · rintro ⟨c, d⟩
    have q := rl_stem h (g := i / 6) (k := i % 6) (by omega) (by omega) (by omega) d
    rw [← e] at q
    omega
theorem rl_at {A P : hGM} (h : RL0 A P) {i : Int} (i0 : 0 ≤ i) (i1 : i < 48) (c : 0 < A 4 i) : (P 4 i = A 3 i ∧ P 5 i = A 4 i ∧ P 6 i = A 5 i) ∧ (0 ≤ A 3 i ∧ A 3 i ≤ 999) ∧ (1 ≤ A 4 i ∧ A 4 i ≤ 300) ∧ (0 ≤ A 5 i ∧ A 5 i ≤ 3) := by
  have e : i = i / 6 * 6 + i % 6 := by omega
  obtain ⟨v1, v2⟩ := (rl_val h i0 i1).mp c
  have q := rl_stem h (g := i / 6) (k := i % 6) (by omega) (by omega) (by omega) v2
  rw [← e] at q
  exact ⟨q.1, q.2.1, q.2.2.1, q.2.2.2.1⟩
/-! snapping -/
def SnC (M : Int → Prop) (cut w r : Int) : Prop := (r = 0 ∧ ∀ v, M v → cut < absI (v - w)) ∨ (M r ∧ absI (r - w) ≤ cut ∧ ∀ v, M v → absI (r - w) < absI (v - w) ∨ (absI (r - w) = absI (v - w) ∧ r ≤ v))
theorem SnC_uniq {M : Int → Prop} {cut w r r' : Int} (h : SnC M cut w r) (h' : SnC M cut w r') : r = r' := by
  rcases h with ⟨a, b⟩ | ⟨a, b, c⟩ <;> rcases h' with ⟨a', b'⟩ | ⟨a', b', c'⟩
  · omega
  · have := b r' a'; omega
  · have := b' r a; omega
  · have x := c r' a'
    have y := c' r a
    omega
theorem SnC_congr {M M' : Int → Prop} {cut w r : Int} (h : ∀ v, M v ↔ M' v) (q : SnC M cut w r) : SnC M' cut w r := by
  have e : M = M' := funext fun v => propext (h v)
  rw [← e]; exact q
/-- the law's search of the first n of its standard widths -/
def snL (d : Int → Int) (cut w : Int) : Nat → Int
  | 0 => 0
  | n + 1 => if 0 < d n ∧ absI (d n - w) ≤ cut ∧ (snL d cut w n = 0 ∨ absI (d n - w) < absI (snL d cut w n - w) ∨ (absI (d n - w) = absI (snL d cut w n - w) ∧ d n < snL d cut w n)) then d n else snL d cut w n
theorem snL_s (d : Int → Int) (cut w : Int) (n : Nat) : snL d cut w (n + 1) = if 0 < d n ∧ absI (d n - w) ≤ cut ∧ (snL d cut w n = 0 ∨ absI (d n - w) < absI (snL d cut w n - w) ∨ (absI (d n - w) = absI (snL d cut w n - w) ∧ d n < snL d cut w n)) then d n else snL d cut w n := rfl
theorem snL_c (d : Int → Int) (cut w : Int) (n : Nat) : SnC (fun v => 0 < v ∧ ∃ k : Int, 0 ≤ k ∧ k < n ∧ d k = v) cut w (snL d cut w n) := by
  induction n with
  | zero => exact Or.inl ⟨rfl, fun v ⟨_, k, k0, k1, _⟩ => by omega⟩
  | succ n ih =>
    rw [snL_s]
    generalize snL d cut w n = r at ih ⊢
    by_cases c : 0 < d n ∧ absI (d n - w) ≤ cut ∧ (r = 0 ∨ absI (d n - w) < absI (r - w) ∨ (absI (d n - w) = absI (r - w) ∧ d n < r))
    · rw [if_pos c]
      refine Or.inr ⟨⟨c.1, n, by omega, by omega, rfl⟩, c.2.1, ?_⟩
      rintro v ⟨v0, k, k0, k1, kv⟩
      by_cases e : k = n
      · rw [e] at kv
        rw [kv]
        exact Or.inr ⟨rfl, Int.le_refl _⟩
      · rcases ih with ⟨i1, i2⟩ | ⟨i1, i2, i3⟩
        · have := i2 v ⟨v0, k, k0, by omega, kv⟩
          left; omega
        · have q := i3 v ⟨v0, k, k0, by omega, kv⟩
          have r0 := i1.1
          have c2 := c.2.2
          omega
    · rw [if_neg c]
      rcases ih with ⟨i1, i2⟩ | ⟨i1, i2, i3⟩
      · refine Or.inl ⟨i1, ?_⟩
        rintro v ⟨v0, k, k0, k1, kv⟩
        by_cases e : k = n
        · rw [e] at kv
          rw [← kv]
          rw [← kv] at v0
          refine Int.not_le.mp (fun q => c ⟨v0, q, Or.inl i1⟩)
        · exact i2 v ⟨v0, k, k0, by omega, kv⟩
      · refine Or.inr ⟨⟨i1.1, ?_⟩, i2, ?_⟩
        · obtain ⟨k, k0, k1, kv⟩ := i1.2
          exact ⟨k, k0, by omega, kv⟩
        · rintro v ⟨v0, k, k0, k1, kv⟩
          by_cases e : k = n
          · rw [e] at kv
            rw [← kv]
            rw [← kv] at v0
            by_cases f : absI (d n - w) ≤ cut
            · have g : ¬ (r = 0 ∨ absI (d n - w) < absI (r - w) ∨ (absI (d n - w) = absI (r - w) ∧ d n < r)) := fun q => c ⟨v0, f, q⟩
              omega
            · left; omega
          · exact i3 v ⟨v0, k, k0, by omega, kv⟩
theorem snG_c {st : Int → Int} {cut w : Int} (n : Nat) (hs : ∀ j k : Int, 0 ≤ j → j < k → k < n → st j < st k) (h1 : ∀ k : Int, 0 ≤ k → k < n → 1 ≤ st k) : SnC (fun v => ∃ k : Int, 0 ≤ k ∧ k < n ∧ st k = v) cut w (snapG st cut w n).1 ∧ ((snapG st cut w n).1 = 0 → (snapG st cut w n).2 = cut + 1) ∧ (¬ (snapG st cut w n).1 = 0 → (snapG st cut w n).2 = absI ((snapG st cut w n).1 - w)) := by
  induction n with
  | zero => exact ⟨Or.inl ⟨rfl, fun v ⟨k, k0, k1, _⟩ => by omega⟩, fun _ => rfl, fun z => absurd rfl z⟩
  | succ n ih =>
    have ih := ih (fun j k a b c => hs j k a b (by omega)) (fun k a b => h1 k a (by omega))
    have sn := h1 n (by omega) (by omega)
    unfold snapG
    generalize snapG st cut w n = G at ih ⊢
    obtain ⟨i1, i2, i3⟩ := ih
    by_cases c : absI (st n - w) < G.2
    · rw [if_pos c]
      refine ⟨Or.inr ⟨⟨n, by omega, by omega, rfl⟩, ?_, ?_⟩, fun z => ?_, fun _ => rfl⟩
      · rcases i1 with ⟨a, _⟩ | ⟨a, b, _⟩
        · have := i2 a; show absI (st n - w) ≤ cut; omega
        · by_cases z : G.1 = 0
          · have := i2 z; show absI (st n - w) ≤ cut; omega
          · have := i3 z; show absI (st n - w) ≤ cut; omega
      · rintro v ⟨k, k0, k1, kv⟩
        by_cases e : k = n
        · rw [e] at kv
          rw [← kv]
          exact Or.inr ⟨rfl, Int.le_refl _⟩
        · left
          show absI (st n - w) < absI (v - w)
          rcases i1 with ⟨a, b⟩ | ⟨a, b, d⟩
          · have := i2 a
            have := b v ⟨k, k0, by omega, kv⟩
            omega
          · have q := d v ⟨k, k0, by omega, kv⟩
            obtain ⟨k2, q0, q1, q2⟩ := a
            have := h1 k2 q0 (by omega)
            have := i3 (by omega)
            omega
      · have z : st n = 0 := z
        omega
    · rw [if_neg c]
      refine ⟨?_, i2, i3⟩
      rcases i1 with ⟨a, b⟩ | ⟨a, b, d⟩
      · refine Or.inl ⟨a, ?_⟩
        rintro v ⟨k, k0, k1, kv⟩
        by_cases e : k = n
        · rw [e] at kv
          rw [← kv]
          have := i2 a
          omega
        · exact b v ⟨k, k0, by omega, kv⟩
      · obtain ⟨k2, q0, q1, q2⟩ := a
        have p1 := h1 k2 q0 (by omega)
        have p2 := i3 (by omega)
        refine Or.inr ⟨⟨k2, q0, by omega, q2⟩, b, ?_⟩
        rintro v ⟨k, k0, k1, kv⟩
        by_cases e : k = n
        · rw [e] at kv
          rw [← kv]
          have := hs k2 n q0 (by omega) (by omega)
          omega
        · exact d v ⟨k, k0, by omega, kv⟩
theorem std_sorted {A P : hGM} (h : RL0 A P) : (∀ j k : Int, 0 ≤ j → j < k → k < A 0 1 → A 6 j < A 6 k) ∧ (∀ k : Int, 0 ≤ k → k < A 0 1 → 1 ≤ A 6 k) ∧ (0 ≤ A 0 1 ∧ A 0 1 ≤ 3) := by
  obtain ⟨t0, t1, t2, tn⟩ := StR_sd h.2.2.1
  refine ⟨fun j k j0 jk k1 => ?_, fun k k0 k1 => ?_, tn⟩
  · rcases (show (j = 0 ∧ k = 1) ∨ (j = 0 ∧ k = 2) ∨ (j = 1 ∧ k = 2) by omega) with ⟨rfl, rfl⟩ | ⟨rfl, rfl⟩ | ⟨rfl, rfl⟩ <;> omega
  · rcases (show k = 0 ∨ k = 1 ∨ k = 2 by omega) with rfl | rfl | rfl <;> omega
theorem std_iff {A P : hGM} (h : RL0 A P) (v : Int) : (0 < v ∧ ∃ k : Int, 0 ≤ k ∧ k < (3 : Nat) ∧ P 7 k = v) ↔ (∃ k : Int, 0 ≤ k ∧ k < ((A 0 1).toNat : Nat) ∧ A 6 k = v) := by
  have q := StR_set h.2.2.1 v
  have tn := (std_sorted h).2.2
  constructor
  · rintro ⟨v0, k, k0, k1, kv⟩
    have q2 := q.mp (by
      rcases (show k = 0 ∨ k = 1 ∨ k = 2 by omega) with rfl | rfl | rfl
      · exact Or.inl ⟨by omega, kv⟩
      · exact Or.inr (Or.inl ⟨by omega, kv⟩)
      · exact Or.inr (Or.inr ⟨by omega, kv⟩))
    rcases q2 with q2 | q2 | q2
    · exact ⟨0, by omega, by omega, q2.2⟩
    · exact ⟨1, by omega, by omega, q2.2⟩
    · exact ⟨2, by omega, by omega, q2.2⟩
  · rintro ⟨k, k0, k1, kv⟩
    have q2 := q.mpr (by
      rcases (show k = 0 ∨ k = 1 ∨ k = 2 by omega) with rfl | rfl | rfl
      · exact Or.inl ⟨by omega, kv⟩
      · exact Or.inr (Or.inl ⟨by omega, kv⟩)
      · exact Or.inr (Or.inr ⟨by omega, kv⟩))
    rcases q2 with q2 | q2 | q2
    · exact ⟨by omega, 0, by omega, by omega, q2.2⟩
    · exact ⟨by omega, 1, by omega, by omega, q2.2⟩
    · exact ⟨by omega, 2, by omega, by omega, q2.2⟩
theorem snL_eq {A P : hGM} (h : RL0 A P) (w : Int) : snL (P 7) (P 1 1) w 3 = v_X1_snapOf A w := by
  obtain ⟨s1, s2, s3⟩ := std_sorted h
  have a := SnC_congr (std_iff h) (snL_c (P 7) (P 1 1) w 3)
  have b := (snG_c (st := A 6) (cut := A 0 2) (w := w) (A 0 1).toNat (fun j k x y z => s1 j k x y (by omega)) (fun k x y => s2 k x (by omega))).1
  rw [(rl_set h).1.1] at a ⊢
  exact SnC_uniq a b

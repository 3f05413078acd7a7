/-! sheets: their order, their slots, and how one is made, of the class and of the law -/
theorem cnt_img (o : Int → Int) (n : Nat) (m : Nat) : ∀ (p : Int → Prop) (_ : DecidablePred p), (∀ i : Int, 0 ≤ i → i < m → 0 ≤ o i ∧ o i < n) → (∀ i j : Int, 0 ≤ i → i < j → j < m → ¬ o i = o j) → (∀ s : Int, 0 ≤ s → s < n → (p s ↔ ∃ i : Int, 0 ≤ i ∧ i < m ∧ o i = s)) → sumN (fun s => if p s then 1 else 0) n = m := by
  induction m with
  | zero =>
    intro p _ _ _ hp
    exact sumN_0 n (fun k a b => if_neg (fun z => by obtain ⟨i, i0, i1, _⟩ := (hp k a b).mp z; omega))
  | succ m ih =>
    intro p ip hr inj hp
    have i1 := ih (fun s => p s ∧ ¬ s = o m) (fun s => inferInstance) (fun i a b => hr i a (by omega)) (fun i j a b c => inj i j a b (by omega)) (fun s s0 s1 => by
      rw [hp s s0 s1]
      constructor
      · rintro ⟨⟨i, a, b, c⟩, d⟩
        refine ⟨i, a, ?_, c⟩
        by_cases e : i = m
        · subst e; exact absurd c.symm d
        · omega
      · rintro ⟨i, a, b, c⟩
        refine ⟨⟨i, a, by omega, c⟩, fun d => ?_⟩
        exact inj i m a b (by omega) (c.trans d))
    have rm := hr m (by omega) (by omega)
    rw [sumN_upd (f := fun s => if p s ∧ ¬ s = o m then 1 else 0) (f' := fun s => if p s then 1 else 0) (i := o m) n (fun k hk => by
      show (if p k then (1 : Int) else 0) = (if p k ∧ ¬ k = o m then 1 else 0)
      by_cases c : p k
      · rw [if_pos c, if_pos ⟨c, hk⟩]
      · rw [if_neg c, if_neg (fun z => c z.1)]), i1, if_pos rm]
    show (m : Int) + ((if p (o m) then (1 : Int) else 0) - (if p (o m) ∧ ¬ o m = o m then 1 else 0)) = _
    rw [if_pos ((hp (o m) rm.1 rm.2).mpr ⟨m, by omega, by omega, rfl⟩), if_neg (fun z => z.2 rfl)]
    omega
theorem made_iff {A : hGM} {k : Int} (k0 : 0 ≤ k) (k1 : k < 4) : v_X4_isMade A k = 0 ↔ ¬ 1 ≤ A 8 k := by
  unfold v_X4_isMade
  rw [cell_in k0 (by omega)]
  by_cases c : A 8 k ≤ 0
  · rw [if_pos c]; exact ⟨fun _ => by omega, fun _ => rfl⟩
  · rw [if_neg c]; exact ⟨fun z => absurd z (by decide), fun z => by omega⟩
theorem ord_inj {A : hGM} {P : hGM} {N : Int} {o : Int → Int} (h : OrdL A P N o) {i j : Int} (i0 : 0 ≤ i) (ij : i < j) (j1 : j < N) : ¬ o i = o j := by
  intro e
  have := (h.2.1 i j i0 ij j1).1
  rw [e] at this
  omega
theorem ord_eq {A : hGM} {P : hGM} {N : Int} {o : Int → Int} (h : OrdL A P N o) {i j : Int} (i0 : 0 ≤ i) (i1 : i < N) (j0 : 0 ≤ j) (j1 : j < N) (e : o i = o j) : i = j := by
  rcases Int.lt_trichotomy i j with c | c | c
  · exact absurd e (ord_inj h i0 c j1)
  · exact c
  · exact absurd e.symm (ord_inj h j0 c i1)
theorem held_rel {A : hGM} {P : hGM} {N : Int} {o : Int → Int} (h : OrdL A P N o) (b : 0 ≤ N ∧ N ≤ 4) : v_X4_held A = N := by
  have key := cnt_img o 4 (N).toNat (fun s => 1 ≤ A 8 s) (fun s => inferInstance) (fun i a c => (h.1 i a (by omega)).1) (fun i j a c d => ord_inj h a c (by omega)) (fun s s0 s1 => by
    constructor
    · intro q
      obtain ⟨i, a, c, d⟩ := h.2.2 s s0 (by omega) q
      exact ⟨i, a, by omega, d⟩
    · rintro ⟨i, a, c, d⟩
      rw [← d]; exact (h.1 i a (by omega)).2.1.1)
  unfold v_X4_held
  rw [← (show (((N).toNat : Nat) : Int) = N by omega), ← key]
  refine sumN_congr 4 (fun k a c => ?_)
  show (if v_X4_isMade A k = 0 then (0 : Int) else 1) = (if 1 ≤ A 8 k then 1 else 0)
  have m := made_iff (A := A) a (by omega)
  by_cases d : 1 ≤ A 8 k
  · rw [if_pos d, if_neg (fun z => (m.mp z) d)]
  · rw [if_neg d, if_pos (m.mpr d)]
theorem older_rel {A : hGM} {P : hGM} {N : Int} {o : Int → Int} (h : OrdL A P N o) (b : 0 ≤ N ∧ N ≤ 4) {i : Int} (i0 : 0 ≤ i) (i1 : i < N) : v_X4_olderThan A (o i) = i := by
  have oi := (h.1 i i0 i1).1
  have key := cnt_img o 4 i.toNat (fun s => 1 ≤ A 8 s ∧ A 8 s < A 8 (o i)) (fun s => inferInstance) (fun j a c => (h.1 j a (by omega)).1) (fun j k a c d => ord_inj h a c (by omega)) (fun s s0 s1 => by
    constructor
    · rintro ⟨q, q2⟩
      obtain ⟨j, a, c, d⟩ := h.2.2 s s0 (by omega) q
      refine ⟨j, a, ?_, d⟩
      rcases Int.lt_trichotomy j i with e | e | e
      · omega
      · rw [← d, e] at q2; omega
      · have := (h.2.1 i j i0 e c).1
        rw [← d] at q2; omega
    · rintro ⟨j, a, c, d⟩
      rw [← d]; exact ⟨(h.1 j a (by omega)).2.1.1, (h.2.1 j i a (by omega) i1).1⟩)
  unfold v_X4_olderThan
  rw [show sumN (fun k => if ¬ v_X4_isMade A k = 0 ∧ v_X5_cell A 8 4 k < v_X5_cell A 8 4 (o i) then 1 else 0) 4 = sumN (fun s => if 1 ≤ A 8 s ∧ A 8 s < A 8 (o i) then 1 else 0) 4 from sumN_congr 4 (fun k a c => by
    show (if ¬ v_X4_isMade A k = 0 ∧ v_X5_cell A 8 4 k < v_X5_cell A 8 4 (o i) then (1 : Int) else 0) = (if 1 ≤ A 8 k ∧ A 8 k < A 8 (o i) then 1 else 0)
    have m := made_iff (A := A) a (by omega)
    rw [cell_in a (by omega), cell_in oi.1 (by omega)]
    by_cases d : 1 ≤ A 8 k ∧ A 8 k < A 8 (o i)
    · rw [if_pos d, if_pos ⟨fun z => (m.mp z) d.1, d.2⟩]
    · rw [if_neg d, if_neg (fun z => d ⟨Decidable.byContradiction (fun y => z.1 (m.mpr y)), z.2⟩)]), key]
  omega
theorem slotAt_rel {A : hGM} {P : hGM} {N : Int} {o : Int → Int} (h : OrdL A P N o) (b : 0 ≤ N ∧ N ≤ 4) {x : Int} (x0 : 0 ≤ x) : v_X4_slotAt A x = if x < N then o x else -1 := by
  have pr : ∀ s : Int, 0 ≤ s → s < 4 → (¬ v_X4_isMade A s = 0 ∧ v_X4_olderThan A s = x ↔ x < N ∧ s = o x) := by
    intro s s0 s1
    have m := made_iff (A := A) s0 s1
    constructor
    · rintro ⟨q, q2⟩
      obtain ⟨j, a, c, d⟩ := h.2.2 s s0 s1 (Decidable.byContradiction (fun y => q (m.mpr y)))
      rw [← d, older_rel h b a c] at q2
      rw [← q2]
      exact ⟨c, d.symm⟩
    · rintro ⟨q, q2⟩
      rw [q2] at m ⊢
      exact ⟨fun z => (m.mp z) (h.1 x x0 q).2.1.1, older_rel h b x0 q⟩
  unfold v_X4_slotAt
  by_cases c : x < N
  · have ox := (h.1 x x0 c).1
    rw [if_pos c]
    refine firstN_eq ox.1 (by omega) (decide_eq_true ((pr (o x) ox.1 ox.2).mpr ⟨c, rfl⟩)) (fun j j0 j1 => decide_eq_false (fun z => ?_))
    have := ((pr j j0 (by omega)).mp z).2
    omega
  · rw [if_neg c]
    exact firstN_none (fun j j0 j1 => decide_eq_false (fun z => c ((pr j j0 (by omega)).mp z).1))
theorem begin_eq {A : hGM} {s z c : Int} (s0 : 0 ≤ s) (s1 : s < 4) : m_X4_begin A s z c = aset (aset (aset (aset A 7 0 (A 7 0 + 1)) 8 s (A 7 0 + 1)) 9 s z) 10 s c := by
  unfold m_X4_begin
  rw [put_in s0 (by omega), put_in s0 (by omega), put_in s0 (by omega), aset_at]
theorem keep_eq {A : hGM} {q c l : Int} (q0 : 0 ≤ q) (q1 : q < 32) : m_X4_keep A q c l = aset (aset A 11 q c) 112 q l := by
  unfold m_X4_keep
  rw [if_neg (by omega), if_pos q1, put_in q0 q1]
theorem leastAt_min (f : Int → Int) (n : Nat) : ∀ j : Int, 0 ≤ j → j < n → f (leastAt f n) ≤ f j := by
  induction n with
  | zero => intro j a b; omega
  | succ n ih =>
    intro j a b
    have e : leastAt f (n + 1) = if f n < f (leastAt f n) then (n : Int) else leastAt f n := rfl
    rw [e]
    by_cases c : f n < f (leastAt f n)
    · rw [if_pos c]
      by_cases d : j = n
      · rw [d]; exact Int.le_refl _
      · have := ih j a (by omega); omega
    · rw [if_neg c]
      by_cases d : j = n
      · rw [d]; omega
      · exact ih j a (by omega)
theorem slotOf_c {A P : hGM} {N : Int} {o : Int → Int} (h : OrdL A P N o) (b : 0 ≤ N ∧ N ≤ 4) (z : Int) : (v_X4_slotOf A z = -1 ∧ ∀ i : Int, 0 ≤ i → i < N → ¬ A 9 (o i) = z) ∨ ∃ i : Int, 0 ≤ i ∧ i < N ∧ v_X4_slotOf A z = o i ∧ A 9 (o i) = z := by
  have pr : ∀ s : Int, 0 ≤ s → s < 4 → (¬ v_X4_isMade A s = 0 ∧ v_X5_cell A 9 4 s = z ↔ ∃ i : Int, 0 ≤ i ∧ i < N ∧ s = o i ∧ A 9 (o i) = z) := by
    intro s s0 s1
    have m := made_iff (A := A) s0 s1
    rw [cell_in s0 (by omega)]
    constructor
    · rintro ⟨q, q2⟩
      obtain ⟨j, a, c, d⟩ := h.2.2 s s0 s1 (Decidable.byContradiction (fun y => q (m.mpr y)))
      exact ⟨j, a, c, d.symm, by rw [d]; exact q2⟩
    · rintro ⟨j, a, c, d, f⟩
      rw [d] at m ⊢
      exact ⟨fun z => (m.mp z) (h.1 j a c).2.1.1, f⟩
  unfold v_X4_slotOf
  rcases firstN_spec (fun k => decide (¬ v_X4_isMade A k = 0 ∧ v_X5_cell A 9 4 k = z)) 4 with ⟨a, f⟩ | ⟨a, d, f, _⟩
  · refine Or.inl ⟨a, fun i i0 i1 e => ?_⟩
    have oi := (h.1 i i0 i1).1
    exact (of_decide_eq_false (f (o i) oi.1 (by omega))) ((pr (o i) oi.1 oi.2).mpr ⟨i, i0, i1, rfl, e⟩)
  · obtain ⟨i, i0, i1, i2, i3⟩ := (pr _ a (by omega)).mp (of_decide_eq_true f)
    exact Or.inr ⟨i, i0, i1, i2, i3⟩
/-! the layout sees the font's first rows alone -/
theorem layW_cg {A B : hGM} (e : ∀ i : Nat, i < 7 → B i = A i) (g z k : Int) : layW B g z k = layW A g z k := by
  unfold layW v_X1_wideOf v_X1_snapOf
  rw [e 4 (by decide), e 6 (by decide), e 0 (by decide)]
theorem rounded_cg {A B : hGM} (e : ∀ i : Nat, i < 7 → B i = A i) (n z w : Int) : v_X0_rounded B n z w = v_X0_rounded A n z w := by
  unfold v_X0_rounded v_X5_cell
  rw [e 3 (by decide), e 4 (by decide), e 5 (by decide)]
theorem layL_cg {A B : hGM} (e : ∀ i : Nat, i < 7 → B i = A i) (g z : Int) (k : Nat) : layL B g z k = layL A g z k := by
  induction k with
  | zero =>
    show v_X0_rounded B (g * 6 + 0) z (layW B g z 0) = v_X0_rounded A (g * 6 + 0) z (layW A g z 0)
    rw [layW_cg e, rounded_cg e]
  | succ k ih =>
    have eR : ∀ r : Int, layR B g z k r = layR A g z k r := fun r => by
      unfold layR layG
      rw [e 5 (by decide), e 3 (by decide), e 4 (by decide), e 0 (by decide), layW_cg e, rounded_cg e]
    have eM : ∀ r : Int, layM B g k r = layM A g k r := fun r => by
      unfold layM layG
      rw [e 3 (by decide), e 4 (by decide)]
    unfold layL
    rw [ih, layW_cg e, eR, eM]
theorem litV_cg {A B : hGM} (e : ∀ i : Nat, i < 7 → B i = A i) (g z : Int) (n : Nat) : litV B g z n = litV A g z n := by
  induction n with
  | zero => rfl
  | succ n ih =>
    unfold litV
    rw [ih, layL_cg e, layW_cg e, e 1 (by decide)]
/-- what the class's making leaves -/
theorem mkS_c (A T : hGM) {z s : Int} (s0 : 0 ≤ s) (s1 : s < 4) (n : Nat) (hn : n ≤ 8) :
    (∀ g : Int, 0 ≤ g → g < n → (mkS A T z s n).1 11 (s * 8 + g) = v_X0_columnsOf (A 1 g) z ∧ (mkS A T z s n).1 112 (s * 8 + g) = litV A g z (A 2 g).toNat) ∧
    (∀ q : Int, q < s * 8 ∨ s * 8 + 8 ≤ q → (mkS A T z s n).1 11 q = A 11 q ∧ (mkS A T z s n).1 112 q = A 112 q) ∧
    (∀ i : Nat, 7 ≤ i → i ≤ 10 → (mkS A T z s n).1 i = m_X4_begin A s z (A 0 0) i) := by
  induction n with
  | zero =>
    have e0 : (mkS A T z s 0).1 = m_X4_begin A s z (A 0 0) := rfl
    rw [e0, begin_eq s0 s1]
    refine ⟨fun g a b => by omega, fun q hq => ?_, fun _ _ _ => rfl⟩
    rw [aset_row (by decide), aset_row (by decide), aset_row (by decide), aset_row (by decide), aset_row (by decide), aset_row (by decide), aset_row (by decide), aset_row (by decide)]
    exact ⟨rfl, rfl⟩
  | succ n ih =>
    obtain ⟨i1, i2, i3⟩ := ih (by omega)
    have er : ∀ i : Nat, i < 7 → (mkS A T z s n).1 i = A i := fun i hi => mkS_row A T z s n hi
    have eS : (mkS A T z s (n + 1)).1 = m_X4_keep (mkS A T z s n).1 (s * 8 + n) ((m_X0_lay (mkS A T z s n).1 (mkS A T z s n).2 n z) 0 0) ((m_X0_lay (mkS A T z s n).1 (mkS A T z s n).2 n z) 100 0) := rfl
    have c0 : m_X0_lay (mkS A T z s n).1 (mkS A T z s n).2 n z 0 0 = v_X0_columnsOf (A 1 n) z := by
      have := layT_00 (mkS A T z s n).1 (mkS A T z s n).2 n z ((mkS A T z s n).1 2 n).toNat
      rw [er 1 (by decide)] at this
      exact this
    have c1 : m_X0_lay (mkS A T z s n).1 (mkS A T z s n).2 n z 100 0 = litV A n z (A 2 n).toNat := by
      rw [lay_lit, litV_cg er, er 2 (by decide)]
    rw [eS, c0, c1, keep_eq (by omega) (by omega)]
    clear eS c0 c1
    generalize (mkS A T z s n).1 = A' at i1 i2 i3 er ⊢
    refine ⟨fun g a b => ?_, fun q hq => ?_, fun i a b => ?_⟩
    · rw [aset_row (i := 112) (j := 11) (by decide)]
      by_cases e : g = n
      · rw [e, aset_at, aset_at]; exact ⟨rfl, rfl⟩
      · rw [aset_ne (i := 11) (by omega), aset_ne (i := 112) (by omega), aset_row (i := 11) (j := 112) (by decide)]
        exact i1 g a (by omega)
    · rw [aset_row (i := 112) (j := 11) (by decide), aset_ne (i := 11) (by omega), aset_ne (i := 112) (by omega), aset_row (i := 11) (j := 112) (by decide)]
      exact i2 q hq
    · rw [aset_row (by omega), aset_row (by omega)]
      exact i3 i a b
theorem make_core {A P P' T : hGM} {s z to : Int} (h : RLA A P) (b7 : 0 ≤ A 7 0) (s0 : 0 ≤ s) (s1 : s < 4) (z0 : 6 ≤ z) (z1 : z ≤ 48) (t0 : 0 ≤ to) (t1 : to ≤ 3) (od : Int → Int)
    (k1 : ∀ i : Int, 0 ≤ i → i < to → (0 ≤ od i ∧ od i < 4) ∧ ¬ od i = s ∧ (1 ≤ A 8 (od i) ∧ A 8 (od i) ≤ A 7 0) ∧ ShL A P' (od i) i ∧ ¬ A 9 (od i) = z)
    (k2 : ∀ i j : Int, 0 ≤ i → i < j → j < to → A 8 (od i) < A 8 (od j) ∧ ¬ A 9 (od i) = A 9 (od j))
    (k3 : ∀ t : Int, 0 ≤ t → t < 4 → 1 ≤ A 8 t → ¬ t = s → ∃ i : Int, 0 ≤ i ∧ i < to ∧ od i = t)
    (new : P' 8 to = z ∧ P' 9 to = A 0 0 ∧ ∀ g : Int, 0 ≤ g → g < A 0 0 → P' 10 (8 * to + g) = v_X0_columnsOf (A 1 g) z ∧ P' 111 (8 * to + g) = litV A g z (A 2 g).toNat)
    (zr : ∀ i : Int, to < i → i < 4 → P' 8 i = 0) (p0 : RL0 A P') (p13 : P' 1 3 = P 1 3 + 1) :
    RLA (mkS A T z s (A 0 0).toNat).1 P' ∧ v_X4_held (mkS A T z s (A 0 0).toNat).1 = to + 1 ∧ (mkS A T z s (A 0 0).toNat).1 7 0 = A 7 0 + 1 := by
  have ng := rl_g h.1
  have hs := h.2.2.1
  have er : ∀ i : Nat, i < 7 → (mkS A T z s (A 0 0).toNat).1 i = A i := fun i hi => mkS_row A T z s _ hi
  obtain ⟨l1, l2, l3⟩ := mkS_c A T (z := z) s0 s1 (A 0 0).toNat (by omega)
  rw [begin_eq s0 s1] at l3
  generalize (mkS A T z s (A 0 0).toNat).1 = B at er l1 l2 l3 ⊢
  have d7 : B 7 0 = A 7 0 + 1 := by rw [l3 7 (by decide) (by decide), aset_row (by decide), aset_row (by decide), aset_row (by decide), aset_at]
  have d8 : ∀ t : Int, B 8 t = if t = s then A 7 0 + 1 else A 8 t := fun t => by
    rw [l3 8 (by decide) (by decide), aset_row (by decide), aset_row (by decide)]
    by_cases e : t = s
    · rw [if_pos e, e, aset_at]
    · rw [if_neg e, aset_ne (by omega), aset_row (by decide)]
  have d9 : ∀ t : Int, B 9 t = if t = s then z else A 9 t := fun t => by
    rw [l3 9 (by decide) (by decide), aset_row (by decide)]
    by_cases e : t = s
    · rw [if_pos e, e, aset_at]
    · rw [if_neg e, aset_ne (by omega), aset_row (by decide), aset_row (by decide)]
  have d10 : ∀ t : Int, B 10 t = if t = s then A 0 0 else A 10 t := fun t => by
    rw [l3 10 (by decide) (by decide)]
    by_cases e : t = s
    · rw [if_pos e, e, aset_at]
    · rw [if_neg e, aset_ne (by omega), aset_row (by decide), aset_row (by decide), aset_row (by decide)]
  have hord : OrdL B P' (to + 1) (fun i => if i < to then od i else s) := by
    refine ⟨fun i i0 i1 => ?_, fun i j i0 ij j1 => ?_, fun t t0 t1 t2 => ?_⟩
    · show (0 ≤ (if i < to then od i else s) ∧ (if i < to then od i else s) < 4) ∧ (1 ≤ B 8 (if i < to then od i else s) ∧ B 8 (if i < to then od i else s) ≤ B 7 0) ∧ ShL B P' (if i < to then od i else s) i
      by_cases c : i < to
      · rw [if_pos c]
        obtain ⟨a1, a2, a3, a4, a5⟩ := k1 i i0 c
        refine ⟨a1, ?_, ?_⟩
        · rw [d8, if_neg a2, d7]; omega
        · unfold ShL at a4 ⊢
          rw [d9, d10, if_neg a2, if_neg a2, er 0 (by decide)]
          refine ⟨a4.1, a4.2.1, a4.2.2.1, a4.2.2.2.1, fun g g0 g1 => ?_⟩
          have q := l2 (od i * 8 + g) (by omega)
          rw [q.1, q.2]
          exact a4.2.2.2.2 g g0 g1
      · have e : i = to := by omega
        rw [if_neg c, e]
        refine ⟨⟨s0, s1⟩, ?_, ?_⟩
        · rw [d8, if_pos rfl, d7]; omega
        · unfold ShL
          rw [d9, d10, if_pos rfl, if_pos rfl, er 0 (by decide)]
          refine ⟨new.1.symm, ⟨z0, z1⟩, new.2.1.symm, ⟨by omega, by omega⟩, fun g g0 g1 => ?_⟩
          have q := l1 g g0 (by omega)
          have w := new.2.2 g g0 g1
          exact ⟨q.1.trans w.1.symm, q.2.trans w.2.symm⟩
    · show B 8 (if i < to then od i else s) < B 8 (if j < to then od j else s) ∧ ¬ B 9 (if i < to then od i else s) = B 9 (if j < to then od j else s)
      have ci : i < to := by omega
      obtain ⟨a1, a2, a3, a4, a5⟩ := k1 i i0 ci
      rw [if_pos ci, d8, d9, if_neg a2, if_neg a2]
      by_cases c : j < to
      · obtain ⟨b1, b2, b3, b4, b5⟩ := k1 j (by omega) c
        rw [if_pos c, d8, d9, if_neg b2, if_neg b2]
        exact k2 i j i0 ij c
      · rw [if_neg c, d8, d9, if_pos rfl, if_pos rfl]
        exact ⟨by omega, a5⟩
    · rw [d8] at t2
      by_cases e : t = s
      · refine ⟨to, by omega, by omega, ?_⟩
        show (if to < to then od to else s) = t
        rw [if_neg (by omega), e]
      · rw [if_neg e] at t2
        obtain ⟨i, i0, i1, i2⟩ := k3 t t0 t1 t2 e
        refine ⟨i, i0, by omega, ?_⟩
        show (if i < to then od i else s) = t
        rw [if_pos i1]; exact i2
  refine ⟨⟨?_, by rw [p13, d7, h.2.1], fun t a b => ?_, to + 1, _, ⟨by omega, by omega⟩, fun i a b => zr i (by omega) b, hord⟩, held_rel hord ⟨by omega, by omega⟩, d7⟩
  · unfold RL0 at p0 ⊢
    refine ⟨fNum_of p0.1 er, ?_⟩
    rw [er 0 (by decide), er 1 (by decide), er 2 (by decide), er 3 (by decide), er 4 (by decide), er 5 (by decide), er 6 (by decide)]
    exact p0.2
  · rw [d8]
    by_cases e : t = s
    · rw [if_pos e]; omega
    · rw [if_neg e]; exact hs t a b
/-- the law's place of a size, and how many sheets there are -/
theorem sh_all {A P : hGM} {N : Int} {o : Int → Int} (h : OrdL A P N o) (b : 0 ≤ N ∧ N ≤ 4) (hz : ∀ i : Int, N ≤ i → i < 4 → P 8 i = 0) : (∀ i : Int, 0 ≤ i → i < N → P 8 i = A 9 (o i) ∧ 6 ≤ P 8 i) ∧ shN P 4 = N := by
  have q : ∀ i : Int, 0 ≤ i → i < N → P 8 i = A 9 (o i) ∧ 6 ≤ P 8 i := fun i i0 i1 => by
    have w := (h.1 i i0 i1).2.2
    exact ⟨w.1.symm, by rw [← w.1]; exact w.2.1.1⟩
  refine ⟨q, ?_⟩
  have s4 := shN_4 P
  have k : ∀ i : Int, 0 ≤ i → i < 4 → (if P 8 i ≤ 0 then (0 : Int) else 1) = if i < N then 1 else 0 := fun i i0 i1 => by
    by_cases c : i < N
    · have := (q i i0 c).2
      rw [if_pos c, if_neg (by omega)]
    · have := hz i (by omega) i1
      rw [if_neg c, if_pos (by omega)]
  rw [k 0 (by decide) (by decide), k 1 (by decide) (by decide), k 2 (by decide) (by decide), k 3 (by decide) (by decide)] at s4
  rw [s4]
  rcases (show N = 0 ∨ N = 1 ∨ N = 2 ∨ N = 3 ∨ N = 4 by omega) with rfl | rfl | rfl | rfl | rfl <;> decide
/-- a shifted row of the law -/
theorem shG_8 (P : hGM) (f i : Int) (r : Nat) (hr : r = 8 ∨ r = 9) : shG P f 3 24 r i = if f ≤ i ∧ i < 3 then P r (i + 1) else P r i := by
  unfold shG
  by_cases c : f ≤ i ∧ i < 3
  · rw [if_pos ⟨hr, c⟩, if_pos c]
  · rw [if_neg (fun z => c z.2), if_neg (by omega), if_neg c]
theorem shG_10 (P : hGM) (f i g : Int) (r : Nat) (hr : r = 10 ∨ r = 111) (g0 : 0 ≤ g) (g1 : g < 8) : shG P f 3 24 r (8 * i + g) = if f ≤ i ∧ i < 3 then P r (8 * (i + 1) + g) else P r (8 * i + g) := by
  unfold shG
  by_cases c : f ≤ i ∧ i < 3
  · rw [if_neg (by omega), if_pos (by omega), if_pos c]
    exact congrArg (P r) (by omega)
  · rw [if_neg (by omega), if_neg (by omega), if_neg c]
theorem fiG_8 (A M : hGM) (to z q : Int) : fiG A M to z 8 8 q = if q = to then z else M 8 q := by
  unfold fiG
  by_cases c : q = to
  · rw [if_pos ⟨rfl, c⟩, if_pos c]
  · rw [if_neg (by omega), if_neg (by omega), if_neg (by omega), if_neg (by omega), if_neg c]
theorem fiG_9 (A M : hGM) (to z q : Int) : fiG A M to z 8 9 q = if q = to then A 0 0 else M 9 q := by
  unfold fiG
  by_cases c : q = to
  · rw [if_neg (by omega), if_pos ⟨rfl, c⟩, if_pos c]
  · rw [if_neg (by omega), if_neg (by omega), if_neg (by omega), if_neg (by omega), if_neg c]
theorem fiG_10 (A M : hGM) (to z i g : Int) (g0 : 0 ≤ g) (g1 : g < 8) : fiG A M to z 8 10 (8 * i + g) = if i = to then (if g < A 0 0 then v_X0_columnsOf (A 1 g) z else 0) else M 10 (8 * i + g) := by
  unfold fiG
  by_cases c : i = to
  · rw [if_neg (by omega), if_neg (by omega), if_pos (by omega), if_pos c, show 8 * i + g - 8 * to = g by omega]
  · rw [if_neg (by omega), if_neg (by omega), if_neg (by omega), if_neg (by omega), if_neg c]
theorem fiG_11 (A M : hGM) (to z i g : Int) (g0 : 0 ≤ g) (g1 : g < 8) : fiG A M to z 8 111 (8 * i + g) = if i = to then (if g < A 0 0 then litV A g z (A 2 g).toNat else 0) else M 111 (8 * i + g) := by
  unfold fiG
  by_cases c : i = to
  · rw [if_neg (by omega), if_neg (by omega), if_neg (by omega), if_pos (by omega), if_pos c, show 8 * i + g - 8 * to = g by omega]
  · rw [if_neg (by omega), if_neg (by omega), if_neg (by omega), if_neg (by omega), if_neg c]
theorem rl_make {A P T : hGM} {z : Int} (h : RLA A P) (b7 : 0 ≤ A 7 0) (z0 : 6 ≤ z) (z1 : z ≤ 48) : RLA (mkS A T z (v_X4_slotToMake A z) (A 0 0).toNat).1 (m_L_make A P z) ∧ v_X4_held (mkS A T z (v_X4_slotToMake A z) (A 0 0).toNat).1 = toL P z + 1 ∧ (mkS A T z (v_X4_slotToMake A z) (A 0 0).toNat).1 7 0 = A 7 0 + 1 := by
  have ng := rl_g h.1
  obtain ⟨-, N, o, hN, hz, hord⟩ := h.2.2
  obtain ⟨h8, hsh⟩ := sh_all hord hN hz
  have sb := slotToMake_bd A z
  have tb := toL_bd (P := P) (z := z) (by omega)
  have held := held_rel hord hN
  -- the law's rows
  have m8 : ∀ q : Int, m_L_make A P z 8 q = if q = toL P z then z else (if frN P z 4 ≤ q ∧ q < 3 then P 8 (q + 1) else P 8 q) := fun q => by
    unfold m_L_make
    rw [aset_row (by decide), fiG_8, shG_8 _ _ _ _ (Or.inl rfl)]
  have m9 : ∀ q : Int, m_L_make A P z 9 q = if q = toL P z then A 0 0 else (if frN P z 4 ≤ q ∧ q < 3 then P 9 (q + 1) else P 9 q) := fun q => by
    unfold m_L_make
    rw [aset_row (by decide), fiG_9, shG_8 _ _ _ _ (Or.inr rfl)]
  have m10 : ∀ i g : Int, 0 ≤ g → g < 8 → m_L_make A P z 10 (8 * i + g) = if i = toL P z then (if g < A 0 0 then v_X0_columnsOf (A 1 g) z else 0) else (if frN P z 4 ≤ i ∧ i < 3 then P 10 (8 * (i + 1) + g) else P 10 (8 * i + g)) := fun i g a b => by
    unfold m_L_make
    rw [aset_row (by decide), fiG_10 _ _ _ _ _ _ a b, shG_10 _ _ _ _ _ (Or.inl rfl) a b]
  have m11 : ∀ i g : Int, 0 ≤ g → g < 8 → m_L_make A P z 111 (8 * i + g) = if i = toL P z then (if g < A 0 0 then litV A g z (A 2 g).toNat else 0) else (if frN P z 4 ≤ i ∧ i < 3 then P 111 (8 * (i + 1) + g) else P 111 (8 * i + g)) := fun i g a b => by
    unfold m_L_make
    rw [aset_row (by decide), fiG_11 _ _ _ _ _ _ a b, shG_10 _ _ _ _ _ (Or.inr rfl) a b]
  have mlo : ∀ i : Nat, 2 ≤ i → i ≤ 7 → m_L_make A P z i = P i := fun i a b => by
    unfold m_L_make
    rw [aset_row (by omega), fiG_lo (by omega), shG_lo (by omega)]
  have m1 : ∀ k : Int, k ≠ 3 → m_L_make A P z 1 k = P 1 k := fun k hk => by
    unfold m_L_make
    rw [aset_ne (by omega), fiG_lo (by decide), shG_lo (by decide)]
  have m13 : m_L_make A P z 1 3 = P 1 3 + 1 := by unfold m_L_make; rw [aset_at]
  have p0 : RL0 A (m_L_make A P z) := RL0_of h.1 ⟨m1 0 (by decide), m1 1 (by decide), m1 2 (by decide)⟩ mlo
  have new : m_L_make A P z 8 (toL P z) = z ∧ m_L_make A P z 9 (toL P z) = A 0 0 ∧ ∀ g : Int, 0 ≤ g → g < A 0 0 → m_L_make A P z 10 (8 * toL P z + g) = v_X0_columnsOf (A 1 g) z ∧ m_L_make A P z 111 (8 * toL P z + g) = litV A g z (A 2 g).toNat := by
    refine ⟨by rw [m8, if_pos rfl], by rw [m9, if_pos rfl], fun g a b => ?_⟩
    rw [m10 _ _ a (by omega), m11 _ _ a (by omega), if_pos rfl, if_pos rfl, if_pos b, if_pos b]
    exact ⟨rfl, rfl⟩
  generalize m_L_make A P z = P' at m8 m9 m10 m11 m13 p0 new ⊢
  clear m1 mlo
  -- a sheet that stays, at its new place
  have stay : ∀ i j : Int, 0 ≤ j → j < N → ¬ i = toL P z → ((frN P z 4 ≤ i ∧ i < 3) ∧ j = i + 1 ∨ ¬ (frN P z 4 ≤ i ∧ i < 3) ∧ j = i) → ShL A P' (o j) i := by
    intro i j j0 j1 it hj
    have w := (hord.1 j j0 j1).2.2
    unfold ShL at w ⊢
    have w100 := w.2.2.2.1
    rcases hj with ⟨c, e⟩ | ⟨c, e⟩
    · rw [m8, m9, if_neg it, if_neg it, if_pos c, if_pos c, ← e]
      refine ⟨w.1, w.2.1, w.2.2.1, w.2.2.2.1, fun g g0 g1 => ?_⟩
      rw [m10 _ _ g0 (by omega), m11 _ _ g0 (by omega), if_neg it, if_neg it, if_pos c, if_pos c, ← e]
      exact w.2.2.2.2 g g0 g1
    · rw [m8, m9, if_neg it, if_neg it, if_neg c, if_neg c, ← e]
      refine ⟨w.1, w.2.1, w.2.2.1, w.2.2.2.1, fun g g0 g1 => ?_⟩
      rw [← e] at it c
      rw [m10 _ _ g0 (by omega), m11 _ _ g0 (by omega), if_neg it, if_neg it, if_neg c, if_neg c]
      exact w.2.2.2.2 g g0 g1
  -- a sheet k goes: all behind it move up
  have gone : ∀ k : Int, 0 ≤ k → k < N → frN P z 4 = k → toL P z = N - 1 → v_X4_slotToMake A z = o k → (∀ i : Int, 0 ≤ i → i < N → ¬ i = k → ¬ A 9 (o i) = z) → RLA (mkS A T z (v_X4_slotToMake A z) (A 0 0).toNat).1 P' ∧ v_X4_held (mkS A T z (v_X4_slotToMake A z) (A 0 0).toNat).1 = toL P z + 1 ∧ (mkS A T z (v_X4_slotToMake A z) (A 0 0).toNat).1 7 0 = A 7 0 + 1 := by
    intro k k0 k1 fk tN sk hne
    have oi : ∀ i : Int, (if i < k then o i else o (i + 1)) = o (if i < k then i else i + 1) := fun i => by split <;> rfl
    refine make_core h b7 sb.1 sb.2 z0 z1 tb.1 tb.2 (fun i => if i < k then o i else o (i + 1)) (fun i i0 i1 => ?_) (fun i j i0 ij j1 => ?_) (fun t a b c d => ?_) new (fun i a b => ?_) p0 m13
    · show (0 ≤ (if i < k then o i else o (i + 1)) ∧ (if i < k then o i else o (i + 1)) < 4) ∧ ¬ (if i < k then o i else o (i + 1)) = v_X4_slotToMake A z ∧ (1 ≤ A 8 (if i < k then o i else o (i + 1)) ∧ A 8 (if i < k then o i else o (i + 1)) ≤ A 7 0) ∧ ShL A P' (if i < k then o i else o (i + 1)) i ∧ ¬ A 9 (if i < k then o i else o (i + 1)) = z
      rw [sk]
      by_cases c : i < k
      · rw [if_pos c]
        have q := hord.1 i i0 (by omega)
        exact ⟨q.1, fun e => by have := ord_eq hord i0 (by omega) k0 k1 e; omega, q.2.1, stay i i i0 (by omega) (by omega) (Or.inr ⟨by omega, rfl⟩), hne i i0 (by omega) (by omega)⟩
      · rw [if_neg c]
        have q := hord.1 (i + 1) (by omega) (by omega)
        exact ⟨q.1, fun e => by have := ord_eq hord (by omega) (by omega) k0 k1 e; omega, q.2.1, stay i (i + 1) (by omega) (by omega) (by omega) (Or.inl ⟨by omega, rfl⟩), hne (i + 1) (by omega) (by omega) (by omega)⟩
    · show A 8 (if i < k then o i else o (i + 1)) < A 8 (if j < k then o j else o (j + 1)) ∧ ¬ A 9 (if i < k then o i else o (i + 1)) = A 9 (if j < k then o j else o (j + 1))
      by_cases c : i < k
      · rw [if_pos c]
        by_cases d : j < k
        · rw [if_pos d]; exact hord.2.1 i j i0 ij (by omega)
        · rw [if_neg d]; exact hord.2.1 i (j + 1) i0 (by omega) (by omega)
      · rw [if_neg c, if_neg (show ¬ j < k by omega)]
        exact hord.2.1 (i + 1) (j + 1) (by omega) (by omega) (by omega)
    · obtain ⟨i, i0, i1, i2⟩ := hord.2.2 t a b c
      have ik : ¬ i = k := fun e => d (by rw [sk, ← e, i2])
      by_cases c : i < k
      · refine ⟨i, i0, by omega, ?_⟩
        show (if i < k then o i else o (i + 1)) = t
        rw [if_pos c]; exact i2
      · refine ⟨i - 1, by omega, by omega, ?_⟩
        show (if i - 1 < k then o (i - 1) else o (i - 1 + 1)) = t
        rw [if_neg (by omega), show i - 1 + 1 = i by omega]; exact i2
    · rw [m8, if_neg (by omega)]
      by_cases c : frN P z 4 ≤ i ∧ i < 3
      · rw [if_pos c]; exact hz (i + 1) (by omega) (by omega)
      · rw [if_neg c]; exact hz i (by omega) b
  -- the slot with the least turn
  have mn : ∀ j : Int, 0 ≤ j → j < 4 → A 8 (leastAt (fun k => v_X5_cell A 8 4 k) 4) ≤ A 8 j := by
    intro j a b
    have q := leastAt_min (fun k => v_X5_cell A 8 4 k) 4 j a b
    have lb := leastAt_lt (fun k => v_X5_cell A 8 4 k) 3
    have lb2 := leastAt_bd (fun k => v_X5_cell A 8 4 k) 4
    have q : v_X5_cell A 8 4 (leastAt (fun k => v_X5_cell A 8 4 k) 4) ≤ v_X5_cell A 8 4 j := q
    rw [cell_in lb2.1 (by omega), cell_in a (by omega)] at q
    exact q
  have h4 : v_X4_held A = (if v_X4_isMade A 0 = 0 then 0 else 1) + (if v_X4_isMade A 1 = 0 then 0 else 1) + (if v_X4_isMade A 2 = 0 then 0 else 1) + (if v_X4_isMade A 3 = 0 then 0 else 1) := by
    show (0 : Int) + _ + _ + _ + _ = _
    rw [Int.zero_add]
    rfl
  have mk0 := made_iff (A := A) (k := 0) (by decide) (by decide)
  have mk1 := made_iff (A := A) (k := 1) (by decide) (by decide)
  have mk2 := made_iff (A := A) (k := 2) (by decide) (by decide)
  have mk3 := made_iff (A := A) (k := 3) (by decide) (by decide)
  rcases slotOf_c hord hN z with ⟨b, c⟩ | ⟨k, k0, k1, c, d⟩
  · have es : v_X4_slotToMake A z = leastAt (fun k => v_X5_cell A 8 4 k) 4 := by unfold v_X4_slotToMake; rw [b, if_pos (by decide)]
    have q0 := mn 0 (by decide) (by decide)
    have q1 := mn 1 (by decide) (by decide)
    have q2 := mn 2 (by decide) (by decide)
    have q3 := mn 3 (by decide) (by decide)
    rw [← es] at q0 q1 q2 q3
    have fr : frN P z 4 = if P 8 3 ≤ 0 then 4 else 0 := by
      rcases frN_mem P z 4 with ⟨k, a1, a2, a3⟩ | ⟨a1, a2⟩
      · exfalso
        by_cases kn : (k : Int) < N
        · exact c k (by omega) kn (by rw [← (h8 k (by omega) kn).1]; exact a3)
        · have := hz k (by omega) (by omega)
          omega
      · exact a2
    by_cases f : N = 4
    · have p83 := (h8 3 (by decide) (by omega)).2
      rw [if_neg (by omega)] at fr
      have tN : toL P z = N - 1 := by unfold toL; rw [fr, if_pos (by decide), hsh]
      have s8 : 1 ≤ A 8 (v_X4_slotToMake A z) := by
        refine Decidable.byContradiction (fun y => ?_)
        have e4 : v_X4_slotToMake A z = 0 ∨ v_X4_slotToMake A z = 1 ∨ v_X4_slotToMake A z = 2 ∨ v_X4_slotToMake A z = 3 := by omega
        have i01 : ∀ x : Int, (if x = 0 then (0 : Int) else 1) ≤ 1 := fun x => by split <;> decide
        have j0 := i01 (v_X4_isMade A 0)
        have j1 := i01 (v_X4_isMade A 1)
        have j2 := i01 (v_X4_isMade A 2)
        have j3 := i01 (v_X4_isMade A 3)
        rcases e4 with e | e | e | e
        · rw [e] at y; rw [if_pos (mk0.mpr y)] at h4; omega
        · rw [e] at y; rw [if_pos (mk1.mpr y)] at h4; omega
        · rw [e] at y; rw [if_pos (mk2.mpr y)] at h4; omega
        · rw [e] at y; rw [if_pos (mk3.mpr y)] at h4; omega
      obtain ⟨i, i0, i1, i2⟩ := hord.2.2 _ sb.1 sb.2 s8
      have oz := (hord.1 0 (by decide) (by omega)).1
      have le : A 8 (v_X4_slotToMake A z) ≤ A 8 (o 0) := by rw [es]; exact mn (o 0) oz.1 oz.2
      have ei : i = 0 := by
        by_cases e : i = 0
        · exact e
        · have := (hord.2.1 0 i (by decide) (by omega) i1).1
          rw [i2] at this; omega
      rw [ei] at i2
      exact gone 0 (by decide) (by omega) fr tN i2.symm (fun j j0 j1 _ => c j j0 j1)
    · have p83 := hz 3 (by omega) (by decide)
      rw [if_pos (by omega)] at fr
      have tN : toL P z = N := by unfold toL; rw [fr, if_neg (by decide), hsh]
      have s8 : ¬ 1 ≤ A 8 (v_X4_slotToMake A z) := by
        intro y
        rw [if_neg (fun w => (mk0.mp w) (by omega)), if_neg (fun w => (mk1.mp w) (by omega)), if_neg (fun w => (mk2.mp w) (by omega)), if_neg (fun w => (mk3.mp w) (by omega))] at h4
        omega
      refine make_core h b7 sb.1 sb.2 z0 z1 tb.1 tb.2 o (fun i i0 i1 => ?_) (fun i j i0 ij j1 => hord.2.1 i j i0 ij (by omega)) (fun t a b c d => ?_) new (fun i a b => ?_) p0 m13
      · have q := hord.1 i i0 (by omega)
        exact ⟨q.1, fun e => s8 (by rw [← e]; exact q.2.1.1), q.2.1, stay i i i0 (by omega) (by omega) (Or.inr ⟨by omega, rfl⟩), c i i0 (by omega)⟩
      · obtain ⟨i, i0, i1, i2⟩ := hord.2.2 t a b c
        exact ⟨i, i0, by omega, i2⟩
      · rw [m8, if_neg (by omega), if_neg (by omega)]
        exact hz i (by omega) b
  · have ok := (hord.1 k k0 k1).1
    have es : v_X4_slotToMake A z = o k := by unfold v_X4_slotToMake; rw [c, if_neg (by omega)]
    have p8k : P 8 k = z := by rw [(h8 k k0 k1).1]; exact d
    have uniq : ∀ j : Int, 0 ≤ j → j < N → P 8 j = z → j = k := fun j j0 j1 e => by
      have e : A 9 (o j) = z := by rw [← (h8 j j0 j1).1]; exact e
      rcases Int.lt_trichotomy j k with y | y | y
      · exact absurd (e.trans d.symm) (hord.2.1 j k j0 y k1).2
      · exact y
      · exact absurd (d.trans e.symm) (hord.2.1 k j k0 y j1).2
    have fr : frN P z 4 = k := by
      rcases frN_mem P z 4 with ⟨j, a1, a2, a3⟩ | ⟨a1, a2⟩
      · have jN : (j : Int) < N := by
          by_cases jn : (j : Int) < N
          · exact jn
          · have := hz j (by omega) (by omega)
            omega
        rw [a2]; exact uniq j (by omega) jN a3
      · exact absurd (by rw [Int.toNat_of_nonneg k0]; exact p8k) (a1 k.toNat (by omega))
    have tN : toL P z = N - 1 := by unfold toL; rw [fr, if_pos (by omega), hsh]
    exact gone k k0 k1 fr tN es (fun j j0 j1 jk e => jk (uniq j j0 j1 (by rw [(h8 j j0 j1).1]; exact e)))

/-! sheets: the order in which they were made, their slots, what they tell -/
def Ord (A : hGM) (r : Int → Int) (o : Int → Int) : Prop :=
  (∀ i : Int, 0 ≤ i → i < r 7 → (0 ≤ o i ∧ o i < 4) ∧ (1 ≤ A 8 (o i) ∧ A 8 (o i) ≤ A 7 0) ∧ ShR A r (o i) i) ∧
  (∀ i j : Int, 0 ≤ i → i < j → j < r 7 → A 8 (o i) < A 8 (o j) ∧ ¬ A 9 (o i) = A 9 (o j)) ∧
  (∀ s : Int, 0 ≤ s → s < 4 → 1 ≤ A 8 s → ∃ i : Int, 0 ≤ i ∧ i < r 7 ∧ o i = s)
theorem cnt_img (o : Int → Int) (n : Nat) (m : Nat) : ∀ (p : Int → Prop) (_ : DecidablePred p), (∀ i : Int, 0 ≤ i → i < m → 0 ≤ o i ∧ o i < n) → (∀ i j : Int, 0 ≤ i → i < j → j < m → ¬ o i = o j) → (∀ s : Int, 0 ≤ s → s < n → (p s ↔ ∃ i : Int, 0 ≤ i ∧ i < m ∧ o i = s)) → sumN (fun s => if p s then 1 else 0) n = m := by
  induction m with
  | zero =>
    intro p _ _ _ hp
    exact sumN_0 n (fun k a b => if_neg (fun z => by obtain ⟨i, i0, i1, _⟩ := (hp k a b).mp z; omega))
  | succ m ih =>
    intro p ip hr inj hp
    have i1 := ih (fun s => p s ∧ ¬ s = o m) (fun s => inferInstance) (fun i a b => hr i a (by omega)) (fun i j a b c => inj i j a b (by omega)) (fun s s0 s1 => by
      rw [hp s s0 s1]
      constructor
      · rintro ⟨⟨i, a, b, c⟩, d⟩
        refine ⟨i, a, ?_, c⟩
        by_cases e : i = m
        · subst e; exact absurd c.symm d
        · omega
      · rintro ⟨i, a, b, c⟩
        refine ⟨⟨i, a, by omega, c⟩, fun d => ?_⟩
        exact inj i m a b (by omega) (c.trans d))
    have rm := hr m (by omega) (by omega)
    rw [sumN_upd (f := fun s => if p s ∧ ¬ s = o m then 1 else 0) (f' := fun s => if p s then 1 else 0) (i := o m) n (fun k hk => by
      show (if p k then (1 : Int) else 0) = (if p k ∧ ¬ k = o m then 1 else 0)
      by_cases c : p k
      · rw [if_pos c, if_pos ⟨c, hk⟩]
      · rw [if_neg c, if_neg (fun z => c z.1)]), i1, if_pos rm]
    show (m : Int) + ((if p (o m) then (1 : Int) else 0) - (if p (o m) ∧ ¬ o m = o m then 1 else 0)) = _
    rw [if_pos ((hp (o m) rm.1 rm.2).mpr ⟨m, by omega, by omega, rfl⟩), if_neg (fun z => z.2 rfl)]
    omega
theorem made_iff {A : hGM} {k : Int} (k0 : 0 ≤ k) (k1 : k < 4) : v_X4_isMade A k = 0 ↔ ¬ 1 ≤ A 8 k := by
  unfold v_X4_isMade
  rw [cell_in k0 (by omega)]
  by_cases c : A 8 k ≤ 0
  · rw [if_pos c]; exact ⟨fun _ => by omega, fun _ => rfl⟩
  · rw [if_neg c]; exact ⟨fun z => absurd z (by decide), fun z => by omega⟩
theorem ord_inj {A : hGM} {r o : Int → Int} (h : Ord A r o) {i j : Int} (i0 : 0 ≤ i) (ij : i < j) (j1 : j < r 7) : ¬ o i = o j := by
  intro e
  have := (h.2.1 i j i0 ij j1).1
  rw [e] at this
  omega
theorem ord_eq {A : hGM} {r o : Int → Int} (h : Ord A r o) {i j : Int} (i0 : 0 ≤ i) (i1 : i < r 7) (j0 : 0 ≤ j) (j1 : j < r 7) (e : o i = o j) : i = j := by
  rcases Int.lt_trichotomy i j with c | c | c
  · exact absurd e (ord_inj h i0 c j1)
  · exact c
  · exact absurd e.symm (ord_inj h j0 c i1)
theorem held_rel {A : hGM} {r o : Int → Int} (h : Ord A r o) (b : 0 ≤ r 7 ∧ r 7 ≤ 4) : v_X4_held A = r 7 := by
  have key := cnt_img o 4 (r 7).toNat (fun s => 1 ≤ A 8 s) (fun s => inferInstance) (fun i a c => (h.1 i a (by omega)).1) (fun i j a c d => ord_inj h a c (by omega)) (fun s s0 s1 => by
    constructor
    · intro q
      obtain ⟨i, a, c, d⟩ := h.2.2 s s0 (by omega) q
      exact ⟨i, a, by omega, d⟩
    · rintro ⟨i, a, c, d⟩
      rw [← d]; exact (h.1 i a (by omega)).2.1.1)
  unfold v_X4_held
  rw [← (show (((r 7).toNat : Nat) : Int) = r 7 by omega), ← key]
  refine sumN_congr 4 (fun k a c => ?_)
  show (if v_X4_isMade A k = 0 then (0 : Int) else 1) = (if 1 ≤ A 8 k then 1 else 0)
  have m := made_iff (A := A) a (by omega)
  by_cases d : 1 ≤ A 8 k
  · rw [if_pos d, if_neg (fun z => (m.mp z) d)]
  · rw [if_neg d, if_pos (m.mpr d)]
theorem older_rel {A : hGM} {r o : Int → Int} (h : Ord A r o) (b : 0 ≤ r 7 ∧ r 7 ≤ 4) {i : Int} (i0 : 0 ≤ i) (i1 : i < r 7) : v_X4_olderThan A (o i) = i := by
  have oi := (h.1 i i0 i1).1
  have key := cnt_img o 4 i.toNat (fun s => 1 ≤ A 8 s ∧ A 8 s < A 8 (o i)) (fun s => inferInstance) (fun j a c => (h.1 j a (by omega)).1) (fun j k a c d => ord_inj h a c (by omega)) (fun s s0 s1 => by
    constructor
    · rintro ⟨q, q2⟩
      obtain ⟨j, a, c, d⟩ := h.2.2 s s0 (by omega) q
      refine ⟨j, a, ?_, d⟩
      rcases Int.lt_trichotomy j i with e | e | e
      · omega
      · rw [← d, e] at q2; omega
      · have := (h.2.1 i j i0 e c).1
        rw [← d] at q2; omega
    · rintro ⟨j, a, c, d⟩
      rw [← d]; exact ⟨(h.1 j a (by omega)).2.1.1, (h.2.1 j i a (by omega) i1).1⟩)
  unfold v_X4_olderThan
  rw [show sumN (fun k => if ¬ v_X4_isMade A k = 0 ∧ v_X5_cell A 8 4 k < v_X5_cell A 8 4 (o i) then 1 else 0) 4 = sumN (fun s => if 1 ≤ A 8 s ∧ A 8 s < A 8 (o i) then 1 else 0) 4 from sumN_congr 4 (fun k a c => by
    show (if ¬ v_X4_isMade A k = 0 ∧ v_X5_cell A 8 4 k < v_X5_cell A 8 4 (o i) then (1 : Int) else 0) = (if 1 ≤ A 8 k ∧ A 8 k < A 8 (o i) then 1 else 0)
    have m := made_iff (A := A) a (by omega)
    rw [cell_in a (by omega), cell_in oi.1 (by omega)]
    by_cases d : 1 ≤ A 8 k ∧ A 8 k < A 8 (o i)
    · rw [if_pos d, if_pos ⟨fun z => (m.mp z) d.1, d.2⟩]
    · rw [if_neg d, if_neg (fun z => d ⟨Decidable.byContradiction (fun y => z.1 (m.mpr y)), z.2⟩)]), key]
  omega
theorem slotAt_rel {A : hGM} {r o : Int → Int} (h : Ord A r o) (b : 0 ≤ r 7 ∧ r 7 ≤ 4) {x : Int} (x0 : 0 ≤ x) : v_X4_slotAt A x = if x < r 7 then o x else -1 := by
  have pr : ∀ s : Int, 0 ≤ s → s < 4 → (¬ v_X4_isMade A s = 0 ∧ v_X4_olderThan A s = x ↔ x < r 7 ∧ s = o x) := by
    intro s s0 s1
    have m := made_iff (A := A) s0 s1
    constructor
    · rintro ⟨q, q2⟩
      obtain ⟨j, a, c, d⟩ := h.2.2 s s0 s1 (Decidable.byContradiction (fun y => q (m.mpr y)))
      rw [← d, older_rel h b a c] at q2
      rw [← q2]
      exact ⟨c, d.symm⟩
    · rintro ⟨q, q2⟩
      rw [q2] at m ⊢
      exact ⟨fun z => (m.mp z) (h.1 x x0 q).2.1.1, older_rel h b x0 q⟩
  unfold v_X4_slotAt
  by_cases c : x < r 7
  · have ox := (h.1 x x0 c).1
    rw [if_pos c]
    refine firstN_eq ox.1 (by omega) (decide_eq_true ((pr (o x) ox.1 ox.2).mpr ⟨c, rfl⟩)) (fun j j0 j1 => decide_eq_false (fun z => ?_))
    have := ((pr j j0 (by omega)).mp z).2
    omega
  · rw [if_neg c]
    exact firstN_none (fun j j0 j1 => decide_eq_false (fun z => c ((pr j j0 (by omega)).mp z).1))
theorem sheetAt_at {A P : hGM} {o : Int → Int} (h : Ord A (P 1) o) (b : 0 ≤ P 1 7 ∧ P 1 7 ≤ 4) (z : Int) : (v_X6_sheetAt P z = -1000004 ∧ v_X4_slotOf A z = -1 ∧ ∀ i : Int, 0 ≤ i → i < P 1 7 → ¬ A 9 (o i) = z) ∨ (0 ≤ v_X6_sheetAt P z ∧ v_X6_sheetAt P z < P 1 7 ∧ v_X4_slotOf A z = o (v_X6_sheetAt P z) ∧ A 9 (o (v_X6_sheetAt P z)) = z) := by
  have e : ∀ i : Int, 0 ≤ i → i < P 1 7 → v_X6_ofSheet P i 0 = A 9 (o i) := fun i a c => by
    unfold v_X6_ofSheet
    rw [Int.add_zero]
    exact (h.1 i a c).2.2.1.symm
  have pr : ∀ s : Int, 0 ≤ s → s < 4 → (¬ v_X4_isMade A s = 0 ∧ v_X5_cell A 9 4 s = z ↔ ∃ i : Int, 0 ≤ i ∧ i < P 1 7 ∧ s = o i ∧ A 9 (o i) = z) := by
    intro s s0 s1
    have m := made_iff (A := A) s0 s1
    rw [cell_in s0 (by omega)]
    constructor
    · rintro ⟨q, q2⟩
      obtain ⟨j, a, c, d⟩ := h.2.2 s s0 s1 (Decidable.byContradiction (fun y => q (m.mpr y)))
      exact ⟨j, a, c, d.symm, by rw [d]; exact q2⟩
    · rintro ⟨j, a, c, d, f⟩
      rw [d] at m ⊢
      exact ⟨fun z => (m.mp z) (h.1 j a c).2.1.1, f⟩
  unfold v_X6_sheetAt v_X4_slotOf
  rcases firstN_spec (fun k => decide (v_X6_ofSheet P k 0 = z)) (P 1 7).toNat with ⟨a, f⟩ | ⟨a, d, f, f2⟩
  · left
    rw [if_pos a]
    have no : ∀ i : Int, 0 ≤ i → i < P 1 7 → ¬ A 9 (o i) = z := fun i i0 i1 => by
      have := of_decide_eq_false (f i i0 (by omega))
      rw [e i i0 i1] at this
      exact this
    refine ⟨rfl, firstN_none (fun j j0 j1 => decide_eq_false (fun q => ?_)), no⟩
    obtain ⟨i, i0, i1, _, i3⟩ := (pr j j0 (by omega)).mp q
    exact no i i0 i1 i3
  · right
    generalize firstN _ (P 1 7).toNat = k at a d f f2
    rw [if_neg (by omega)]
    have f := of_decide_eq_true f
    rw [e k a (by omega)] at f
    have ok := (h.1 k a (by omega)).1
    refine ⟨a, by omega, ?_, f⟩
    refine firstN_eq ok.1 (by omega) (decide_eq_true ((pr (o k) ok.1 ok.2).mpr ⟨k, a, by omega, rfl, f⟩)) (fun j j0 j1 => decide_eq_false (fun q => ?_))
    obtain ⟨i, i0, i1, i2, i3⟩ := (pr j j0 (by omega)).mp q
    have : i = k := by
      rcases Int.lt_trichotomy i k with c | c | c
      · exact absurd (i3.trans f.symm) (h.2.1 i k i0 c (by omega)).2
      · exact c
      · exact absurd (f.trans i3.symm) (h.2.1 k i a c i1).2
    rw [this] at i2
    omega
/-! stale sheets -/
theorem siS_v {A P : hGM} (h : Rel0 A (P 1)) {i z s : Int} (hi : 0 ≤ i ∧ i < 4) (hz : 0 ≤ z ∧ z ≤ 48) (T : Nat → hGM) (hR : ∀ q : Int, hIn (P 1 q)) (n : Nat) (hn : (n : Int) ≤ A 0 0) (hs : ∀ g : Int, 0 ≤ g → g < n → A 11 (s * 8 + g) = P 1 (169 + 10 * i + (2 + g)) ∧ hlv (A 112 (s * 8 + g)) (P 1 (209 + 16 * i + 2 * g)) (P 1 (209 + 16 * i + 2 * g + 1))) (h0 : (siS P i z 0).1 = 0) :
    (siS P i z n).1 = 0 ↔ ∀ g : Nat, g < n → m_X0_lay A (T g) g z 0 0 = A 11 (s * 8 + g) ∧ jCmp (m_X0_lay A (T g) g z 100 0) (A 112 (s * 8 + g)) = 0 := by
  induction n with
  | zero => exact ⟨fun _ g a => by omega, fun _ => h0⟩
  | succ n ih =>
    have ih := ih (by omega) (fun g a b => hs g a (by omega))
    have e1 : (siS P i z n).2 1 = P 1 := siS_row n (by decide) (by decide) (by decide)
    have hL : Rel0 A ((siS P i z n).2 1) := by rw [e1]; exact h
    have f := fit_rel (T n) hL (g := (n : Int)) (by omega) (by omega) hz.1 hz.2
    have st : (siS P i z (n + 1)).1 = (if (siS P i z n).1 = 0 then (if v_X6_ofSheet (m_X6_lays (siS P i z n).2 n z) i (2 + n) = v_X6_columns (m_X6_lays (siS P i z n).2 n z) n z then (if (m_X6_lays (siS P i z n).2 n z) 1 (209 + 16 * i + 2 * n) = v_X6_litHalf (m_X6_lays (siS P i z n).2 n z) n z 0 then (if (m_X6_lays (siS P i z n).2 n z) 1 (209 + 16 * i + 2 * n + 1) = v_X6_litHalf (m_X6_lays (siS P i z n).2 n z) n z 1 then 0 else 1) else 1) else 1) else 1) := rfl
    have lr : m_X6_lays (siS P i z n).2 n z 1 = P 1 := by rw [lays_1]; exact e1
    rw [st]
    unfold v_X6_ofSheet
    rw [lr]
    clear st
    generalize m_X6_lays (siS P i z n).2 n z = L at f lr ⊢
    have q := hs n (by omega) (by omega)
    rw [← q.1]
    have bq := hlv_eq f.2.2.2.2.2 q.2 (halfN_in _ _ _ _ _) (halfN_in _ _ _ _ _) (hR _) (hR _)
    have cond : (m_X0_lay A (T n) n z 0 0 = A 11 (s * 8 + n) ∧ jCmp (m_X0_lay A (T n) n z 100 0) (A 112 (s * 8 + n)) = 0) ↔ (A 11 (s * 8 + n) = v_X6_columns L n z ∧ P 1 (209 + 16 * i + 2 * n) = v_X6_litHalf L n z 0 ∧ P 1 (209 + 16 * i + 2 * n + 1) = v_X6_litHalf L n z 1) := by
      rw [jCmp_0, bq, f.1.1]
      exact ⟨fun ⟨a, b, c⟩ => ⟨a.symm, b.symm, c.symm⟩, fun ⟨a, b, c⟩ => ⟨a.symm, b.symm, c.symm⟩⟩
    have al : (∀ g : Nat, g < n + 1 → m_X0_lay A (T g) g z 0 0 = A 11 (s * 8 + g) ∧ jCmp (m_X0_lay A (T g) g z 100 0) (A 112 (s * 8 + g)) = 0) ↔ ((siS P i z n).1 = 0 ∧ (A 11 (s * 8 + n) = v_X6_columns L n z ∧ P 1 (209 + 16 * i + 2 * n) = v_X6_litHalf L n z 0 ∧ P 1 (209 + 16 * i + 2 * n + 1) = v_X6_litHalf L n z 1)) := by
      rw [ih, ← cond]
      constructor
      · intro w; exact ⟨fun g a => w g (by omega), w n (by omega)⟩
      · rintro ⟨w1, w2⟩ g a
        by_cases e : g = n
        · rw [e]; exact w2
        · exact w1 g (by omega)
    rw [al]
    by_cases c0 : (siS P i z n).1 = 0
    · rw [if_pos c0]
      by_cases c1 : A 11 (s * 8 + n) = v_X6_columns L n z
      · rw [if_pos c1]
        by_cases c2 : P 1 (209 + 16 * i + 2 * n) = v_X6_litHalf L n z 0
        · rw [if_pos c2]
          by_cases c3 : P 1 (209 + 16 * i + 2 * n + 1) = v_X6_litHalf L n z 1
          · rw [if_pos c3]; exact ⟨fun _ => ⟨c0, c1, c2, c3⟩, fun _ => rfl⟩
          · rw [if_neg c3]; exact ⟨fun w => absurd w (by decide), fun w => absurd w.2.2.2 c3⟩
        · rw [if_neg c2]; exact ⟨fun w => absurd w (by decide), fun w => absurd w.2.2.1 c2⟩
      · rw [if_neg c1]; exact ⟨fun w => absurd w (by decide), fun w => absurd w.2.1 c1⟩
    · rw [if_neg c0]; exact ⟨fun w => absurd w (by decide), fun w => absurd w.1 c0⟩
theorem siS_1 {P : hGM} {i z : Int} (h0 : ¬ (siS P i z 0).1 = 0) (n : Nat) : (siS P i z n).1 = 1 := by
  induction n with
  | zero =>
    rcases siS_01 P i z 0 with c | c
    · exact absurd c h0
    · exact c
  | succ n ih =>
    have st : (siS P i z (n + 1)).1 = (if (siS P i z n).1 = 0 then (if v_X6_ofSheet (m_X6_lays (siS P i z n).2 n z) i (2 + n) = v_X6_columns (m_X6_lays (siS P i z n).2 n z) n z then (if (m_X6_lays (siS P i z n).2 n z) 1 (209 + 16 * i + 2 * n) = v_X6_litHalf (m_X6_lays (siS P i z n).2 n z) n z 0 then (if (m_X6_lays (siS P i z n).2 n z) 1 (209 + 16 * i + 2 * n + 1) = v_X6_litHalf (m_X6_lays (siS P i z n).2 n z) n z 1 then 0 else 1) else 1) else 1) else 1) := rfl
    rw [st, if_neg (by omega)]
theorem stale_rel {A P : hGM} (T : hGM) (h : Rel0 A (P 1)) {s i : Int} (s0 : 0 ≤ s ∧ s < 4) (i0 : 0 ≤ i ∧ i < 4) (hs : ShR A (P 1) s i) (hR : ∀ q : Int, hIn (P 1 q)) : v_X1_isStale A T s = v_X6_isStale P i := by
  have n := rel_g h
  obtain ⟨h9, h96, h10, h100, hg⟩ := hs
  have e0 : v_X6_ofSheet P i 0 = A 9 s := by unfold v_X6_ofSheet; rw [Int.add_zero]; exact h9.symm
  have e1 : v_X6_ofSheet P i 1 = A 10 s := h10.symm
  have b0 : (siS P i (A 9 s) 0).1 = if P 1 0 ≤ v_X6_ofSheet P i 1 then 0 else 1 := rfl
  unfold v_X1_isStale v_X6_isStale
  rw [e0, e1]
  by_cases c : A 10 s = A 0 0
  · rw [if_pos c, c]
    rw [e1, if_pos (by omega)] at b0
    have key := siS_v h i0 (s := s) (z := A 9 s) (by omega) (fun k => stT A T (A 9 s) k) hR (A 0 0).toNat (by omega) (fun g a b => (hg g a (by omega)).1 (by omega)) b0
    have z1 := siS_01 P i (A 9 s) (A 0 0).toNat
    rcases firstN_spec (stBad A T s) (A 0 0).toNat with ⟨a, f⟩ | ⟨a, d, f, f2⟩
    · rw [if_pos a]
      refine (key.mpr (fun g g1 => ?_)).symm
      have w := of_decide_eq_false (f g (by omega) (by omega))
      rw [Int.toNat_natCast] at w
      exact Decidable.not_not.mp w
    · rw [if_neg (by omega)]
      rcases z1 with z1 | z1
      · exfalso
        generalize firstN _ (A 0 0).toNat = x at a d f
        have w := of_decide_eq_true f
        have y := key.mp z1 x.toNat (by omega)
        rw [Int.toNat_of_nonneg a] at y
        exact w y
      · exact z1.symm
  · rw [if_neg c]
    rw [e1, if_neg (by omega)] at b0
    exact (siS_1 (by omega) _).symm
/-! lit columns of a sheet -/
theorem sumN_2 (f : Int → Int) (n : Nat) : sumN f (2 * n) = sumN (fun g => f (2 * g) + f (2 * g + 1)) n := by
  induction n with
  | zero => rfl
  | succ n ih =>
    have e : sumN f (2 * (n + 1)) = sumN f (2 * n) + f ((2 * n : Nat) : Int) + f ((2 * n + 1 : Nat) : Int) := rfl
    rw [e, ih, sumN_s]
    have a : ((2 * n : Nat) : Int) = 2 * (n : Int) := by omega
    have b : ((2 * n + 1 : Nat) : Int) = 2 * (n : Int) + 1 := by omega
    rw [a, b]
    omega
theorem ones_0 : v_X6_ones 0 = 0 := by decide
theorem litIn_rel {A P : hGM} {s i : Int} (s0 : 0 ≤ s ∧ s < 4) (hn : A 0 0 ≤ 8) (hs : ShR A (P 1) s i) : v_X4_litTogether A s = v_X6_litIn P i := by
  obtain ⟨h9, h96, h10, h100, hg⟩ := hs
  unfold v_X4_litTogether v_X6_litIn
  rw [cell_in s0.1 (by omega), show (16 : Nat) = 2 * 8 from rfl, sumN_2, sumN_cut (m := (A 10 s).toNat) (n := 8) (by omega) (fun g a b => ?_)]
  · refine sumN_congr _ (fun g a b => ?_)
    have q := ((hg g a (by omega)).1 (by omega)).2
    show v_J13_bitCount_95d88 (v_X4_litAt A (s * 8 + g)) = v_X6_ones (P 1 (209 + 16 * i + 2 * g)) + v_X6_ones (P 1 (209 + 16 * i + (2 * g + 1)))
    rw [litAt_in (by omega) (by omega), hlv_pop q, show 209 + 16 * i + (2 * g + 1) = 209 + 16 * i + 2 * g + 1 by omega]
  · have q := (hg g (by omega) (by omega)).2 (by omega)
    show v_X6_ones (P 1 (209 + 16 * i + 2 * g)) + v_X6_ones (P 1 (209 + 16 * i + (2 * g + 1))) = 0
    rw [show 209 + 16 * i + (2 * g + 1) = 209 + 16 * i + 2 * g + 1 by omega, q.2.1, q.2.2]
    decide

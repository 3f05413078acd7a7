/-! orders are read alike -/
def TxR (O P : hGM) : Prop := O 0 1 = P 0 6 ∧ (0 ≤ P 0 6 ∧ P 0 6 ≤ 60) ∧ ∀ k : Int, 0 ≤ k → k < P 0 6 → O 1 k = P 4 k ∧ 32 ≤ O 1 k ∧ O 1 k ≤ 126
theorem sign_v {O P : hGM} (h : TxR O P) {k : Int} (k0 : 0 ≤ k) : v_X3_signAt O k = if k < P 0 6 then P 4 k else 0 := by
  unfold v_X3_signAt
  rw [h.1]
  by_cases c : k < P 0 6
  · have := h.2.1
    rw [if_pos c, if_pos c, cell_in k0 (by omega)]
    exact (h.2.2 k k0 c).1
  · rw [if_neg c, if_neg c]
theorem sign_bd {O P : hGM} (h : TxR O P) {k : Int} (k0 : 0 ≤ k) : v_X3_signAt O k = 0 ∨ 32 ≤ v_X3_signAt O k ∧ v_X3_signAt O k ≤ 126 := by
  rw [sign_v h k0]
  by_cases c : k < P 0 6
  · have q := h.2.2 k k0 c
    rw [if_pos c]; omega
  · rw [if_neg c]; exact Or.inl rfl
theorem isAt_v {O P : hGM} (h : TxR O P) (k0 : 0 ≤ P 0 10) {lo hi : Int} (l : 1 ≤ lo) : v_X6_isAt P lo hi = 0 ↔ ¬ (lo ≤ v_X3_signAt O (P 0 10) ∧ v_X3_signAt O (P 0 10) ≤ hi) := by
  unfold v_X6_isAt
  rw [sign_v h k0]
  by_cases c : P 0 10 < P 0 6
  · rw [if_pos c, if_pos c]
    by_cases d : v_X6_in (P 4 (P 0 10)) lo hi = 0
    · rw [if_pos d]; exact ⟨fun _ => in_0.mp d, fun _ => rfl⟩
    · rw [if_neg d]; exact ⟨fun z => absurd z (by decide), fun z => absurd (in_0.mpr z) d⟩
  · rw [if_neg c, if_neg c]; exact ⟨fun _ => by omega, fun _ => rfl⟩
theorem txr_of {O O' P P' : hGM} (h : TxR O P) (o1 : O' 0 1 = O 0 1) (o : O' 1 = O 1) (p6 : P' 0 6 = P 0 6) (p : P' 4 = P 4) : TxR O' P' := by
  unfold TxR
  rw [o1, o, p6, p]
  exact h
theorem signAt_of {O O' : hGM} (o1 : O' 0 1 = O 0 1) (o : O' 1 = O 1) (k : Int) : v_X3_signAt O' k = v_X3_signAt O k := by
  unfold v_X3_signAt v_X5_cell
  rw [o1, o]
theorem nuR_rel {O : hGM} (w s r0 : Int) (r00 : 0 ≤ r0) (n : Nat) : ∀ (j : Nat) (L : hGM), j + n = 4 → TxR O L → L 0 10 = r0 + j → L 7 w = numV O r0 j → dgN O r0 j = j →
    ((nuR w s n L).1 = if r0 + (dgN O r0 4 : Nat) ≤ s then 0 else 1) ∧ (nuR w s n L).2 0 10 = r0 + (dgN O r0 4 : Nat) ∧ (nuR w s n L).2 7 w = numV O r0 (dgN O r0 4) ∧ (∀ q : Int, q ≠ 10 → (nuR w s n L).2 0 q = L 0 q) ∧ (∀ x : Int, x ≠ w → (nuR w s n L).2 7 x = L 7 x) ∧ (∀ i : Nat, i ≠ 0 → i ≠ 7 → (nuR w s n L).2 i = L i) := by
  induction n with
  | zero =>
    intro j L hj ht h10 h7 hd
    have j4 : j = 4 := by omega
    subst j4
    have e : nuR w s 0 L = (if L 0 10 ≤ s then 0 else 1, L) := rfl
    rw [e, hd, ← h10]
    exact ⟨rfl, rfl, h7, fun _ _ => rfl, fun _ _ => rfl, fun _ _ _ => rfl⟩
  | succ n ih =>
    intro j L hj ht h10 h7 hd
    have e : nuR w s (n + 1) L = if v_X6_isAt L 48 57 = 0 then (if L 0 10 ≤ s then 0 else 1, L) else nuR w s n (nuD L w) := rfl
    have av := isAt_v ht (by omega) (lo := 48) (hi := 57) (by decide)
    have ds : dgN O r0 (j + 1) = if dgN O r0 j = j ∧ 48 ≤ v_X3_signAt O (r0 + j) ∧ v_X3_signAt O (r0 + j) ≤ 57 then j + 1 else dgN O r0 j := rfl
    rw [e]
    by_cases c : v_X6_isAt L 48 57 = 0
    · have nd := av.mp c
      rw [h10] at nd
      have d1 : dgN O r0 (j + 1) = j := by rw [ds, if_neg (fun z => nd z.2), hd]
      have st := dgN_stop (O := O) (r := r0) (n := j + 1) (by omega) n
      rw [show j + 1 + n = 4 by omega, d1] at st
      rw [if_pos c, st, ← h10]
      exact ⟨rfl, rfl, h7, fun _ _ => rfl, fun _ _ => rfl, fun _ _ _ => rfl⟩
    · have dg : 48 ≤ v_X3_signAt O (r0 + j) ∧ v_X3_signAt O (r0 + j) ≤ 57 := by
        rw [← h10]
        exact Decidable.not_not.mp (fun z => c (av.mpr z))
      have i1 := isAt_1 c
      have sv := sign_v ht (k := r0 + j) (by omega)
      rw [← h10, if_pos i1.1] at sv
      have e7 : nuD L w 7 w = numV O r0 (j + 1) := by
        have nv : numV O r0 (j + 1) = numV O r0 j * 10 + v_X3_signAt O (r0 + j) - 48 := rfl
        rw [nuD_7, nv, h7, ← h10, sv]
        omega
      have e10 : nuD L w 0 10 = r0 + ((j + 1 : Nat) : Int) := by rw [nuD_10, h10]; omega
      have k := ih (j + 1) (nuD L w) (by omega) (txr_of ht rfl rfl (nuD_0 (by decide)) (nuD_row (by decide) (by decide))) e10 e7 (by rw [ds, if_pos ⟨hd, dg⟩])
      rw [if_neg c]
      refine ⟨k.1, k.2.1, k.2.2.1, fun q hq => (k.2.2.2.1 q hq).trans (nuD_0 hq), fun x hx => ?_, fun i h0 h7 => (k.2.2.2.2.2 i h0 h7).trans (nuD_row h0 h7)⟩
      rw [k.2.2.2.2.1 x hx]
      unfold nuD
      rw [aset_row (by decide), aset_ne (by omega)]
/-- reading: the same text, the same place, the same numbers so far -/
def RdR (O L : hGM) (k : Int) : Prop := TxR O L ∧ O 0 3 = L 0 10 ∧ 0 ≤ L 0 10 ∧ ∀ x : Int, 0 ≤ x → x < k → O 2 x = L 7 x
/-- what reading leaves as it was -/
def RdF (O O' L L' : hGM) : Prop := (∀ q : Int, q ≠ 3 → O' 0 q = O 0 q) ∧ O' 1 = O 1 ∧ (∀ q : Int, q ≠ 10 → L' 0 q = L 0 q) ∧ ∀ i : Nat, i ≠ 0 → i ≠ 7 → L' i = L i
theorem rdf_trans {O O' O'' L L' L'' : hGM} (a : RdF O O' L L') (b : RdF O' O'' L' L'') : RdF O O'' L L'' :=
  ⟨fun q hq => (b.1 q hq).trans (a.1 q hq), b.2.1.trans a.2.1, fun q hq => (b.2.2.1 q hq).trans (a.2.2.1 q hq), fun i h0 h7 => (b.2.2.2 i h0 h7).trans (a.2.2.2 i h0 h7)⟩
theorem rdf_tx {O O' L L' : hGM} (h : TxR O L) (f : RdF O O' L L') : TxR O' L' := txr_of h (f.1 1 (by decide)) f.2.1 (f.2.2.1 6 (by decide)) (f.2.2.2 4 (by decide) (by decide))
theorem number_rel {O L : hGM} {k : Int} (h : RdR O L k) (k0 : 0 ≤ k) (k3 : k < 3) : v_X3_isNumber O k = v_X6_numbered L k ∧ RdR (m_X3_isNumber O k) (m_X6_numbered L k) (k + 1) ∧ RdF O (m_X3_isNumber O k) L (m_X6_numbered L k) ∧ O 0 3 ≤ (m_X3_isNumber O k) 0 3 ∧ (¬ v_X3_isNumber O k = 0 → O 0 3 < (m_X3_isNumber O k) 0 3) := by
  obtain ⟨ht, h3, h10, hn⟩ := h
  have key := nuR_rel (O := O) k (L 0 10) (L 0 10) h10 4 0 (aset L 7 k 0) rfl (txr_of ht rfl rfl (by rw [aset_row (by decide)]) (aset_row (by decide))) (by rw [aset_row (by decide)]; simp) (by rw [aset_at]; rfl) rfl
  have e1 : v_X6_numbered L k = (nuR k (L 0 10) 4 (aset L 7 k 0)).1 := rfl
  have e2 : m_X6_numbered L k = (nuR k (L 0 10) 4 (aset L 7 k 0)).2 := rfl
  have o3 : m_X3_isNumber O k 0 3 = O 0 3 + (dgN O (O 0 3) 4 : Nat) := isNumber_03 O k
  have oe : m_X3_isNumber O k = aset (aset O 0 3 (O 0 3 + (dgN O (O 0 3) 4 : Nat))) 2 k (numV O (O 0 3) (dgN O (O 0 3) 4)) := by
    unfold m_X3_isNumber
    rw [put_in k0 (by omega)]
  rw [← e1, ← e2] at key
  rw [← h3] at key
  obtain ⟨a1, a2, a3, a4, a5, a6⟩ := key
  have rf : RdF O (m_X3_isNumber O k) L (m_X6_numbered L k) := by
    refine ⟨fun q hq => ?_, ?_, fun q hq => ?_, fun i i0 i7 => ?_⟩
    · rw [oe, aset_row (by decide), aset_ne (by omega)]
    · rw [oe, aset_row (by decide), aset_row (by decide)]
    · rw [a4 q hq, aset_row (by decide)]
    · rw [a6 i i0 i7, aset_row i7]
  refine ⟨?_, ⟨rdf_tx ht rf, by rw [o3, a2], by rw [a2]; omega, fun x x0 x1 => ?_⟩, rf, by rw [o3]; omega, fun z => ?_⟩
  · rw [a1]
    unfold v_X3_isNumber
    by_cases c : dgN O (O 0 3) 4 = 0
    · rw [if_pos c, if_pos (by omega)]
    · rw [if_neg c, if_neg (by omega)]
  · by_cases e : x = k
    · rw [e, a3, oe, aset_at]
    · rw [a5 x e, aset_ne (by omega), oe, aset_ne (by omega), aset_row (by decide)]
      exact hn x x0 (by omega)
  · rw [o3]
    unfold v_X3_isNumber at z
    have : ¬ dgN O (O 0 3) 4 = 0 := fun y => z (if_pos y)
    omega
theorem reR_0 (n : Nat) (k : Int) (L : hGM) : reR n 0 k L = (0, L) := by
  cases n with
  | zero => show reE 0 L = (0, L); exact if_pos rfl
  | succ n => exact if_pos rfl
theorem sign_rel {O L : hGM} {k c : Int} (h : RdR O L k) (c1 : 1 ≤ c) : (v_X6_sign L c = 0 ↔ ¬ v_X3_signAt O (O 0 3) = c) ∧ (v_X6_sign L c = 0 → m_X6_sign L c = L) ∧ (¬ v_X6_sign L c = 0 → v_X6_sign L c = 1 ∧ RdR (aset O 0 3 (O 0 3 + 1)) (m_X6_sign L c) k ∧ RdF O (aset O 0 3 (O 0 3 + 1)) L (m_X6_sign L c)) := by
  obtain ⟨ht, h3, h10, hn⟩ := h
  have av := isAt_v ht h10 (lo := c) (hi := c) c1
  have z := z_X6_isAt L c c
  have es : v_X6_sign L c = v_X6_isAt L c c := by unfold v_X6_sign; split <;> rfl
  rw [es]
  refine ⟨av.trans (by rw [h3]; omega), fun y => ?_, fun y => ⟨by omega, ?_⟩⟩
  · unfold m_X6_sign
    rw [if_pos y, Int.add_zero, aset_self]
  · have em : m_X6_sign L c = aset L 0 10 (L 0 10 + 1) := by unfold m_X6_sign; rw [if_neg y]
    rw [em]
    have rf : RdF O (aset O 0 3 (O 0 3 + 1)) L (aset L 0 10 (L 0 10 + 1)) := ⟨fun q hq => aset_ne (by omega), aset_row (by decide), fun q hq => aset_ne (by omega), fun i i0 _ => aset_row i0⟩
    refine ⟨⟨rdf_tx ht rf, by rw [aset_at, aset_at, h3], by rw [aset_at]; omega, fun x x0 x1 => ?_⟩, rf⟩
    rw [aset_row (by decide), aset_row (by decide)]
    exact hn x x0 x1
theorem numbers_rel (due : Int) (hd : due ≤ 3) (m : Nat) : ∀ (k : Int) (O L : hGM), 0 ≤ k → k + m + 1 = due → RdR O L k →
    (ordF due (m + 1) k O).1 = (reR m (v_X6_numbered L k) (k + 1) (m_X6_numbered L k)).1 ∧ RdF O (ordF due (m + 1) k O).2 L (reR m (v_X6_numbered L k) (k + 1) (m_X6_numbered L k)).2 ∧ ((ordF due (m + 1) k O).1 = 1 → RdR (ordF due (m + 1) k O).2 (reR m (v_X6_numbered L k) (k + 1) (m_X6_numbered L k)).2 due ∧ O 0 3 < (ordF due (m + 1) k O).2 0 3) ∧ (ordF due (m + 1) k O).2 0 3 = (reR m (v_X6_numbered L k) (k + 1) (m_X6_numbered L k)).2 0 10 ∧ O 0 3 ≤ (ordF due (m + 1) k O).2 0 3 := by
  induction m with
  | zero =>
    intro k O L k0 hk h
    obtain ⟨a1, a2, a3, a4, a5⟩ := number_rel h k0 (by omega)
    have e1 : ordF due (0 + 1) k O = if v_X3_isNumber O k = 0 then (0, m_X3_isNumber O k) else if v_X3_signAt (m_X3_isNumber O k) ((m_X3_isNumber O k) 0 3) = (if k + 1 < due then 44 else 59) then (1, aset (m_X3_isNumber O k) 0 3 ((m_X3_isNumber O k) 0 3 + 1)) else (0, m_X3_isNumber O k) := rfl
    have e2 : reR 0 (v_X6_numbered L k) (k + 1) (m_X6_numbered L k) = if v_X6_numbered L k = 0 then (0, m_X6_numbered L k) else (v_X6_sign (m_X6_numbered L k) 59, m_X6_sign (m_X6_numbered L k) 59) := rfl
    rw [e1, e2, a1, if_neg (show ¬ k + 1 < due by omega)]
    by_cases c : v_X6_numbered L k = 0
    · rw [if_pos c, if_pos c]
      exact ⟨rfl, a3, fun z => absurd z (show ¬ (0 : Int) = 1 by decide), a2.2.1, a4⟩
    · rw [if_neg c, if_neg c]
      have s := sign_rel a2 (c := 59) (by decide)
      by_cases d : v_X6_sign (m_X6_numbered L k) 59 = 0
      · rw [if_neg (s.1.mp d), d, s.2.1 d]
        exact ⟨rfl, a3, fun z => absurd z (show ¬ (0 : Int) = 1 by decide), a2.2.1, a4⟩
      · have sg : v_X3_signAt (m_X3_isNumber O k) ((m_X3_isNumber O k) 0 3) = 59 := Decidable.not_not.mp (fun z => d (s.1.mpr z))
        have t := s.2.2 d
        rw [if_pos sg, t.1]
        refine ⟨rfl, rdf_trans a3 t.2.2, fun _ => ⟨?_, ?_⟩, t.2.1.2.1, ?_⟩
        · have := t.2.1
          rw [show k + 1 = due by omega] at this
          exact this
        · show O 0 3 < aset (m_X3_isNumber O k) 0 3 ((m_X3_isNumber O k) 0 3 + 1) 0 3
          rw [aset_at]; omega
        · show O 0 3 ≤ aset (m_X3_isNumber O k) 0 3 ((m_X3_isNumber O k) 0 3 + 1) 0 3
          rw [aset_at]; omega
  | succ m ih =>
    intro k O L k0 hk h
    obtain ⟨a1, a2, a3, a4, a5⟩ := number_rel h k0 (by omega)
    have e1 : ordF due (m + 1 + 1) k O = if v_X3_isNumber O k = 0 then (0, m_X3_isNumber O k) else if v_X3_signAt (m_X3_isNumber O k) ((m_X3_isNumber O k) 0 3) = (if k + 1 < due then 44 else 59) then ordF due (m + 1) (k + 1) (aset (m_X3_isNumber O k) 0 3 ((m_X3_isNumber O k) 0 3 + 1)) else (0, m_X3_isNumber O k) := rfl
    have e2 : reR (m + 1) (v_X6_numbered L k) (k + 1) (m_X6_numbered L k) = if v_X6_numbered L k = 0 then (0, m_X6_numbered L k) else if v_X6_sign (m_X6_numbered L k) 44 = 0 then reR m 0 (k + 1 + 1) (m_X6_sign (m_X6_numbered L k) 44) else reR m (v_X6_numbered (m_X6_sign (m_X6_numbered L k) 44) (k + 1)) (k + 1 + 1) (m_X6_numbered (m_X6_sign (m_X6_numbered L k) 44) (k + 1)) := rfl
    rw [e1, e2, a1, if_pos (show k + 1 < due by omega)]
    by_cases c : v_X6_numbered L k = 0
    · rw [if_pos c, if_pos c]
      exact ⟨rfl, a3, fun z => absurd z (show ¬ (0 : Int) = 1 by decide), a2.2.1, a4⟩
    · rw [if_neg c, if_neg c]
      have s := sign_rel a2 (c := 44) (by decide)
      by_cases d : v_X6_sign (m_X6_numbered L k) 44 = 0
      · rw [if_neg (s.1.mp d), if_pos d, reR_0, s.2.1 d]
        exact ⟨rfl, a3, fun z => absurd z (show ¬ (0 : Int) = 1 by decide), a2.2.1, a4⟩
      · have sg : v_X3_signAt (m_X3_isNumber O k) ((m_X3_isNumber O k) 0 3) = 44 := Decidable.not_not.mp (fun z => d (s.1.mpr z))
        have t := s.2.2 d
        rw [if_pos sg, if_neg d]
        obtain ⟨i1, i2, i3, i4, i5⟩ := ih (k + 1) _ _ (by omega) (by omega) t.2.1
        rw [aset_at] at i3 i5
        exact ⟨i1, rdf_trans a3 (rdf_trans t.2.2 i2), fun z => ⟨(i3 z).1, by have := (i3 z).2; omega⟩, i4, by omega⟩
theorem numbersOf_rel (x : Int) : v_X3_numbersOf x = v_X6_numbersOf x := by
  unfold v_X3_numbersOf v_X6_numbersOf
  by_cases a : x = 103
  · rw [if_pos a, if_neg (by omega), if_neg (by omega), if_pos a]
  · by_cases b : x = 104
    · rw [if_neg a, if_pos b, if_neg (by omega), if_pos b]
    · by_cases c : x = 109
      · rw [if_neg a, if_neg b, if_pos c, if_neg (by omega), if_neg b, if_neg a, if_neg (by omega), if_pos c]
      · by_cases d : x = 115
        · rw [if_neg a, if_neg b, if_neg c, if_pos d, if_pos d]
        · by_cases e : x = 119
          · rw [if_neg a, if_neg b, if_neg c, if_neg d, if_pos e, if_neg d, if_neg b, if_neg a, if_pos e]
          · rw [if_neg a, if_neg b, if_neg c, if_neg d, if_neg e, if_neg d, if_neg b, if_neg a, if_neg e, if_neg c]
theorem read_rel {O L : hGM} (ht : TxR O L) (h10 : 0 ≤ L 0 10) : v_X3_isOrder O (L 0 10) = v_X6_reads L ∧ (m_X3_isOrder O (L 0 10)) 0 3 = (m_X6_reads L) 0 10 ∧ L 0 10 ≤ (m_X6_reads L) 0 10 ∧
    (¬ v_X6_reads L = 0 → L 0 10 < (m_X6_reads L) 0 10 ∧ (m_X6_reads L) 0 15 = v_X3_signAt O (L 0 10) ∧ ¬ v_X6_numbersOf ((m_X6_reads L) 0 15) = 0 ∧ ∀ x : Int, 0 ≤ x → x < v_X6_numbersOf ((m_X6_reads L) 0 15) → (m_X3_isOrder O (L 0 10)) 2 x = (m_X6_reads L) 7 x) ∧
    (∀ q : Int, q ≠ 3 → (m_X3_isOrder O (L 0 10)) 0 q = O 0 q) ∧ (m_X3_isOrder O (L 0 10)) 1 = O 1 ∧ (∀ q : Int, q ≠ 10 → q ≠ 15 → (m_X6_reads L) 0 q = L 0 q) ∧ (∀ i : Nat, i ≠ 0 → i ≠ 7 → (m_X6_reads L) i = L i) ∧ TxR (m_X3_isOrder O (L 0 10)) (m_X6_reads L) := by
  have e15 : reO L 0 15 = if v_X6_isAt L 33 126 = 0 then 0 else L 4 (L 0 10) := by unfold reO; rw [aset_at]
  have r1 : ∀ q : Int, q ≠ 15 → reO L 0 q = L 0 q := fun q hq => by unfold reO; rw [aset_ne (by omega)]
  have r2 : ∀ i : Nat, i ≠ 0 → reO L i = L i := fun i hi => by unfold reO; rw [aset_row hi]
  have av := isAt_v ht h10 (lo := 33) (hi := 126) (by decide)
  have sb := sign_bd ht h10
  have sv := sign_v ht h10
  have nz : v_X6_numbersOf (reO L 0 15) = v_X3_numbersOf (v_X3_signAt O (L 0 10)) ∧ (¬ v_X6_numbersOf (reO L 0 15) = 0 → reO L 0 15 = v_X3_signAt O (L 0 10)) := by
    rw [e15]
    by_cases c : v_X6_isAt L 33 126 = 0
    · have nv := av.mp c
      rw [if_pos c]
      have s2 : v_X3_signAt O (L 0 10) = 0 ∨ v_X3_signAt O (L 0 10) = 32 := by omega
      refine ⟨?_, fun z => absurd rfl z⟩
      rcases s2 with s2 | s2 <;> rw [s2] <;> rfl
    · have i1 := isAt_1 c
      rw [if_pos i1.1] at sv
      rw [if_neg c, sv]
      exact ⟨(numbersOf_rel _).symm, fun _ => rfl⟩
  unfold v_X3_isOrder m_X3_isOrder v_X6_reads m_X6_reads ordE reT
  rw [← nz.1]
  by_cases c : v_X6_numbersOf (reO L 0 15) = 0
  · rw [if_pos c, if_pos c]
    refine ⟨rfl, ?_, ?_, fun z => absurd rfl z, fun q hq => ?_, ?_, fun q _ h15 => r1 q h15, fun i h0 _ => r2 i h0, ?_⟩
    · show aset O 0 3 (L 0 10) 0 3 = reO L 0 10
      rw [aset_at, r1 10 (by decide)]
    · show L 0 10 ≤ reO L 0 10
      rw [r1 10 (by decide)]; exact Int.le_refl _
    · show aset O 0 3 (L 0 10) 0 q = O 0 q
      rw [aset_ne (by omega)]
    · show aset O 0 3 (L 0 10) 1 = O 1
      exact aset_row (by decide)
    · show TxR (aset O 0 3 (L 0 10)) (reO L)
      exact txr_of ht (aset_ne (by omega)) (aset_row (by decide)) (r1 6 (by decide)) (r2 4 (by decide))
  · rw [if_neg c, if_neg c]
    have nb := mnof_bd (reO L 0 15)
    have l15 := nz.2 c
    generalize hdue : v_X6_numbersOf (reO L 0 15) = due at c nb
    have hm : (due - 1).toNat + 1 = due.toNat := by omega
    have rd : RdR (aset O 0 3 (L 0 10 + 1)) (reN (reO L)) 0 := by
      have n10 : reN (reO L) 0 10 = L 0 10 + 1 := by unfold reN; rw [aset_at, r1 10 (by decide)]
      refine ⟨txr_of ht (aset_ne (by omega)) (aset_row (by decide)) ?_ ?_, by rw [aset_at, n10], by rw [n10]; omega, fun x a b => by omega⟩
      · unfold reN; rw [aset_ne (by omega), r1 6 (by decide)]
      · unfold reN; rw [aset_row (by decide), r2 4 (by decide)]
    have key := numbers_rel due (by omega) (due - 1).toNat 0 _ _ (Int.le_refl _) (by omega) rd
    rw [hm, show (0 : Int) + 1 = 1 from rfl, aset_at] at key
    obtain ⟨a1, a2, a3, a4, a5⟩ := key
    generalize ordF due due.toNat 0 (aset O 0 3 (L 0 10 + 1)) = R at a1 a2 a3 a4 a5 ⊢
    generalize hM : reR (due - 1).toNat (v_X6_numbered (reN (reO L)) 0) 1 (m_X6_numbered (reN (reO L)) 0) = M at a1 a2 a3 a4 a5 ⊢
    have m01 : M.1 = 0 ∨ M.1 = 1 := by rw [← hM]; exact reR_01 _ _ _ _
    have q15 : M.2 0 15 = reO L 0 15 := by rw [a2.2.2.1 15 (by decide)]; unfold reN; rw [aset_ne (by omega)]
    have fr : (∀ q : Int, q ≠ 3 → R.2 0 q = O 0 q) ∧ R.2 1 = O 1 ∧ (∀ q : Int, q ≠ 10 → q ≠ 15 → M.2 0 q = L 0 q) ∧ (∀ i : Nat, i ≠ 0 → i ≠ 7 → M.2 i = L i) := by
      refine ⟨fun q hq => ?_, ?_, fun q h1 h2 => ?_, fun i h0 h7 => ?_⟩
      · rw [a2.1 q hq, aset_ne (by omega)]
      · rw [a2.2.1, aset_row (by decide)]
      · rw [a2.2.2.1 q h1]; unfold reN; rw [aset_ne (by omega), r1 q h2]
      · rw [a2.2.2.2 i h0 h7]; unfold reN; rw [aset_row h0, r2 i h0]
    refine ⟨a1, a4, by omega, fun z => ?_, fr.1, fr.2.1, fr.2.2.1, fr.2.2.2, txr_of ht (fr.1 1 (by decide)) fr.2.1 (fr.2.2.1 6 (by decide) (by decide)) (fr.2.2.2 4 (by decide) (by decide))⟩
    have a3 := a3 (by omega)
    rw [q15, hdue]
    exact ⟨by omega, l15, c, a3.1.2.2.2⟩

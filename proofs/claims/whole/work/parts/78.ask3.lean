/-! sheets told, numbers told -/
theorem stale_p {S : hS} {c : Int} (h : Inv S c) {o : Int → Int} (hord : Ord (S 0) (S 10 1) o) {i : Int} (i0 : 0 ≤ i) (i1 : i < S 10 1 7) (T : hGM) : p_X1_isStale (S 0) T (o i) := by
  obtain ⟨p1, p2, p3⟩ := hord.1 i i0 i1
  exact ⟨h.1.1.1, p1, fun _ => p3.2.1⟩
theorem siS_keep (P : hGM) (s z : Int) (n : Nat) : Keep P (siS P s z n).2 := by
  induction n with
  | zero => exact keep_rfl _
  | succ n ih =>
    have e : (siS P s z (n + 1)).2 = m_X6_lays (siS P s z n).2 n z := rfl
    rw [e]
    exact keep_trans ih (keep_lays _ _ _)
theorem isStale_keep (P : hGM) (s : Int) : Keep P (m_X6_isStale P s) ∧ m_X6_isStale P s 1 = P 1 := ⟨siS_keep _ _ _ _, siS_row _ (by decide) (by decide) (by decide)⟩
theorem bt_sheetOf {S : hS} {c : Int} (h : Inv S c) (hR : hR S) (x w : Int) : Both S c (p_X5_sheetOf S x w) (v_X5_sheetOf S x w) (m_X5_sheetOf S x w) (p_X6_sheetOf (S 10) x w) (v_X6_sheetOf (S 10) x w) (m_X6_sheetOf (S 10) x w) := by
  have f := h.1.1.1
  have hm := h.1.1.2.1
  have n := rel_g h.1.1
  have n7 := hm.2.2.2.2.2.1
  obtain ⟨hs, o, hord⟩ := h.1.2.2
  have hord : Ord (S 0) (S 10 1) o := hord
  unfold p_X5_sheetOf v_X5_sheetOf m_X5_sheetOf p_X6_sheetOf v_X6_sheetOf m_X6_sheetOf
  rw [within_in]
  by_cases c1 : x < 0
  · rw [if_pos c1, if_pos c1, if_pos c1, if_pos c1]
    exact ⟨⟨fun _ => trivial, fun z => absurd c1 z⟩, rfl, rfl, ⟨fun _ => trivial, fun z => absurd c1 z⟩, inv_s0 h⟩
  · rw [if_neg c1, if_neg c1, if_neg c1, if_neg c1]
    by_cases c2 : v_X6_in w 0 3 = 0
    · rw [if_pos c2, if_pos c2, if_pos c2, if_pos c2]
      exact ⟨⟨fun z => absurd z c1, fun _ => ⟨fun _ => trivial, fun z => absurd c2 z⟩⟩, rfl, rfl, ⟨fun z => absurd z c1, fun _ => ⟨fun _ => trivial, fun z => absurd c2 z⟩⟩, inv_s0 h⟩
    · rw [if_neg c2, if_neg c2, if_neg c2, if_neg c2]
      have hw := Decidable.not_not.mp (fun z => c2 (in_0.mpr z))
      have sa := slotAt_rel hord n7 (x := x) (by omega)
      by_cases c3 : x < S 10 1 7
      · rw [if_pos c3] at sa
        obtain ⟨p1, p2, p3⟩ := hord.1 x (by omega) c3
        rw [if_pos c3, if_pos c3, sa, if_neg (show ¬ o x < 0 by omega), if_neg (show ¬ o x < 0 by omega)]
        have sp := stale_p h hord (by omega : 0 ≤ x) c3 (S 7)
        have hq : ∀ q : Int, hIn (S 10 1 q) := fun q => hR 10 1 q (by decide)
        have sr := stale_rel (S 7) h.1.1 p1 ⟨by omega, by omega⟩ p3 hq
        have lt := litIn_rel p1 n.2.2 p3
        have pb : ∀ k : Int, 0 ≤ k → k < 32 → 0 ≤ v_J13_bitCount_95d88 (v_X4_litAt (S 0) k) ∧ v_J13_bitCount_95d88 (v_X4_litAt (S 0) k) ≤ 64 := fun k _ _ => by
          rw [bitCount_v]
          have := popB_le 64 (bl (v_X4_litAt (S 0) k))
          omega
        have pl : p_X4_litTogether (S 0) (o x) := ⟨p1.1, p1.2, by rw [cell_in p1.1 (by omega)]; have := p3.2.2.2.1; omega, pb⟩
        have ki := isStale_keep (S 10) x
        have iS : ∃ S1 : hS, (if w = 0 then S else if w = 1 then S else if w = 2 then (if v_X1_isStale (S 0) (S 7) (o x) = 0 then gset S 7 (m_X1_isStale (S 0) (S 7) (o x)) else gset S 7 (m_X1_isStale (S 0) (S 7) (o x))) else S) = S1 ∧ ∀ g : Nat, g ≠ 1 → g ≠ 7 → S1 g = S g := by
          refine ⟨_, rfl, fun g _ h7 => ?_⟩
          split
          · rfl
          · split
            · rfl
            · split
              · split <;> exact gset_ne h7
              · rfl
        have iP : ∃ P' : hGM, (if w < 2 then S 10 else if w = 2 then (if v_X6_isStale (S 10) x = 0 then m_X6_isStale (S 10) x else m_X6_isStale (S 10) x) else S 10) = P' ∧ Keep (S 10) P' ∧ P' 1 = S 10 1 := by
          refine ⟨_, rfl, ?_⟩
          split
          · exact ⟨keep_rfl _, rfl⟩
          · split
            · split <;> exact ki
            · exact ⟨keep_rfl _, rfl⟩
        obtain ⟨S1, eS, kS⟩ := iS
        obtain ⟨P', eP, kP, rP⟩ := iP
        rw [eS, eP]
        refine ⟨⟨fun z => absurd z c1, fun _ => ⟨fun _ => trivial, fun _ => ⟨trivial, fun _ => trivial, fun _ => ⟨fun _ => trivial, fun _ => ⟨fun _ => trivial, fun _ => ⟨fun _ => ⟨sp, fun _ => trivial, fun _ => trivial⟩, fun _ => ⟨pl, trivial⟩⟩⟩⟩⟩⟩⟩, ?_, kS 10 (by decide) (by decide), ⟨fun z => absurd z c1, fun _ => ⟨fun _ => trivial, fun _ => ⟨fun _ => ⟨fun y => ⟨ofSheet_p (by omega) (by omega) hw.1 (by omega), trivial⟩, fun _ => ⟨fun _ => ⟨⟨hm, rel_gap h.1.1, by omega, by omega⟩, fun _ => trivial, fun _ => trivial⟩, fun _ => ⟨⟨by omega, by omega⟩, trivial⟩⟩⟩, fun _ => trivial⟩⟩⟩, inv_keep h kS kP (fun q _ _ => by rw [rP])⟩
        have w4 : w = 0 ∨ w = 1 ∨ w = 2 ∨ w = 3 := by omega
        rcases w4 with rfl | rfl | rfl | rfl
        · show v_X5_cell (S 0) 9 4 (o x) = S 10 1 (169 + 10 * x + 0)
          rw [cell_in p1.1 (by omega), Int.add_zero]; exact p3.1
        · show v_X5_cell (S 0) 10 4 (o x) = S 10 1 (169 + 10 * x + 1)
          rw [cell_in p1.1 (by omega)]; exact p3.2.2.1
        · show (if v_X1_isStale (S 0) (S 7) (o x) = 0 then (0 : Int) else 1) = (if v_X6_isStale (S 10) x = 0 then 0 else 1)
          rw [sr]
        · exact lt
      · rw [if_neg c3] at sa
        rw [if_neg c3, if_neg c3, sa, if_pos (by decide), if_pos (by decide)]
        exact ⟨⟨fun z => absurd z c1, fun _ => ⟨fun _ => trivial, fun _ => ⟨trivial, fun _ => trivial, fun z => absurd (show (-1 : Int) < 0 by decide) z⟩⟩⟩, rfl, rfl, ⟨fun z => absurd z c1, fun _ => ⟨fun _ => trivial, fun _ => ⟨fun z => absurd z c3, fun _ => trivial⟩⟩⟩, inv_s0 h⟩
/-- a sum over slots is a sum over sheets -/
theorem sum_img (w : Int → Int) (o : Int → Int) (n : Nat) (m : Nat) : ∀ (p : Int → Prop) (_ : DecidablePred p), (∀ i : Int, 0 ≤ i → i < m → 0 ≤ o i ∧ o i < n) → (∀ i j : Int, 0 ≤ i → i < j → j < m → ¬ o i = o j) → (∀ s : Int, 0 ≤ s → s < n → (p s ↔ ∃ i : Int, 0 ≤ i ∧ i < m ∧ o i = s)) → sumN (fun s => if p s then w s else 0) n = sumN (fun i => w (o i)) m := by
  induction m with
  | zero =>
    intro p _ _ _ hp
    exact sumN_0 n (fun k a b => if_neg (fun z => by obtain ⟨i, i0, i1, _⟩ := (hp k a b).mp z; omega))
  | succ m ih =>
    intro p ip hr inj hp
    have i1 := ih (fun s => p s ∧ ¬ s = o m) (fun s => inferInstance) (fun i a b => hr i a (by omega)) (fun i j a b c => inj i j a b (by omega)) (fun s s0 s1 => by
      rw [hp s s0 s1]
      constructor
      · rintro ⟨⟨i, a, b, c⟩, d⟩
        refine ⟨i, a, ?_, c⟩
        by_cases e : i = m
        · subst e; exact absurd c.symm d
        · omega
      · rintro ⟨i, a, b, c⟩
        refine ⟨⟨i, a, by omega, c⟩, fun d => ?_⟩
        exact inj i m a b (by omega) (c.trans d))
    have rm := hr m (by omega) (by omega)
    rw [sumN_upd (f := fun s => if p s ∧ ¬ s = o m then w s else 0) (f' := fun s => if p s then w s else 0) (i := o m) n (fun k hk => by
      show (if p k then w k else 0) = (if p k ∧ ¬ k = o m then w k else 0)
      by_cases c : p k
      · rw [if_pos c, if_pos ⟨c, hk⟩]
      · rw [if_neg c, if_neg (fun z => c z.1)]), i1, if_pos rm, sumN_s]
    show _ + ((if p (o m) then w (o m) else 0) - (if p (o m) ∧ ¬ o m = o m then w (o m) else 0)) = _
    rw [if_pos ((hp (o m) rm.1 rm.2).mpr ⟨m, by omega, by omega, rfl⟩), if_neg (fun z => z.2 rfl)]
    omega
theorem stS_keep (P : hGM) (n : Nat) : Keep P (stS P n).2 := by
  induction n with
  | zero => exact keep_rfl _
  | succ n ih =>
    have e : (stS P (n + 1)).2 = m_X6_isStale (stS P n).2 n := rfl
    rw [e]
    exact keep_trans ih (isStale_keep _ _).1
theorem stales_rel {S : hS} {c : Int} (h : Inv S c) (hR : hR S) : v_X5_staleSheets S = v_X6_stales (S 10) := by
  have n7 := h.1.1.2.1.2.2.2.2.2.1
  obtain ⟨hs, o, hord⟩ := h.1.2.2
  have hord : Ord (S 0) (S 10 1) o := hord
  have hq : ∀ q : Int, hIn (S 10 1 q) := fun q => hR 10 1 q (by decide)
  have any : ∀ (T : hGM) (i : Int), 0 ≤ i → i < S 10 1 7 → v_X1_isStale (S 0) T (o i) = v_X6_isStale (S 10) i := fun T i i0 i1 => by
    obtain ⟨p1, p2, p3⟩ := hord.1 i i0 i1
    exact stale_rel T h.1.1 p1 ⟨i0, by omega⟩ p3 hq
  have cl : ∀ n : Nat, n ≤ 4 → (slS (S 0) (S 7) n).1 = sumN (fun s => if 1 ≤ S 0 8 s then (if v_X1_isStale (S 0) (S 7) s = 0 then 0 else 1) else 0) n := by
    intro n
    induction n with
    | zero => intro _; rfl
    | succ n ih =>
      intro hn
      have e : slS (S 0) (S 7) (n + 1) = if v_X4_isMade (S 0) n = 0 then slS (S 0) (S 7) n else ((slS (S 0) (S 7) n).1 + (if v_X1_isStale (S 0) (slS (S 0) (S 7) n).2 n = 0 then 0 else 1), m_X1_isStale (S 0) (slS (S 0) (S 7) n).2 n) := rfl
      have m := made_iff (A := S 0) (k := (n : Int)) (by omega) (by omega)
      rw [e, sumN_s, ← ih (by omega)]
      by_cases d : v_X4_isMade (S 0) n = 0
      · rw [if_pos d, if_neg (m.mp d), Int.add_zero]
      · have d1 : 1 ≤ S 0 8 n := Decidable.byContradiction (fun y => d (m.mpr y))
        obtain ⟨i, i0, i1, i2⟩ := hord.2.2 n (by omega) (by omega) d1
        rw [if_neg d, if_pos d1]
        show (slS (S 0) (S 7) n).1 + (if v_X1_isStale (S 0) (slS (S 0) (S 7) n).2 n = 0 then 0 else 1) = _
        rw [← i2, any _ i i0 i1, any _ i i0 i1]
  have ml : ∀ n : Nat, (n : Int) ≤ S 10 1 7 → (stS (S 10) n).1 = sumN (fun i => if v_X1_isStale (S 0) (S 7) (o i) = 0 then 0 else 1) n := by
    intro n
    induction n with
    | zero => intro _; rfl
    | succ n ih =>
      intro hn
      have e : (stS (S 10) (n + 1)).1 = (stS (S 10) n).1 + (if v_X6_isStale (stS (S 10) n).2 n = 0 then 0 else 1) := rfl
      have e1 : (stS (S 10) n).2 1 = S 10 1 := stS_row (S 10) n (by decide) (by decide) (by decide)
      obtain ⟨p1, p2, p3⟩ := hord.1 n (by omega) (by omega)
      have sr := stale_rel (P := (stS (S 10) n).2) (S 7) (by rw [e1]; exact h.1.1) p1 (i := (n : Int)) ⟨by omega, by omega⟩ (by rw [e1]; exact p3) (fun q => by rw [e1]; exact hq q)
      rw [e, sumN_s, ih (by omega), ← sr]
  unfold v_X5_staleSheets v_X6_stales
  rw [cl 4 (Nat.le_refl _), ml _ (by omega)]
  refine sum_img (fun s => if v_X1_isStale (S 0) (S 7) s = 0 then 0 else 1) o 4 (S 10 1 7).toNat (fun s => 1 ≤ S 0 8 s) (fun s => inferInstance) (fun i a b => (hord.1 i a (by omega)).1) (fun i j a b d => ord_inj hord a b (by omega)) (fun s s0 s1 => ?_)
  constructor
  · intro q
    obtain ⟨i, a, b, d⟩ := hord.2.2 s s0 (by omega) q
    exact ⟨i, a, by omega, d⟩
  · rintro ⟨i, a, b, d⟩
    rw [← d]; exact (hord.1 i a (by omega)).2.1.1
theorem bt_count {S : hS} {c : Int} (h : Inv S c) (hR : hR S) (w : Int) : Both S c (p_X5_count S w) (v_X5_count S w) (m_X5_count S w) (p_X6_count (S 10) w) (v_X6_count (S 10) w) (m_X6_count (S 10) w) := by
  have f := h.1.1.1
  have hm := h.1.1.2.1
  have n := rel_g h.1.1
  have n7 := hm.2.2.2.2.2.1
  have nm := h.1.1.2.2.1
  have b1 := hm.2.1
  obtain ⟨hs, o, hord⟩ := h.1.2.2
  have hord : Ord (S 0) (S 10 1) o := hord
  have sp : p_X5_staleSheets S := by
    intro k T k4 km
    have m := made_iff (A := S 0) (k := (k : Int)) (by omega) (by omega)
    obtain ⟨i, i0, i1, i2⟩ := hord.2.2 k (by omega) (by omega) (Decidable.byContradiction (fun y => km (m.mpr y)))
    rw [← i2]
    exact stale_p h hord i0 i1 T
  have pc : p_X5_count S w := by
    refine ⟨fun _ => trivial, fun _ => ⟨fun _ => ⟨f, trivial⟩, fun _ => ⟨fun _ => trivial, fun _ => ⟨fun _ => ⟨trivial, trivial⟩, fun _ => ⟨fun _ => ⟨sp, trivial⟩, fun _ => ⟨fun _ => ⟨f, trivial⟩, fun _ => ⟨fun _ => trivial, fun _ => ⟨fun _ => trivial, fun _ => ⟨fun _ => trivial, fun _ => ⟨fun _ => trivial, fun _ => ⟨fun e => ⟨⟨by omega, by omega⟩, fun _ => trivial, fun _ => trivial⟩, fun _ => ⟨fun e => ⟨⟨by omega, by omega⟩, fun _ => trivial, fun _ => trivial⟩, fun _ => ⟨fun e => ⟨⟨by omega, by omega⟩, fun _ => trivial, fun _ => trivial⟩, fun _ => ⟨fun _ => trivial, fun _ => ⟨fun _ => trivial, fun _ => ⟨fun _ => trivial, fun _ => ⟨fun _ => trivial, fun _ => ⟨fun _ => trivial, fun _ => ⟨fun _ => trivial, fun _ => ⟨fun _ => trivial, fun _ => ⟨fun _ => trivial, fun _ => ⟨fun _ => trivial, fun _ => trivial⟩⟩⟩⟩⟩⟩⟩⟩⟩⟩⟩⟩⟩⟩⟩⟩⟩⟩⟩⟩⟩⟩
  have s20 : (v_X6_in w 20 21 = 0 → True) ∧ (¬ v_X6_in w 20 21 = 0 → (0 ≤ (5 + w) - 20 ∧ (5 + w) - 20 < 273) ∧ True) := ⟨fun _ => trivial, fun z => ⟨by have := Decidable.not_not.mp (fun y => z (in_0.mpr y)); omega, trivial⟩⟩
  have pm : p_X6_count (S 10) w := by
    refine ⟨fun _ => trivial, fun _ => ⟨fun _ => ⟨hm, trivial⟩, fun _ => ⟨fun _ => trivial, fun _ => ⟨fun _ => trivial, fun _ => ⟨fun _ => ⟨⟨hm, rel_gap h.1.1⟩, trivial⟩, fun _ => ⟨fun _ => ⟨hm, trivial⟩, fun _ => ⟨fun _ => trivial, fun _ => ⟨fun _ => trivial, fun _ => ⟨fun _ => trivial, fun _ => ⟨fun _ => s20, fun _ => ⟨fun e => ⟨⟨by omega, by omega⟩, fun _ => ⟨⟨by omega, by omega⟩, trivial⟩, fun _ => trivial⟩, fun _ => ⟨fun e => ⟨⟨by omega, by omega⟩, fun _ => ⟨⟨by omega, by omega⟩, trivial⟩, fun _ => trivial⟩, fun _ => ⟨fun e => ⟨⟨by omega, by omega⟩, fun _ => ⟨⟨by omega, by omega⟩, trivial⟩, fun _ => trivial⟩, fun _ => s20⟩⟩⟩⟩⟩⟩⟩⟩⟩⟩⟩⟩⟩
  have std : ∀ x : Int, 0 ≤ x → x ≤ 2 → (if x < S 0 0 1 then v_X5_cell (S 0) 6 3 x else -1000004) = (if x < S 10 1 1 then S 10 1 (2 + x) else -1000004) := fun x x0 x2 => by
    rw [nm.2.1]
    by_cases d : x < S 10 1 1
    · rw [if_pos d, if_pos d, cell_in x0 (by omega)]
      exact (h.1.1.2.2.2.1 x x0 d).1
    · rw [if_neg d, if_neg d]
  have kS : ∀ g : Nat, g ≠ 1 → g ≠ 7 → m_X5_count S w g = S g := by
    intro g _ h7
    by_cases e : w = 4
    · subst e
      show m_X5_staleSheets S g = S g
      unfold m_X5_staleSheets
      exact gset_ne h7
    · have : m_X5_count S w = S := by
        unfold m_X5_count
        rw [if_neg e]
        simp only [ite_self]
      rw [this]
  have kP : Keep (S 10) (m_X6_count (S 10) w) ∧ m_X6_count (S 10) w 1 = S 10 1 := by
    by_cases e : w = 4
    · subst e
      exact ⟨stS_keep _ _, stS_row _ _ (by decide) (by decide) (by decide)⟩
    · have : m_X6_count (S 10) w = S 10 := by
        unfold m_X6_count
        rw [if_neg e]
        simp only [ite_self]
      rw [this]
      exact ⟨keep_rfl _, rfl⟩
  refine ⟨pc, ?_, kS 10 (by decide) (by decide), pm, inv_keep h kS kP.1 (fun q _ _ => by rw [kP.2])⟩
  by_cases e0 : w = 0
  · subst e0; exact n.1
  by_cases e1 : w = 1
  · subst e1; exact stems_rel h.1.1
  by_cases e2 : w = 2
  · subst e2; exact nm.2.1
  by_cases e3 : w = 3
  · subst e3; exact held_rel hord n7
  by_cases e4 : w = 4
  · subst e4; exact stales_rel h hR
  by_cases e5 : w = 5
  · subst e5; exact unlike_rel h.1.1
  by_cases e6 : w = 6
  · subst e6; exact h.1.2.1
  by_cases e7 : w = 7
  · subst e7; exact h.2.1.2.1
  by_cases e8 : w = 8
  · subst e8; exact h.2.2.1.1
  by_cases e10 : w = 10
  · subst e10; exact std 0 (by decide) (by decide)
  by_cases e11 : w = 11
  · subst e11; exact std 1 (by decide) (by decide)
  by_cases e12 : w = 12
  · subst e12; exact std 2 (by decide) (by decide)
  by_cases e20 : w = 20
  · subst e20; exact nm.2.2.1
  by_cases e21 : w = 21
  · subst e21; exact nm.2.2.2
  have r : v_X6_count (S 10) w = -1000001 := by
    unfold v_X6_count
    rw [if_neg e0, if_neg e1, if_neg e2, if_neg e3, if_neg e4, if_neg e5, if_neg e6, if_neg e7, if_neg e8, if_neg e10, if_neg e11, if_neg e12, if_pos (show v_X6_in w 20 21 = 0 from in_0.mpr (by omega))]
    split <;> rfl
  rw [r]
  unfold v_X5_count
  rw [if_neg e0, if_neg e1, if_neg e2, if_neg e3, if_neg e4, if_neg e5, if_neg e6, if_neg e7, if_neg e8, if_neg e10, if_neg e11, if_neg e12, if_neg e20, if_neg e21]
  simp only [ite_self]

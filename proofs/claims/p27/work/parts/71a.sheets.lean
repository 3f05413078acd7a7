/-! what the class answers of sheets, and what the law reckons of them -/
/-- a sum over slots is a sum over sheets -/
theorem sum_img (w : Int → Int) (o : Int → Int) (n : Nat) (m : Nat) : ∀ (p : Int → Prop) (_ : DecidablePred p), (∀ i : Int, 0 ≤ i → i < m → 0 ≤ o i ∧ o i < n) → (∀ i j : Int, 0 ≤ i → i < j → j < m → ¬ o i = o j) → (∀ s : Int, 0 ≤ s → s < n → (p s ↔ ∃ i : Int, 0 ≤ i ∧ i < m ∧ o i = s)) → sumN (fun s => if p s then w s else 0) n = sumN (fun i => w (o i)) m := by
  induction m with
  | zero =>
    intro p _ _ _ hp
    exact sumN_0 n (fun k a b => if_neg (fun z => by obtain ⟨i, i0, i1, _⟩ := (hp k a b).mp z; omega))
  | succ m ih =>
    intro p ip hr inj hp
    have i1 := ih (fun s => p s ∧ ¬ s = o m) (fun s => inferInstance) (fun i a b => hr i a (by omega)) (fun i j a b c => inj i j a b (by omega)) (fun s s0 s1 => by
      rw [hp s s0 s1]
      constructor
      · rintro ⟨⟨i, a, b, c⟩, d⟩
        refine ⟨i, a, ?_, c⟩
        by_cases e : i = m
        · subst e; exact absurd c.symm d
        · omega
      · rintro ⟨i, a, b, c⟩
        refine ⟨⟨i, a, by omega, c⟩, fun d => ?_⟩
        exact inj i m a b (by omega) (c.trans d))
    have rm := hr m (by omega) (by omega)
    rw [sumN_upd (f := fun s => if p s ∧ ¬ s = o m then w s else 0) (f' := fun s => if p s then w s else 0) (i := o m) n (fun k hk => by
      show (if p k then w k else 0) = (if p k ∧ ¬ k = o m then w k else 0)
      by_cases c : p k
      · rw [if_pos c, if_pos ⟨c, hk⟩]
      · rw [if_neg c, if_neg (fun z => c z.1)]), i1, if_pos rm, sumN_s]
    show _ + ((if p (o m) then w (o m) else 0) - (if p (o m) ∧ ¬ o m = o m then w (o m) else 0)) = _
    rw [if_pos ((hp (o m) rm.1 rm.2).mpr ⟨m, by omega, by omega, rfl⟩), if_neg (fun z => z.2 rfl)]
    omega
theorem bitOf_l (L : Int) (c : Nat) (hc : c < 64) : jToI (jAnd (jShr L c) 1) = if (bl L).testBit c = true then 1 else 0 := by
  have e : bitsOf (jToI (jAnd (jShr L c) 1)) = if (bl L).testBit c = true then 1 else 0 := by
    rw [bits_jToI, bl_and, show bl 1 = 1 from rfl, and1_bit]
    have e2 : (bl (jShr L c)).testBit 0 = (bl L).testBit c := by
      unfold bl jShr
      rw [hJ_of]
      show ((hJ L).toBitVec.sshiftRight' (((hI (c : Int)).toInt64 &&& 63).toBitVec.smod 64)).getLsbD 0 = (hJ L).toBitVec.getLsbD c
      rw [BitVec.getLsbD_sshiftRight', shl_amt c hc]
      simp [hc]
    rw [e2]
    split <;> rfl
  have hin : hIn (jToI (jAnd (jShr L c) 1)) := hIn_toInt _
  by_cases h : (bl L).testBit c = true
  · rw [if_pos h] at e ⊢; exact small_of_bits hin (by decide) e
  · rw [if_neg h] at e ⊢; exact small_of_bits hin (by decide) e
/-- whether a sheet is stale, as the law looks at its first n glyphs -/
def stL (A P : hGM) (k : Int) : Nat → Int
  | 0 => if P 9 k = P 1 0 then 0 else 1
  | n + 1 => if stL A P k n = 0 then (if P 10 (8 * k + n) = v_X0_columnsOf (A 1 n) (P 8 k) ∧ jCmp (P 111 (8 * k + n)) (litV A n (P 8 k) (A 2 n).toNat) = 0 then 0 else 1) else 1
theorem stL_s (A P : hGM) (k : Int) (n : Nat) : stL A P k (n + 1) = if stL A P k n = 0 then (if P 10 (8 * k + n) = v_X0_columnsOf (A 1 n) (P 8 k) ∧ jCmp (P 111 (8 * k + n)) (litV A n (P 8 k) (A 2 n).toNat) = 0 then 0 else 1) else 1 := rfl
theorem stL_01 (A P : hGM) (k : Int) (n : Nat) : stL A P k n = 0 ∨ stL A P k n = 1 := by
  cases n with
  | zero => unfold stL; split; exact Or.inl rfl; exact Or.inr rfl
  | succ n => unfold stL; split; split; exact Or.inl rfl; exact Or.inr rfl; exact Or.inr rfl
theorem stL_c (A P : hGM) (k : Int) (n : Nat) : stL A P k n = 0 ↔ (P 9 k = P 1 0 ∧ ∀ g : Nat, g < n → P 10 (8 * k + g) = v_X0_columnsOf (A 1 g) (P 8 k) ∧ jCmp (P 111 (8 * k + g)) (litV A g (P 8 k) (A 2 g).toNat) = 0) := by
  induction n with
  | zero =>
    have e : stL A P k 0 = if P 9 k = P 1 0 then 0 else 1 := rfl
    rw [e]
    by_cases c : P 9 k = P 1 0
    · rw [if_pos c]; exact ⟨fun _ => ⟨c, fun g hg => by omega⟩, fun _ => rfl⟩
    · rw [if_neg c]; exact ⟨fun z => absurd z (by decide), fun z => absurd z.1 c⟩
  | succ n ih =>
    rw [stL_s]
    by_cases c : stL A P k n = 0
    · rw [if_pos c]
      have i1 := ih.mp c
      by_cases d : P 10 (8 * k + n) = v_X0_columnsOf (A 1 n) (P 8 k) ∧ jCmp (P 111 (8 * k + n)) (litV A n (P 8 k) (A 2 n).toNat) = 0
      · rw [if_pos d]
        refine ⟨fun _ => ⟨i1.1, fun g hg => ?_⟩, fun _ => rfl⟩
        by_cases e : g = n
        · rw [e]; exact d
        · exact i1.2 g (by omega)
      · rw [if_neg d]
        exact ⟨fun z => absurd z (by decide), fun z => absurd (z.2 n (by omega)) d⟩
    · rw [if_neg c]
      exact ⟨fun z => absurd z (by decide), fun z => absurd (ih.mpr ⟨z.1, fun g hg => z.2 g (by omega)⟩) c⟩
theorem stale_eq {A P : hGM} (T : hGM) (h : RL0 A P) {s k : Int} (hs : ShL A P s k) : v_X1_isStale A T s = stL A P k (P 9 k).toNat := by
  have ng := rl_g h
  obtain ⟨w9, w96, w10, w100, wg⟩ := hs
  have bad : ∀ g : Int, 0 ≤ g → g < A 10 s → (stBad A T s g = false ↔ (P 10 (8 * k + g) = v_X0_columnsOf (A 1 g) (P 8 k) ∧ jCmp (P 111 (8 * k + g)) (litV A g (P 8 k) (A 2 g).toNat) = 0)) := fun g g0 g1 => by
    have q := wg g g0 g1
    have e0 : m_X0_lay A (stT A T (A 9 s) g.toNat) g (A 9 s) 0 0 = v_X0_columnsOf (A 1 g) (P 8 k) := by rw [← w9]; exact layT_00 A _ g (A 9 s) _
    have e1 : m_X0_lay A (stT A T (A 9 s) g.toNat) g (A 9 s) 100 0 = litV A g (P 8 k) (A 2 g).toNat := by rw [lay_lit, w9]
    unfold stBad
    rw [e0, e1, q.1, q.2]
    constructor
    · intro z
      have z := Decidable.not_not.mp (of_decide_eq_false z)
      exact ⟨z.1.symm, jCmp_0.mpr (jCmp_0.mp z.2).symm⟩
    · intro z
      exact decide_eq_false (fun y => y ⟨z.1.symm, jCmp_0.mpr (jCmp_0.mp z.2).symm⟩)
  have c := stL_c A P k (P 9 k).toNat
  have o1 := stL_01 A P k (P 9 k).toNat
  unfold v_X1_isStale
  by_cases e : A 10 s = A 0 0
  · rw [if_pos e]
    rcases firstN_spec (stBad A T s) (A 0 0).toNat with ⟨a, f⟩ | ⟨a, d, f, _⟩
    · rw [if_pos a]
      refine (c.mpr ⟨by rw [← w10, e, ng.1], fun g hg => ?_⟩).symm
      exact (bad g (by omega) (by omega)).mp (f g (by omega) (by omega))
    · rw [if_neg (by omega)]
      rcases o1 with o1 | o1
      · exfalso
        have q := (c.mp o1).2 (firstN (stBad A T s) (A 0 0).toNat).toNat (by omega)
        rw [Int.toNat_of_nonneg a] at q
        rw [(bad _ a (by omega)).mpr q] at f
        cases f
      · exact o1.symm
  · rw [if_neg e]
    rcases o1 with o1 | o1
    · exact absurd (by rw [w10, (c.mp o1).1, ng.1]) e
    · exact o1.symm
/-- lit columns of a sheet, as the law counts them -/
def lmL (P : hGM) (k : Int) (n : Nat) : Int := sumN (fun g => v_L_many (P 111 (8 * k + g))) n
theorem lmL_bd (P : hGM) (k : Int) (n : Nat) : 0 ≤ lmL P k n ∧ lmL P k n ≤ 64 * n := sumN_bd n (fun g _ _ => by
  have b := popB_le 64 (bl (P 111 (8 * k + g)))
  have e : v_L_many (P 111 (8 * k + g)) = ((popB 64 (bl (P 111 (8 * k + g))) : Nat) : Int) := rfl
  omega)
theorem lit_eq {A P : hGM} {s k : Int} (s0 : 0 ≤ s) (s1 : s < 4) (hs : ShL A P s k) (n8 : A 0 0 ≤ 8) : v_X4_litTogether A s = lmL P k (P 9 k).toNat := by
  obtain ⟨w9, w96, w10, w100, wg⟩ := hs
  unfold v_X4_litTogether lmL
  rw [cell_in s0 (by omega), w10]
  refine sumN_congr _ (fun g a b => ?_)
  have q := (wg g a (by omega)).2
  show v_J13_bitCount_95d88 (v_X4_litAt A (s * 8 + g)) = v_L_many (P 111 (8 * k + g))
  rw [litAt_in (by omega) (by omega), q, bitCount_v]
  rfl
/-! the calls -/
theorem sh_no {S : hS} {P : hGM} {N : Int} {o : Int → Int} (h : OrdL (S 0) P N o) (b : 0 ≤ N ∧ N ≤ 4) {x w : Int} (x0 : N ≤ x) (hw : 0 ≤ w ∧ w ≤ 3) : p_X5_sheetOf S x w ∧ v_X5_sheetOf S x w = -1000004 ∧ m_X5_sheetOf S x w = S := by
  have c1 : ¬ x < 0 := by omega
  have c2 : ¬ v_X5_within w 0 3 = 0 := within_y hw
  have sa := slotAt_rel h b (x := x) (by omega)
  rw [if_neg (by omega)] at sa
  have c3 : v_X4_slotAt (S 0) x < 0 := by omega
  refine ⟨⟨fun z => absurd z c1, fun _ => ⟨fun z => absurd z c2, fun _ => ⟨trivial, fun _ => trivial, fun z => absurd c3 z⟩⟩⟩, ?_, ?_⟩
  · unfold v_X5_sheetOf
    rw [if_neg c1, if_neg c2, if_pos c3]
  · unfold m_X5_sheetOf
    rw [if_neg c1, if_neg c2, if_pos c3]
theorem sh_bad (S : hS) {x w : Int} (h : x < 0 ∨ ¬ (0 ≤ w ∧ w ≤ 3)) : p_X5_sheetOf S x w ∧ v_X5_sheetOf S x w = -1000001 ∧ m_X5_sheetOf S x w = S := by
  unfold p_X5_sheetOf v_X5_sheetOf m_X5_sheetOf
  by_cases c1 : x < 0
  · rw [if_pos c1, if_pos c1]
    exact ⟨⟨fun _ => trivial, fun z => absurd c1 z⟩, rfl, rfl⟩
  · have c2 : v_X5_within w 0 3 = 0 := within_0.mpr (by omega)
    rw [if_neg c1, if_neg c1, if_pos c2, if_pos c2]
    exact ⟨⟨fun z => absurd z c1, fun _ => ⟨fun _ => trivial, fun z => absurd c2 z⟩⟩, rfl, rfl⟩
theorem sh_at {S : hS} {P : hGM} (hr : RL0 (S 0) P) {N : Int} {o : Int → Int} (h : OrdL (S 0) P N o) (b : 0 ≤ N ∧ N ≤ 4) {x : Int} (x0 : 0 ≤ x) (x1 : x < N) : (∀ w : Int, p_X5_sheetOf S x w ∧ Sam S (m_X5_sheetOf S x w)) ∧ v_X5_sheetOf S x 0 = P 8 x ∧ v_X5_sheetOf S x 1 = P 9 x ∧ v_X5_sheetOf S x 2 = stL (S 0) P x (P 9 x).toNat ∧ v_X5_sheetOf S x 3 = lmL P x (P 9 x).toNat := by
  have ng := rl_g hr
  have f := hr.1
  have c1 : ¬ x < 0 := by omega
  have sa := slotAt_rel h b (x := x) x0
  rw [if_pos x1] at sa
  obtain ⟨p1, p2, p3⟩ := h.1 x x0 x1
  have c3 : ¬ o x < 0 := by omega
  have sp := stale_p f h x0 x1 (S 7)
  have se := stale_eq (S 7) hr p3
  have le := lit_eq p1.1 p1.2 p3 ng.2.2
  have pb : ∀ k : Int, 0 ≤ k → k < 32 → 0 ≤ v_J13_bitCount_95d88 (v_X4_litAt (S 0) k) ∧ v_J13_bitCount_95d88 (v_X4_litAt (S 0) k) ≤ 64 := fun k _ _ => by
    rw [bitCount_v]
    have := popB_le 64 (bl (v_X4_litAt (S 0) k))
    omega
  have pl : p_X4_litTogether (S 0) (o x) := ⟨p1.1, p1.2, by rw [cell_in p1.1 (by omega)]; have := p3.2.2.2.1; omega, pb⟩
  have w03 : ∀ w : Int, 0 ≤ w → w ≤ 3 → ¬ v_X5_within w 0 3 = 0 := fun w a c => within_y ⟨a, c⟩
  refine ⟨fun w => ⟨?_, ?_⟩, ?_, ?_, ?_, ?_⟩
  · unfold p_X5_sheetOf
    rw [sa]
    exact ⟨fun z => absurd z c1, fun _ => ⟨fun _ => trivial, fun _ => ⟨trivial, fun z => absurd z c3, fun _ => ⟨fun _ => trivial, fun _ => ⟨fun _ => trivial, fun _ => ⟨fun _ => ⟨sp, fun _ => trivial, fun _ => trivial⟩, fun _ => ⟨pl, trivial⟩⟩⟩⟩⟩⟩⟩
  · unfold m_X5_sheetOf
    rw [if_neg c1, sa, if_neg c3]
    intro g h7
    split
    · rfl
    · split
      · rfl
      · split
        · rfl
        · split
          · split <;> exact gset_ne h7
          · rfl
  · unfold v_X5_sheetOf
    rw [if_neg c1, if_neg (w03 0 (by decide) (by decide)), sa, if_neg c3, if_pos rfl, cell_in p1.1 (by omega)]
    exact p3.1
  · unfold v_X5_sheetOf
    rw [if_neg c1, if_neg (w03 1 (by decide) (by decide)), sa, if_neg c3, if_neg (by decide), if_pos rfl, cell_in p1.1 (by omega)]
    exact p3.2.2.1
  · unfold v_X5_sheetOf
    rw [if_neg c1, if_neg (w03 2 (by decide) (by decide)), sa, if_neg c3, if_neg (by decide), if_neg (by decide), if_pos rfl, se]
    rcases stL_01 (S 0) P x (P 9 x).toNat with e | e
    · rw [e]; rfl
    · rw [e]; rfl
  · unfold v_X5_sheetOf
    rw [if_neg c1, if_neg (w03 3 (by decide) (by decide)), sa, if_neg c3, if_neg (by decide), if_neg (by decide), if_neg (by decide)]
    exact le
theorem in_at {S : hS} {P : hGM} (hr : RL0 (S 0) P) {N : Int} {o : Int → Int} (h : OrdL (S 0) P N o) (b : 0 ≤ N ∧ N ≤ 4) {x g c : Int} (x0 : 0 ≤ x) (x1 : x < N) (g0 : 0 ≤ g) (g1 : g < 8) (c0 : 0 ≤ c) (c1 : c < 64) : p_X5_inSheet S (P 8 x) g c ∧ v_X5_inSheet S (P 8 x) g c = if g < P 9 x ∧ c < P 10 (8 * x + g) then jToI (jAnd (jShr (P 111 (8 * x + g)) c) 1) else -1000004 := by
  have ng := rl_g hr
  obtain ⟨p1, p2, p3⟩ := h.1 x x0 x1
  have e9 : P 8 x = S 0 9 (o x) := p3.1.symm
  have so : v_X4_slotOf (S 0) (P 8 x) = o x := by
    rcases slotOf_c h b (P 8 x) with ⟨_, q⟩ | ⟨i, i0, i1, i2, i3⟩
    · exact absurd e9.symm (q x x0 x1)
    · have : i = x := by
        rcases Int.lt_trichotomy i x with y | y | y
        · exact absurd (i3.trans e9) (h.2.1 i x i0 y x1).2
        · exact y
        · exact absurd (e9.symm.trans i3.symm) (h.2.1 x i x0 y i1).2
      rw [i2, this]
  have k1 : ¬ v_X5_isSize (P 8 x) = 0 := within_y (by rw [e9]; exact p3.2.1)
  have k2 : ¬ v_X5_within g 0 7 = 0 := within_y (by omega)
  have k3 : ¬ v_X5_within c 0 63 = 0 := within_y (by omega)
  have k4 : ¬ o x < 0 := by omega
  have e10 : v_X5_cell (S 0) 10 4 (o x) = P 9 x := by rw [cell_in p1.1 (by omega)]; exact p3.2.2.1
  have w100 := p3.2.2.2.1
  have e10' : S 0 10 (o x) = P 9 x := p3.2.2.1
  refine ⟨?_, ?_⟩
  · unfold p_X5_inSheet
    rw [so]
    exact ⟨fun z => absurd z k1, fun _ => ⟨fun z => absurd z k2, fun _ => ⟨fun z => absurd z k3, fun _ => ⟨trivial, fun z => absurd z k4, fun _ => ⟨fun _ => ⟨⟨by omega, by omega⟩, fun _ => trivial, fun _ => trivial⟩, fun _ => trivial⟩⟩⟩⟩⟩
  · unfold v_X5_inSheet
    rw [if_neg k1, if_neg k2, if_neg k3, so, if_neg k4, e10]
    by_cases d : g < P 9 x
    · have q := p3.2.2.2.2 g g0 (by omega)
      rw [if_pos d, cell_in (by omega) (by omega), litAt_in (by omega) (by omega), q.1, q.2]
      by_cases e : c < P 10 (8 * x + g)
      · rw [if_pos e, if_pos ⟨d, e⟩]
        have u := bitOf_v (P 111 (8 * x + g)) c.toNat (by omega)
        have v := bitOf_l (P 111 (8 * x + g)) c.toNat (by omega)
        rw [Int.toNat_of_nonneg c0] at u v
        rw [u, v]
      · rw [if_neg e, if_neg (fun z => e z.2)]
    · rw [if_neg d, if_neg (fun z => d z.1)]
/-- stale sheets -/
theorem stales_eq {S : hS} {P : hGM} (hr : RL0 (S 0) P) {N : Int} {o : Int → Int} (hord : OrdL (S 0) P N o) (b : 0 ≤ N ∧ N ≤ 4) : v_X5_staleSheets S = sumN (fun i => stL (S 0) P i (P 9 i).toNat) N.toNat := by
  have any : ∀ (T : hGM) (i : Int), 0 ≤ i → i < N → v_X1_isStale (S 0) T (o i) = stL (S 0) P i (P 9 i).toNat := fun T i i0 i1 => stale_eq T hr (hord.1 i i0 i1).2.2
  have cl : ∀ n : Nat, n ≤ 4 → (slS (S 0) (S 7) n).1 = sumN (fun s => if 1 ≤ S 0 8 s then v_X1_isStale (S 0) (S 7) s else 0) n := by
    intro n
    induction n with
    | zero => intro _; rfl
    | succ n ih =>
      intro hn
      have e : slS (S 0) (S 7) (n + 1) = if v_X4_isMade (S 0) n = 0 then slS (S 0) (S 7) n else ((slS (S 0) (S 7) n).1 + (if v_X1_isStale (S 0) (slS (S 0) (S 7) n).2 n = 0 then 0 else 1), m_X1_isStale (S 0) (slS (S 0) (S 7) n).2 n) := rfl
      have m := made_iff (A := S 0) (k := (n : Int)) (by omega) (by omega)
      rw [e, sumN_s, ← ih (by omega)]
      by_cases d : v_X4_isMade (S 0) n = 0
      · rw [if_pos d, if_neg (m.mp d), Int.add_zero]
      · have d1 : 1 ≤ S 0 8 n := Decidable.byContradiction (fun y => d (m.mpr y))
        obtain ⟨i, i0, i1, i2⟩ := hord.2.2 n (by omega) (by omega) d1
        rw [if_neg d, if_pos d1]
        show (slS (S 0) (S 7) n).1 + (if v_X1_isStale (S 0) (slS (S 0) (S 7) n).2 n = 0 then 0 else 1) = _
        rw [← i2, any _ i i0 i1, any _ i i0 i1]
        rcases stL_01 (S 0) P i (P 9 i).toNat with q | q
        · rw [q]; rfl
        · rw [q]; rfl
  unfold v_X5_staleSheets
  rw [cl 4 (Nat.le_refl _), sum_img (fun s => v_X1_isStale (S 0) (S 7) s) o 4 N.toNat (fun s => 1 ≤ S 0 8 s) (fun s => inferInstance) (fun i a b => (hord.1 i a (by omega)).1) (fun i j a b d => ord_inj hord a b (by omega)) (fun s s0 s1 => ?_)]
  · exact sumN_congr _ (fun i a c => any _ i a (by omega))
  constructor
  · intro q
    obtain ⟨i, a, b, d⟩ := hord.2.2 s s0 (by omega) q
    exact ⟨i, a, by omega, d⟩
  · rintro ⟨i, a, b, d⟩
    rw [← d]; exact (hord.1 i a (by omega)).2.1.1

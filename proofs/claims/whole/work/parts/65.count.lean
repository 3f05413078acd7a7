/-! sums over stems: flat in the class, by glyphs in the model -/
theorem sumN_s (f : Int → Int) (n : Nat) : sumN f (n + 1) = sumN f n + f n := rfl
theorem sumN_add (f : Int → Int) (a b : Nat) : sumN f (a + b) = sumN f a + sumN (fun k => f (a + k)) b := by
  induction b with
  | zero => show sumN f a = sumN f a + 0; omega
  | succ b ih =>
    show sumN f (a + b) + f ((a + b : Nat) : Int) = sumN f a + (sumN (fun k => f (a + k)) b + f (a + b))
    rw [ih, Int.natCast_add]
    omega
theorem sumN_0 {f : Int → Int} (n : Nat) (h : ∀ k : Int, 0 ≤ k → k < n → f k = 0) : sumN f n = 0 := by
  induction n with
  | zero => rfl
  | succ n ih => rw [sumN_s, ih (fun k a b => h k a (by omega)), h n (by omega) (by omega)]; rfl
theorem sumN_cut {f : Int → Int} {m n : Nat} (hm : m ≤ n) (h : ∀ k : Int, m ≤ k → k < n → f k = 0) : sumN f n = sumN f m := by
  obtain ⟨d, rfl⟩ : ∃ d, n = m + d := ⟨n - m, by omega⟩
  rw [sumN_add, sumN_0 d (fun k a b => h (m + k) (by omega) (by omega))]
  omega
theorem sumN_6 (f : Int → Int) (n : Nat) : sumN f (6 * n) = sumN (fun g => sumN (fun k => f (g * 6 + k)) 6) n := by
  induction n with
  | zero => rfl
  | succ n ih =>
    rw [show 6 * (n + 1) = 6 * n + 6 by omega, sumN_add, ih, sumN_s]
    congr 1
    refine sumN_congr 6 (fun k a b => ?_)
    show f (((6 * n : Nat) : Int) + k) = f ((n : Int) * 6 + k)
    rw [show ((6 * n : Nat) : Int) = (n : Int) * 6 by omega]
theorem dbl_congr {f f' : Int → Int → Int} {M M' : Int → Nat} {N N' : Nat} (hN : N = N') (hM : ∀ g : Int, 0 ≤ g → g < N → M g = M' g) (hf : ∀ g k : Int, 0 ≤ g → g < N → 0 ≤ k → k < M g → f g k = f' g k) : dbl f M N = dbl f' M' N' := by
  subst hN
  unfold dbl
  refine sumN_congr N (fun g a b => ?_)
  rw [← hM g a b]
  exact sumN_congr _ (fun k c d => hf g k a b c d)
theorem flat_dbl {A : hGM} {r : Int → Int} (h : Rel0 A r) (F : Int → Int) (f : Int → Int → Int) (hz : ∀ k : Int, 0 ≤ k → k < 48 → A 4 k = 0 → F k = 0) (hf : ∀ g k : Int, 0 ≤ g → g < A 0 0 → 0 ≤ k → k < A 2 g → F (g * 6 + k) = f g k) : sumN F 48 = dbl f (fun g => (A 2 g).toNat) (A 0 0).toNat := by
  have n := rel_g h
  rw [show (48 : Nat) = 6 * 8 from rfl, sumN_6]
  have tail : ∀ g : Int, 0 ≤ g → g < 8 → sumN (fun k => F (g * 6 + k)) 6 = sumN (fun k => F (g * 6 + k)) (A 2 g).toNat := by
    intro g g0 g1
    have m := rel_many h g0 g1
    refine sumN_cut (by omega) (fun k a b => hz _ (by omega) (by omega) ?_)
    exact (h.2.2.2.2.2 g k g0 g1 (by omega) (by omega)).2 (by omega)
  rw [sumN_cut (m := (A 0 0).toNat) (n := 8) (by omega) (fun g a b => ?_)]
  · unfold dbl
    refine sumN_congr _ (fun g a b => ?_)
    have m := rel_many h a (by omega)
    show sumN (fun k => F (g * 6 + k)) 6 = _
    rw [tail g a (by omega)]
    exact sumN_congr _ (fun k c d => hf g k a (by omega) c (by omega))
  · have m := rel_many h (g := g) (by omega) (by omega)
    show sumN (fun k => F (g * 6 + k)) 6 = 0
    rw [tail g (by omega) (by omega), m.2.2.2 (by omega)]
    rfl
theorem mod_dbl {A P : hGM} (h : Rel0 A (P 1)) {f f' : Int → Int → Int} (hf : ∀ g k : Int, 0 ≤ g → g < A 0 0 → 0 ≤ k → k < A 2 g → f g k = f' g k) : dbl f (fun g => (v_X6_of P g 1).toNat) (P 1 0).toNat = dbl f' (fun g => (A 2 g).toNat) (A 0 0).toNat := by
  have n := rel_g h
  refine dbl_congr (by rw [n.1]) (fun g a b => ?_) (fun g k a b c d => ?_)
  · show (v_X6_of P g 1).toNat = (A 2 g).toNat
    rw [rel_of h a (by omega)]
  · have e := rel_of h a (g := g) (by omega)
    have d : k < ((v_X6_of P g 1).toNat : Int) := d
    exact hf g k a (by omega) c (by omega)
theorem snapping_rel {A P : hGM} (h : Rel0 A (P 1)) {w : Int} (w1 : 1 ≤ w) : v_X1_snappingTo A w = snapsTo P w := by
  unfold v_X1_snappingTo snapsTo
  rw [mod_dbl h (f' := fun g k => if v_X1_snapOf A (A 4 (g * 6 + k)) = w then 1 else 0) (fun g k g0 g1 k0 k1 => ?_)]
  · refine flat_dbl h _ _ (fun k a b c => ?_) (fun g k g0 g1 k0 k1 => ?_)
    · show (if 0 < A 4 k ∧ _ then (1 : Int) else 0) = 0
      rw [if_neg (by omega)]
    · have n := rel_g h
      have q := rel_stem h g0 (by omega) k0 k1
      show (if 0 < A 4 (g * 6 + k) ∧ _ then (1 : Int) else 0) = (if v_X1_snapOf A (A 4 (g * 6 + k)) = w then 1 else 0)
      by_cases c : v_X1_snapOf A (A 4 (g * 6 + k)) = w
      · rw [if_pos c, if_pos ⟨by omega, c⟩]
      · rw [if_neg c, if_neg (fun z => c z.2)]
  · have n := rel_g h
    show (if v_X6_snaps P (v_X6_ofStem P g k 1) = w then (1 : Int) else 0) = _
    rw [(ofStem_rel h g0 (by omega) k0 k1).2.1]
    rcases snap_rel h (A 4 (g * 6 + k)) with ⟨a, b⟩ | ⟨a, b⟩
    · rw [a, b, if_neg (by omega), if_neg (by omega)]
    · rw [b]
theorem alike_flat {A P : hGM} (h : Rel0 A (P 1)) (w : Int) : v_X6_alike P w = sumN (fun k => if 0 < A 4 k ∧ v_X1_hintedWidth A (A 4 k) = w then 1 else 0) 48 := by
  unfold v_X6_alike
  rw [mod_dbl h (f' := fun g k => if v_X1_hintedWidth A (A 4 (g * 6 + k)) = w then 1 else 0) (fun g k g0 g1 k0 k1 => ?_)]
  · symm
    refine flat_dbl h _ _ (fun k a b c => ?_) (fun g k g0 g1 k0 k1 => ?_)
    · show (if 0 < A 4 k ∧ _ then (1 : Int) else 0) = 0
      rw [if_neg (by omega)]
    · have n := rel_g h
      have q := rel_stem h g0 (by omega) k0 k1
      show (if 0 < A 4 (g * 6 + k) ∧ _ then (1 : Int) else 0) = (if v_X1_hintedWidth A (A 4 (g * 6 + k)) = w then 1 else 0)
      by_cases c : v_X1_hintedWidth A (A 4 (g * 6 + k)) = w
      · rw [if_pos c, if_pos ⟨by omega, c⟩]
      · rw [if_neg c, if_neg (fun z => c z.2)]
  · have n := rel_g h
    show (if v_X6_hinted P g k = w then (1 : Int) else 0) = _
    rw [hinted_rel h g0 (by omega) k0 k1]
theorem alike_rel {A P : hGM} (h : Rel0 A (P 1)) (w : Int) : v_X1_alikeWith A w = v_X6_alike P (v_X1_hintedWidth A w) := by
  rw [alike_flat h]
  rfl
theorem stems_rel {A P : hGM} (h : Rel0 A (P 1)) : v_X1_stemsTogether A = v_X6_stems P := by
  have n := rel_g h
  unfold v_X1_stemsTogether v_X6_stems
  rw [sumN_cut (m := (P 1 0).toNat) (n := 8) (by omega) (fun g a b => (rel_many h (by omega) b).2.2.2 (by omega))]
  exact sumN_congr _ (fun g a b => (rel_of h a (by omega)).symm)
theorem widths_rel {A P : hGM} (h : Rel0 A (P 1)) : v_X1_widthsTogether A = dbl (fun g k => v_X6_ofStem P g k 1) (fun g => (v_X6_of P g 1).toNat) (P 1 0).toNat := by
  have n := rel_g h
  unfold v_X1_widthsTogether
  rw [mod_dbl h (f' := fun g k => A 4 (g * 6 + k)) (fun g k g0 g1 k0 k1 => (ofStem_rel h g0 (by omega) k0 k1).2.1)]
  exact flat_dbl h _ _ (fun k a b c => c) (fun g k g0 g1 k0 k1 => rfl)
/-! how many hinted widths are unlike -/
theorem sumN_upd {f f' : Int → Int} {i : Int} (n : Nat) (h : ∀ k : Int, k ≠ i → f' k = f k) : sumN f' n = sumN f n + (if 0 ≤ i ∧ i < n then f' i - f i else 0) := by
  induction n with
  | zero => show (0 : Int) = 0 + _; rw [if_neg (by omega)]; rfl
  | succ n ih =>
    rw [sumN_s, sumN_s, ih]
    by_cases e : (n : Int) = i
    · subst e
      rw [if_neg (by omega), if_pos (by omega)]; omega
    · rw [h n e]
      by_cases c : 0 ≤ i ∧ i < n
      · rw [if_pos c, if_pos (by omega)]; omega
      · rw [if_neg c, if_neg (by omega)]; omega
theorem cnt_some {p : Int → Prop} [DecidablePred p] (n : Nat) : 0 < sumN (fun k => if p k then 1 else 0) n ↔ ∃ k : Int, 0 ≤ k ∧ k < n ∧ p k := by
  induction n with
  | zero => exact ⟨fun q => absurd q (Int.lt_irrefl 0), fun ⟨k, a, b, _⟩ => by omega⟩
  | succ n ih =>
    have b := cnt_bd p n
    rw [sumN_s]
    by_cases c : p n
    · rw [if_pos c]
      exact ⟨fun _ => ⟨n, by omega, by omega, c⟩, fun _ => by omega⟩
    · rw [if_neg c, Int.add_zero, ih]
      constructor
      · rintro ⟨k, k0, k1, k2⟩; exact ⟨k, k0, by omega, k2⟩
      · rintro ⟨k, k0, k1, k2⟩
        refine ⟨k, k0, ?_, k2⟩
        by_cases e : k = n
        · subst e; exact absurd k2 c
        · omega
theorem unlike_ind (m : Int → Bool) (v : Int → Int) (n : Nat) (hv : ∀ k : Int, 0 ≤ k → k < n → m k = true → 1 ≤ v k ∧ v k ≤ 300) :
    sumN (fun k => if m k = true ∧ firstN (fun j => decide (m j = true ∧ v j = v k)) k.toNat = -1 then 1 else 0) n = sumN (fun w => if 0 < sumN (fun k => if m k = true ∧ v k = 1 + w then 1 else 0) n then 1 else 0) 300 := by
  induction n with
  | zero =>
    symm
    exact sumN_0 300 (fun k a b => if_neg (Int.lt_irrefl 0))
  | succ n ih =>
    have ih := ih (fun k a b => hv k a (by omega))
    rw [sumN_s, ih]
    have st : ∀ w : Int, sumN (fun k => if m k = true ∧ v k = 1 + w then 1 else 0) (n + 1) = sumN (fun k => if m k = true ∧ v k = 1 + w then 1 else 0) n + (if m n = true ∧ v n = 1 + w then 1 else 0) := fun w => rfl
    have nn : ∀ w : Int, 0 ≤ sumN (fun k => if m k = true ∧ v k = 1 + w then 1 else 0) n := fun w => (cnt_bd (fun k => m k = true ∧ v k = 1 + w) n).1
    rw [sumN_upd (f := fun w => if 0 < sumN (fun k => if m k = true ∧ v k = 1 + w then 1 else 0) n then 1 else 0) (f' := fun w => if 0 < sumN (fun k => if m k = true ∧ v k = 1 + w then 1 else 0) (n + 1) then 1 else 0) (i := v n - 1) 300 (fun w hw => by
      show (if 0 < sumN (fun k => if m k = true ∧ v k = 1 + w then 1 else 0) (n + 1) then (1 : Int) else 0) = (if 0 < sumN (fun k => if m k = true ∧ v k = 1 + w then 1 else 0) n then 1 else 0)
      rw [st, if_neg (show ¬ (m n = true ∧ v n = 1 + w) by omega), Int.add_zero])]
    congr 1
    rw [Int.toNat_natCast]
    have fs := firstN_spec (fun j => decide (m j = true ∧ v j = v n)) n
    have cs := cnt_some (p := fun k => m k = true ∧ v k = 1 + (v n - 1)) n
    by_cases c1 : m n = true
    · have b := hv n (by omega) (by omega) c1
      rw [if_pos (show 0 ≤ v n - 1 ∧ v n - 1 < (300 : Nat) by omega)]
      show _ = (if 0 < sumN (fun k => if m k = true ∧ v k = 1 + (v n - 1) then 1 else 0) (n + 1) then (1 : Int) else 0) - (if 0 < sumN (fun k => if m k = true ∧ v k = 1 + (v n - 1) then 1 else 0) n then 1 else 0)
      have q0 := nn (v n - 1)
      rw [st, if_pos (show m n = true ∧ v n = 1 + (v n - 1) from ⟨c1, by omega⟩)]
      rw [if_pos (show 0 < sumN (fun k => if m k = true ∧ v k = 1 + (v n - 1) then 1 else 0) n + 1 by omega)]
      rcases fs with ⟨f1, f2⟩ | ⟨f1, f2, f3, f4⟩
      · rw [if_pos (show m n = true ∧ firstN (fun j => decide (m j = true ∧ v j = v n)) n = -1 from ⟨c1, f1⟩), if_neg (fun z => by
          obtain ⟨k, k0, k1, k2, k3⟩ := cs.mp z
          have := f2 k k0 k1
          exact absurd ⟨k2, by omega⟩ (of_decide_eq_false this))]
        rfl
      · rw [if_neg (fun z => by omega), if_pos (cs.mpr ⟨_, f1, f2, (of_decide_eq_true f3).1, by have := (of_decide_eq_true f3).2; omega⟩)]
        rfl
    · rw [if_neg (fun z => c1 z.1)]
      split
      · show 0 = (if 0 < sumN (fun k => if m k = true ∧ v k = 1 + (v n - 1) then 1 else 0) (n + 1) then (1 : Int) else 0) - (if 0 < sumN (fun k => if m k = true ∧ v k = 1 + (v n - 1) then 1 else 0) n then 1 else 0)
        rw [st, if_neg (show ¬ (m n = true ∧ v n = 1 + (v n - 1)) from fun z => c1 z.1), Int.add_zero]
        omega
      · rfl
theorem unlike_rel {A P : hGM} (h : Rel0 A (P 1)) : v_X1_unlikeWidths A = v_X6_unlikeWidths P := by
  have hv : ∀ k : Int, 0 ≤ k → k < (48 : Nat) → decide (0 < A 4 k) = true → 1 ≤ v_X1_hintedWidth A (A 4 k) ∧ v_X1_hintedWidth A (A 4 k) ≤ 300 := by
    intro k k0 k1 k2
    have k2 := of_decide_eq_true k2
    have n := (h.1.2.2.2.2.2.1 k k0 (by omega)).2.1
    have b := hintW_bd h.1 (w := A 4 k) (by omega) n.2
    refine ⟨?_, b.2⟩
    unfold v_X1_hintedWidth at b ⊢
    have s := snapOf_bd h.1 (w := A 4 k) (by omega) (by omega)
    by_cases c : v_X1_snapOf A (A 4 k) = 0
    · rw [if_pos c]; omega
    · rw [if_neg c]; omega
  have key := unlike_ind (fun k => decide (0 < A 4 k)) (fun k => v_X1_hintedWidth A (A 4 k)) 48 hv
  unfold v_X1_unlikeWidths v_X6_unlikeWidths
  have e1 : sumN (fun k => if 0 < A 4 k ∧ v_X1_isAlikeAhead A k = 0 then 1 else 0) 48 = sumN (fun k => if decide (0 < A 4 k) = true ∧ firstN (fun j => decide (decide (0 < A 4 j) = true ∧ v_X1_hintedWidth A (A 4 j) = v_X1_hintedWidth A (A 4 k))) k.toNat = -1 then 1 else 0) 48 := by
    refine sumN_congr 48 (fun k a b => ?_)
    unfold v_X1_isAlikeAhead
    simp only [decide_eq_true_eq]
    generalize firstN _ k.toNat = x
    by_cases c1 : x = -1
    · simp only [c1, if_true]
    · simp only [c1, if_false, and_false]
      rw [if_neg (by omega)]
  rw [e1, key]
  refine sumN_congr 300 (fun w a b => ?_)
  show (if 0 < sumN (fun k => if decide (0 < A 4 k) = true ∧ v_X1_hintedWidth A (A 4 k) = 1 + w then 1 else 0) 48 then (1 : Int) else 0) = (if v_X6_alike P (1 + w) ≤ 0 then 0 else 1)
  simp only [decide_eq_true_eq]
  rw [alike_flat h]
  generalize sumN _ 48 = x
  by_cases c : 0 < x
  · rw [if_pos c, if_neg (by omega)]
  · rw [if_neg c, if_pos (by omega)]

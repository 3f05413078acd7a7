/-! a sheet is made -/
theorem litN_congr {L L' : hGM} (h5 : L' 5 = L 5) (h6 : L' 6 = L 6) (c : Int) (n : Nat) : litN L' c n = litN L c n := by
  induction n with
  | zero => rfl
  | succ n ih => rw [litN_s, litN_s, ih, h5, h6]
theorem half_congr {L L' : hGM} {g z h : Int} (h5 : L' 5 = L 5) (h6 : L' 6 = L 6) (o : ∀ q : Int, q < 169 → L' 1 q = L 1 q) (g0 : 0 ≤ g) (g1 : g < 8) : v_X6_columns L' g z = v_X6_columns L g z ∧ v_X6_litHalf L' g z h = v_X6_litHalf L g z h := by
  have e0 : v_X6_of L' g 0 = v_X6_of L g 0 := o _ (by omega)
  have e1 : v_X6_of L' g 1 = v_X6_of L g 1 := o _ (by omega)
  have hc : v_X6_columns L' g z = v_X6_columns L g z := by unfold v_X6_columns; rw [e0]
  have hl : ∀ c : Int, v_X6_isLit L' g c = v_X6_isLit L g c := fun c => by
    unfold v_X6_isLit
    rw [e1]
    exact litN_congr h5 h6 c _
  refine ⟨hc, ?_⟩
  have key : ∀ n : Nat, halfN L' g z h n = halfN L g z h n := by
    intro n
    induction n with
    | zero => rfl
    | succ n ih => rw [halfN_s, halfN_s, ih, hc, hl]
  exact key 32
theorem rel0_low {A A' : hGM} {r r' : Int → Int} (h : Rel0 A r) (e : ∀ i : Nat, i < 7 → A' i = A i) (m : mNum r') (o : ∀ q : Int, q < 169 → q ≠ 7 → q ≠ 8 → r' q = r q) : Rel0 A' r' := by
  have hm := h.2.1
  refine ⟨fNum_of h.1 e, m, ?_, ?_, ?_, ?_⟩
  · rw [e 0 (by decide), o 0 (by decide) (by decide) (by decide), o 1 (by decide) (by decide) (by decide), o 5 (by decide) (by decide) (by decide), o 6 (by decide) (by decide) (by decide)]
    exact h.2.2.1
  · intro k k0 k1
    have b := hm.2.1
    rw [o 1 (by decide) (by decide) (by decide)] at k1
    rw [e 6 (by decide), o (2 + k) (by omega) (by omega) (by omega)]
    exact h.2.2.2.1 k k0 k1
  · intro g g0 g1
    rw [e 1 (by decide), e 2 (by decide), o 0 (by decide) (by decide) (by decide), o (9 + 20 * g) (by omega) (by omega) (by omega), o (9 + 20 * g + 1) (by omega) (by omega) (by omega)]
    exact h.2.2.2.2.1 g g0 g1
  · intro g k g0 g1 k0 k1
    rw [e 2 (by decide), e 3 (by decide), e 4 (by decide), e 5 (by decide), o (v_X6_at g k 0) (by unfold v_X6_at; omega) (by unfold v_X6_at; omega) (by unfold v_X6_at; omega), o (v_X6_at g k 1) (by unfold v_X6_at; omega) (by unfold v_X6_at; omega) (by unfold v_X6_at; omega), o (v_X6_at g k 2) (by unfold v_X6_at; omega) (by unfold v_X6_at; omega) (by unfold v_X6_at; omega)]
    exact h.2.2.2.2.2 g k g0 g1 k0 k1
theorem mNum_78 {r r' : Int → Int} (h : mNum r) (o : ∀ q : Int, q ≠ 7 → q ≠ 8 → r' q = r q) (o7 : 0 ≤ r' 7 ∧ r' 7 ≤ 4) (o8 : 0 ≤ r' 8 ∧ r' 8 ≤ 1000000) : mNum r' := by
  obtain ⟨a0, a1, a2, a5, a6, a7, a8, a9, a10⟩ := h
  refine ⟨by rw [o 0 (by decide) (by decide)]; exact a0, by rw [o 1 (by decide) (by decide)]; exact a1, fun k k0 k1 => by rw [o (2 + k) (by omega) (by omega)]; exact a2 k k0 k1, by rw [o 5 (by decide) (by decide)]; exact a5, by rw [o 6 (by decide) (by decide)]; exact a6, o7, o8, ?_, ?_⟩
  · intro g g0 g1
    have a := a9 g g0 g1
    rw [o (9 + 20 * g) (by omega) (by omega), o (9 + 20 * g + 1) (by omega) (by omega)]
    refine ⟨a.1, a.2.1, fun k k0 k1 => ?_⟩
    rw [o (9 + 20 * g + 2 + 3 * k) (by omega) (by omega), o (9 + 20 * g + 2 + 3 * k + 1) (by omega) (by omega), o (9 + 20 * g + 2 + 3 * k + 2) (by omega) (by omega)]
    exact a.2.2 k k0 k1
  · intro i i0 i1
    have a := a10 i i0 i1
    rw [o (169 + 10 * i) (by omega) (by omega), o (169 + 10 * i + 1) (by omega) (by omega)]
    refine ⟨a.1, a.2.1, fun g g0 g1 => ?_⟩
    rw [o (169 + 10 * i + (2 + g)) (by omega) (by omega)]
    exact a.2.2 g g0 g1
theorem begin_eq {A : hGM} {s z c : Int} (s0 : 0 ≤ s) (s1 : s < 4) : m_X4_begin A s z c = aset (aset (aset (aset A 7 0 (A 7 0 + 1)) 8 s (A 7 0 + 1)) 9 s z) 10 s c := by
  unfold m_X4_begin
  rw [put_in s0 (by omega), put_in s0 (by omega), put_in s0 (by omega), aset_at]
theorem keep_eq {A : hGM} {q c l : Int} (q0 : 0 ≤ q) (q1 : q < 32) : m_X4_keep A q c l = aset (aset A 11 q c) 112 q l := by
  unfold m_X4_keep
  rw [if_neg (by omega), if_pos q1, put_in q0 q1]
/-- the part of the making that goes glyph by glyph -/
theorem make_loop {A B C T : hGM} {s y z : Int} (h : Rel0 A (C 1)) (s0 : 0 ≤ s) (s1 : s < 4) (y0 : 0 ≤ y) (y1 : y < 4) (z0 : 0 ≤ z) (z1 : z ≤ 48) (hb : mNum (B 1)) (hg : mGap B) (ho : ∀ q : Int, q < 169 → q ≠ 7 → B 1 q = C 1 q) (n : Nat) (hn : (n : Int) ≤ A 0 0) :
    (∀ g : Int, 0 ≤ g → g < n → (mkS A T z s n).1 11 (s * 8 + g) = mkM B y z n 1 (169 + 10 * y + (2 + g)) ∧ hlv ((mkS A T z s n).1 112 (s * 8 + g)) (mkM B y z n 1 (209 + 16 * y + 2 * g)) (mkM B y z n 1 (209 + 16 * y + 2 * g + 1))) ∧
    (∀ q : Int, q < s * 8 ∨ s * 8 + 8 ≤ q → (mkS A T z s n).1 11 q = A 11 q ∧ (mkS A T z s n).1 112 q = A 112 q) ∧
    (∀ i : Nat, 7 ≤ i → i ≤ 10 → (mkS A T z s n).1 i = m_X4_begin A s z (A 0 0) i) ∧
    (∀ q : Int, ¬ (169 + 10 * y + 2 ≤ q ∧ q < 169 + 10 * y + 10) → ¬ (209 + 16 * y ≤ q ∧ q < 209 + 16 * y + 16) → mkM B y z n 1 q = B 1 q) := by
  have ng := rel_g h
  induction n with
  | zero =>
    have e0 : (mkS A T z s 0).1 = m_X4_begin A s z (A 0 0) := rfl
    rw [e0, begin_eq s0 s1]
    refine ⟨fun g a b => by omega, fun q hq => ?_, fun _ _ _ => rfl, fun _ _ _ => rfl⟩
    rw [aset_row (by decide), aset_row (by decide), aset_row (by decide), aset_row (by decide), aset_row (by decide), aset_row (by decide), aset_row (by decide), aset_row (by decide)]
    exact ⟨rfl, rfl⟩
  | succ n ih =>
    obtain ⟨i1, i2, i3, i4⟩ := ih (by omega)
    have hI := mkM_I hb hg y0 y1 z0 z1 n (by omega)
    have er : ∀ i : Nat, i < 7 → (mkS A T z s n).1 i = A i := fun i hi => mkS_row A T z s n hi
    have eS : (mkS A T z s (n + 1)).1 = m_X4_keep (mkS A T z s n).1 (s * 8 + n) ((m_X0_lay (mkS A T z s n).1 (mkS A T z s n).2 n z) 0 0) ((m_X0_lay (mkS A T z s n).1 (mkS A T z s n).2 n z) 100 0) := rfl
    have eM : mkM B y z (n + 1) = if (n : Int) < (mkM B y z n) 1 0 then mkA (mkM B y z n) y z n else aset (aset (aset (mkM B y z n) 1 (((169 + (10 * y)) + 2) + n) 0) 1 ((209 + (16 * y)) + (2 * n)) 0) 1 (((209 + (16 * y)) + (2 * n)) + 1) 0 := rfl
    rw [eS, eM, keep_eq (by omega) (by omega)]
    clear eS eM
    generalize mkM B y z n = L at i1 i4 hI ⊢
    generalize (mkS A T z s n).2 = T' at *
    generalize (mkS A T z s n).1 = A' at i1 i2 i3 er ⊢
    have hl : ∀ q : Int, q < 169 → q ≠ 7 → q ≠ 8 → L 1 q = C 1 q := fun q a b _ => by rw [hI.2.2 q a]; exact ho q a b
    have hR0 : Rel0 A' (L 1) := rel0_low h er hI.1 hl
    have f := fit_rel T' hR0 (g := (n : Int)) (by omega) (by rw [er 0 (by decide)]; omega) z0 z1
    have l0 : L 1 0 = C 1 0 := hl 0 (by decide) (by decide) (by decide)
    rw [if_pos (by omega)]
    have lr : m_X6_lays L n z 1 = L 1 := lays_1
    unfold mkA
    generalize m_X6_lays L n z = M at f lr ⊢
    have h1 := half_congr (L := M) (L' := aset M 1 (((169 + (10 * y)) + 2) + n) (v_X6_columns M n z)) (g := n) (z := z) (h := 0) (aset_row (by decide)) (aset_row (by decide)) (fun q hq => aset_ne (by omega)) (by omega) (by omega)
    have h2 := half_congr (L := M) (L' := aset (aset M 1 (((169 + (10 * y)) + 2) + n) (v_X6_columns M n z)) 1 ((209 + (16 * y)) + (2 * n)) (v_X6_litHalf (aset M 1 (((169 + (10 * y)) + 2) + n) (v_X6_columns M n z)) n z 0)) (g := n) (z := z) (h := 1) (by rw [aset_row (by decide), aset_row (by decide)]) (by rw [aset_row (by decide), aset_row (by decide)]) (fun q hq => by rw [aset_ne (by omega), aset_ne (by omega)]) (by omega) (by omega)
    rw [h2.2, h1.2]
    clear h1 h2
    refine ⟨fun g a b => ?_, fun q hq => ?_, fun i a b => ?_, fun q a b => ?_⟩
    · by_cases e : g = n
      · subst e
        rw [aset_row (i := 112) (j := 11) (by decide), aset_at, aset_at]
        rw [show aset (aset (aset M 1 (169 + 10 * y + 2 + (n : Int)) (v_X6_columns M n z)) 1 (209 + 16 * y + 2 * (n : Int)) (v_X6_litHalf M n z 0)) 1 (209 + 16 * y + 2 * (n : Int) + 1) (v_X6_litHalf M n z 1) 1 (169 + 10 * y + (2 + (n : Int))) = v_X6_columns M n z from by rw [aset_ne (by omega), aset_ne (by omega), show 169 + 10 * y + (2 + (n : Int)) = 169 + 10 * y + 2 + (n : Int) by omega, aset_at]]
        rw [show aset (aset (aset M 1 (169 + 10 * y + 2 + (n : Int)) (v_X6_columns M n z)) 1 (209 + 16 * y + 2 * (n : Int)) (v_X6_litHalf M n z 0)) 1 (209 + 16 * y + 2 * (n : Int) + 1) (v_X6_litHalf M n z 1) 1 (209 + 16 * y + 2 * (n : Int)) = v_X6_litHalf M n z 0 from by rw [aset_ne (by omega), aset_at], aset_at]
        exact ⟨f.1.1, f.2.2.2.2.2⟩
      · rw [aset_row (i := 112) (j := 11) (by decide), aset_ne (i := 11) (by omega), aset_ne (i := 112) (by omega), aset_row (i := 11) (j := 112) (by decide)]
        have nn : ∀ q : Int, q ≠ 169 + 10 * y + 2 + (n : Int) → q ≠ 209 + 16 * y + 2 * (n : Int) → q ≠ 209 + 16 * y + 2 * (n : Int) + 1 → aset (aset (aset M 1 (169 + 10 * y + 2 + (n : Int)) (v_X6_columns M n z)) 1 (209 + 16 * y + 2 * (n : Int)) (v_X6_litHalf M n z 0)) 1 (209 + 16 * y + 2 * (n : Int) + 1) (v_X6_litHalf M n z 1) 1 q = L 1 q := fun q a b c => by rw [aset_ne (by omega), aset_ne (by omega), aset_ne (by omega), lr]
        rw [nn _ (by omega) (by omega) (by omega), nn _ (by omega) (by omega) (by omega), nn _ (by omega) (by omega) (by omega)]
        exact i1 g a (by omega)
    · rw [aset_row (i := 112) (j := 11) (by decide), aset_ne (i := 11) (by omega), aset_ne (i := 112) (by omega), aset_row (i := 11) (j := 112) (by decide)]
      exact i2 q hq
    · rw [aset_row (by omega), aset_row (by omega)]
      exact i3 i a b
    · rw [aset_ne (by omega), aset_ne (by omega), aset_ne (by omega), lr]
      exact i4 q a b
/-- and the rows of glyphs that there are not -/
theorem make_rest {B : hGM} {y z : Int} (y0 : 0 ≤ y) (y1 : y < 4) (N : Nat) (hN : N ≤ 8) (h0 : mkM B y z N 1 0 = N) (d : Nat) (hd : N + d ≤ 8) :
    (∀ q : Int, ¬ (169 + 10 * y + 2 + N ≤ q ∧ q < 169 + 10 * y + 2 + (N + d : Nat)) → ¬ (209 + 16 * y + 2 * N ≤ q ∧ q < 209 + 16 * y + 2 * (N + d : Nat)) → mkM B y z (N + d) 1 q = mkM B y z N 1 q) ∧ (∀ g : Int, N ≤ g → g < (N + d : Nat) → mkM B y z (N + d) 1 (169 + 10 * y + (2 + g)) = 0 ∧ mkM B y z (N + d) 1 (209 + 16 * y + 2 * g) = 0 ∧ mkM B y z (N + d) 1 (209 + 16 * y + 2 * g + 1) = 0) := by
  induction d with
  | zero => exact ⟨fun _ _ _ => rfl, fun g a b => by omega⟩
  | succ d ih =>
    obtain ⟨i1, i2⟩ := ih (by omega)
    have e0 : mkM B y z (N + d) 1 0 = N := by rw [i1 0 (by omega) (by omega)]; exact h0
    have eM : mkM B y z (N + (d + 1)) = if ((N + d : Nat) : Int) < (mkM B y z (N + d)) 1 0 then mkA (mkM B y z (N + d)) y z ((N + d : Nat) : Int) else aset (aset (aset (mkM B y z (N + d)) 1 (((169 + (10 * y)) + 2) + ((N + d : Nat) : Int)) 0) 1 ((209 + (16 * y)) + (2 * ((N + d : Nat) : Int))) 0) 1 (((209 + (16 * y)) + (2 * ((N + d : Nat) : Int))) + 1) 0 := rfl
    rw [eM, if_neg (by omega)]
    generalize mkM B y z (N + d) = L at i1 i2 ⊢
    have ne : ∀ q : Int, q ≠ 169 + 10 * y + 2 + ((N + d : Nat) : Int) → q ≠ 209 + 16 * y + 2 * ((N + d : Nat) : Int) → q ≠ 209 + 16 * y + 2 * ((N + d : Nat) : Int) + 1 → aset (aset (aset L 1 (169 + 10 * y + 2 + ((N + d : Nat) : Int)) 0) 1 (209 + 16 * y + 2 * ((N + d : Nat) : Int)) 0) 1 (209 + 16 * y + 2 * ((N + d : Nat) : Int) + 1) 0 1 q = L 1 q := fun q a b c => by rw [aset_ne (by omega), aset_ne (by omega), aset_ne (by omega)]
    refine ⟨fun q a b => ?_, fun g a b => ?_⟩
    · rw [ne q (by omega) (by omega) (by omega)]
      exact i1 q (by omega) (by omega)
    · by_cases e : g = ((N + d : Nat) : Int)
      · rw [e, aset_at]
        refine ⟨?_, ?_, rfl⟩
        · rw [aset_ne (by omega), aset_ne (by omega), show 169 + 10 * y + (2 + ((N + d : Nat) : Int)) = 169 + 10 * y + 2 + ((N + d : Nat) : Int) by omega, aset_at]
        · rw [aset_ne (by omega), aset_at]
      · rw [ne _ (by omega) (by omega) (by omega), ne _ (by omega) (by omega) (by omega), ne _ (by omega) (by omega) (by omega)]
        exact i2 g a (by omega)
/-- what stays when the sheet that must go is gone -/
def OrdK (A : hGM) (k : Int → Int) (s z : Int) (o : Int → Int) : Prop :=
  (∀ i : Int, 0 ≤ i → i < k 7 → (0 ≤ o i ∧ o i < 4) ∧ ¬ o i = s ∧ (1 ≤ A 8 (o i) ∧ A 8 (o i) ≤ A 7 0) ∧ ShR A k (o i) i ∧ ¬ A 9 (o i) = z) ∧
  (∀ i j : Int, 0 ≤ i → i < j → j < k 7 → A 8 (o i) < A 8 (o j) ∧ ¬ A 9 (o i) = A 9 (o j)) ∧
  (∀ t : Int, 0 ≤ t → t < 4 → 1 ≤ A 8 t → ¬ t = s → ∃ i : Int, 0 ≤ i ∧ i < k 7 ∧ o i = t)
theorem make_core {A C K T : hGM} {s z : Int} (h : Rel A (C 1)) (s0 : 0 ≤ s) (s1 : s < 4) (z0 : 6 ≤ z) (z1 : z ≤ 48) (m8 : C 1 8 < 1000000) (kn : mNum (K 1)) (kg : mGap K) (k7 : 0 ≤ K 1 7 ∧ K 1 7 ≤ 3) (kl : ∀ q : Int, q < 169 → q ≠ 7 → K 1 q = C 1 q) (od : Int → Int) (ho : OrdK A (K 1) s z od) :
    Rel (mkS A T z s (A 0 0).toNat).1 ((mkE (mkM (mkB K z) (K 1 7) z 8)) 1) ∧ Ord (mkS A T z s (A 0 0).toNat).1 ((mkE (mkM (mkB K z) (K 1 7) z 8)) 1) (fun i => if i < K 1 7 then od i else s) ∧ (mkE (mkM (mkB K z) (K 1 7) z 8)) 1 7 = K 1 7 + 1 := by
  have ng := rel_g h.1
  have hBI := mkB_num kn kg k7 (by omega : 0 ≤ z) z1
  have b0 : mkB K z 1 (169 + 10 * K 1 7) = z := by unfold mkB; rw [aset_ne (by omega), aset_at]
  have b1 : mkB K z 1 (169 + 10 * K 1 7 + 1) = K 1 0 := by unfold mkB; rw [aset_at, aset_ne (by omega)]
  have bo : ∀ q : Int, q ≠ 169 + 10 * K 1 7 → q ≠ 169 + 10 * K 1 7 + 1 → mkB K z 1 q = K 1 q := fun q a b => by unfold mkB; rw [aset_ne (by omega), aset_ne (by omega)]
  have bl : ∀ q : Int, q < 169 → q ≠ 7 → mkB K z 1 q = C 1 q := fun q a b => by rw [hBI.2.2 q a]; exact kl q a b
  have k0 : K 1 0 = C 1 0 := kl 0 (by decide) (by decide)
  generalize hy : K 1 7 = y at *
  have lp := make_loop (T := T) h.1 s0 s1 k7.1 (by omega : y < 4) (by omega : 0 ≤ z) z1 hBI.1 hBI.2.1 bl (A 0 0).toNat (by omega)
  have hI8 := mkM_I (y := y) hBI.1 hBI.2.1 k7.1 (by omega) (by omega : 0 ≤ z) z1 8 (Nat.le_refl _)
  have hIN := mkM_I (y := y) hBI.1 hBI.2.1 k7.1 (by omega) (by omega : 0 ≤ z) z1 (A 0 0).toNat (by omega)
  have rs := make_rest (B := mkB K z) (z := z) k7.1 (by omega : y < 4) (A 0 0).toNat (by omega) (by rw [hIN.2.2 0 (by decide), bl 0 (by decide) (by decide)]; omega) (8 - (A 0 0).toNat) (by omega)
  rw [show (A 0 0).toNat + (8 - (A 0 0).toNat) = 8 by omega] at rs
  have er : ∀ i : Nat, i < 7 → (mkS A T z s (A 0 0).toNat).1 i = A i := fun i hi => mkS_row A T z s _ hi
  obtain ⟨l1, l2, l3, l4⟩ := lp
  obtain ⟨r1, r2⟩ := rs
  rw [begin_eq s0 s1] at l3
  have l8 : mkM (mkB K z) y z 8 1 8 = C 1 8 := by rw [hI8.2.2 8 (by decide)]; exact bl 8 (by decide) (by decide)
  have l7 : mkM (mkB K z) y z 8 1 7 = y := by rw [hI8.2.2 7 (by decide), hBI.2.2 7 (by decide)]; exact hy
  generalize mkM (mkB K z) y z (A 0 0).toNat = LN at l1 l4 r1 hIN
  generalize mkM (mkB K z) y z 8 = L at r1 r2 l8 l7 hI8 ⊢
  have e7 : mkE L 1 7 = y + 1 := by unfold mkE; rw [aset_ne (by omega), aset_at, l7]
  have e8 : mkE L 1 8 = C 1 8 + 1 := by unfold mkE; rw [aset_at, aset_ne (by omega), l8]
  have eo : ∀ q : Int, q ≠ 7 → q ≠ 8 → mkE L 1 q = L 1 q := fun q a b => by unfold mkE; rw [aset_ne (by omega), aset_ne (by omega)]
  generalize (mkE L) 1 = r at e7 e8 eo ⊢
  generalize (mkS A T z s (A 0 0).toNat).1 = A' at l1 l2 l3 er ⊢
  have d7 : A' 7 0 = A 7 0 + 1 := by rw [l3 7 (by decide) (by decide), aset_row (by decide), aset_row (by decide), aset_row (by decide), aset_at]
  have d8 : ∀ t : Int, A' 8 t = if t = s then A 7 0 + 1 else A 8 t := fun t => by
    rw [l3 8 (by decide) (by decide), aset_row (by decide), aset_row (by decide)]
    by_cases e : t = s
    · rw [e, aset_at, if_pos rfl]
    · rw [aset_ne (by omega), if_neg e, aset_row (by decide)]
  have d9 : ∀ t : Int, A' 9 t = if t = s then z else A 9 t := fun t => by
    rw [l3 9 (by decide) (by decide), aset_row (by decide)]
    by_cases e : t = s
    · rw [e, aset_at, if_pos rfl]
    · rw [aset_ne (by omega), if_neg e, aset_row (by decide), aset_row (by decide)]
  have d10 : ∀ t : Int, A' 10 t = if t = s then A 0 0 else A 10 t := fun t => by
    rw [l3 10 (by decide) (by decide)]
    by_cases e : t = s
    · rw [e, aset_at, if_pos rfl]
    · rw [aset_ne (by omega), if_neg e, aset_row (by decide), aset_row (by decide), aset_row (by decide)]
  have dn : ∀ q : Int, q ≠ 7 → q ≠ 8 → ¬ (169 + 10 * y ≤ q ∧ q < 169 + 10 * y + 10) → ¬ (209 + 16 * y ≤ q ∧ q < 209 + 16 * y + 16) → r q = K 1 q := fun q a b c d => by
    rw [eo q a b, r1 q (by omega) (by omega), l4 q (by omega) (by omega), bo q (by omega) (by omega)]
  have hs8 := h.2.2.1
  have n8 := h.1.2.1.2.2.2.2.2.2.1
  have h8 := h.2.1
  have hOrd : Ord A' r (fun i => if i < y then od i else s) := by
    refine ⟨fun i i0 i1 => ?_, fun i j i0 ij j1 => ?_, fun t t0 t1 t2 => ?_⟩
    · show (0 ≤ (if i < y then od i else s) ∧ (if i < y then od i else s) < 4) ∧ (1 ≤ A' 8 (if i < y then od i else s) ∧ A' 8 (if i < y then od i else s) ≤ A' 7 0) ∧ ShR A' r (if i < y then od i else s) i
      by_cases c : i < y
      · rw [if_pos c]
        obtain ⟨q1, q2, q3, q4, q5⟩ := ho.1 i i0 (by rw [hy]; exact c)
        rw [d8, if_neg q2, d7]
        refine ⟨q1, ⟨q3.1, by omega⟩, ?_⟩
        unfold ShR at q4 ⊢
        rw [d9, d10, if_neg q2, if_neg q2, er 0 (by decide), dn (169 + 10 * i) (by omega) (by omega) (by omega) (by omega), dn (169 + 10 * i + 1) (by omega) (by omega) (by omega) (by omega)]
        refine ⟨q4.1, q4.2.1, q4.2.2.1, q4.2.2.2.1, fun g g0 g1 => ?_⟩
        have w := l2 (od i * 8 + g) (by omega)
        rw [w.1, w.2, dn (169 + 10 * i + (2 + g)) (by omega) (by omega) (by omega) (by omega), dn (209 + 16 * i + 2 * g) (by omega) (by omega) (by omega) (by omega), dn (209 + 16 * i + 2 * g + 1) (by omega) (by omega) (by omega) (by omega)]
        exact q4.2.2.2.2 g g0 g1
      · have ei : i = y := by omega
        rw [if_neg c, d8, if_pos rfl, d7, ei]
        refine ⟨⟨s0, s1⟩, ⟨by omega, Int.le_refl _⟩, ?_⟩
        unfold ShR
        rw [d9, d10, if_pos rfl, if_pos rfl, er 0 (by decide), eo (169 + 10 * y) (by omega) (by omega), eo (169 + 10 * y + 1) (by omega) (by omega), r1 (169 + 10 * y) (by omega) (by omega), r1 (169 + 10 * y + 1) (by omega) (by omega), l4 (169 + 10 * y) (by omega) (by omega), l4 (169 + 10 * y + 1) (by omega) (by omega), b0, b1, k0]
        refine ⟨rfl, ⟨z0, z1⟩, ng.1, ⟨by omega, by omega⟩, fun g g0 g1 => ⟨fun c2 => ?_, fun c2 => ?_⟩⟩
        · have w := l1 g g0 (by omega)
          rw [eo (169 + 10 * y + (2 + g)) (by omega) (by omega), eo (209 + 16 * y + 2 * g) (by omega) (by omega), eo (209 + 16 * y + 2 * g + 1) (by omega) (by omega), r1 (169 + 10 * y + (2 + g)) (by omega) (by omega), r1 (209 + 16 * y + 2 * g) (by omega) (by omega), r1 (209 + 16 * y + 2 * g + 1) (by omega) (by omega)]
          exact w
        · rw [eo (169 + 10 * y + (2 + g)) (by omega) (by omega), eo (209 + 16 * y + 2 * g) (by omega) (by omega), eo (209 + 16 * y + 2 * g + 1) (by omega) (by omega)]
          exact r2 g (by omega) (by omega)
    · show A' 8 (if i < y then od i else s) < A' 8 (if j < y then od j else s) ∧ ¬ A' 9 (if i < y then od i else s) = A' 9 (if j < y then od j else s)
      rw [if_pos (show i < y by omega)]
      obtain ⟨q1, q2, q3, q4, q5⟩ := ho.1 i i0 (by omega)
      rw [d8, d9, if_neg q2, if_neg q2]
      by_cases c : j < y
      · obtain ⟨p1, p2, p3, p4, p5⟩ := ho.1 j (by omega) (by rw [hy]; exact c)
        rw [if_pos c, d8, d9, if_neg p2, if_neg p2]
        exact ho.2.1 i j i0 ij (by omega)
      · rw [if_neg c, d8, d9, if_pos rfl, if_pos rfl]
        exact ⟨by omega, q5⟩
    · show ∃ i : Int, 0 ≤ i ∧ i < r 7 ∧ (if i < y then od i else s) = t
      by_cases c : t = s
      · exact ⟨y, by omega, by omega, by rw [if_neg (by omega), c]⟩
      · rw [d8, if_neg c] at t2
        obtain ⟨i, i0, i1, i2⟩ := ho.2.2 t t0 t1 t2 c
        exact ⟨i, i0, by omega, by rw [if_pos (by omega)]; exact i2⟩
  refine ⟨⟨rel0_low h.1 er (mNum_78 hI8.1 eo (by omega) (by omega)) (fun q a b c => by rw [eo q b c, hI8.2.2 q a]; exact bl q a b), ?_, fun t t0 t1 => ?_, _, hOrd⟩, hOrd, e7⟩
  · rw [d7, e8, h.2.1]
  · rw [d8]
    have := hs8 t t0 t1
    split <;> omega
theorem taS_sh {C : hGM} {k : Int} (k0 : 0 ≤ k) (k1 : k < C 1 7) (c4 : C 1 7 ≤ 4) {i : Int} (i0 : 0 ≤ i) (i1 : i < C 1 7 - 1) : (∀ w : Int, 0 ≤ w → w < 10 → taS C k 1 (169 + 10 * i + w) = if i < k then C 1 (169 + 10 * i + w) else C 1 (169 + 10 * (i + 1) + w)) ∧ (∀ w : Int, 0 ≤ w → w < 16 → taS C k 1 (209 + 16 * i + w) = if i < k then C 1 (209 + 16 * i + w) else C 1 (209 + 16 * (i + 1) + w)) := by
  refine ⟨fun w w0 w1 => ?_, fun w w0 w1 => ?_⟩
  · unfold taS
    generalize hm : mvD (aset C 1 7 (C 1 7 - 1)) 1 10 (169 + 10 * k) (169 + 10 * (C 1 7 - 1)) = D
    unfold mvD at hm ⊢
    rw [if_neg (by omega), ← hm]
    by_cases c : i < k
    · rw [if_pos c]
      show (if 1 = 1 ∧ _ ∧ _ then _ else _) = _
      rw [if_neg (by omega), aset_ne (by omega)]
    · rw [if_neg c]
      show (if 1 = 1 ∧ _ ∧ _ then _ else _) = _
      rw [if_pos (by omega), aset_ne (by omega), show 169 + 10 * i + w + 10 = 169 + 10 * (i + 1) + w by omega]
  · unfold taS
    have hD : ∀ q : Int, 209 ≤ q → mvD (aset C 1 7 (C 1 7 - 1)) 1 10 (169 + 10 * k) (169 + 10 * (C 1 7 - 1)) 1 q = C 1 q := fun q hq => by
      unfold mvD
      rw [if_neg (by omega), aset_ne (by omega)]
    generalize mvD (aset C 1 7 (C 1 7 - 1)) 1 10 (169 + 10 * k) (169 + 10 * (C 1 7 - 1)) = D at hD ⊢
    unfold mvD
    by_cases c : i < k
    · rw [if_pos c, if_neg (by omega)]
      exact hD _ (by omega)
    · rw [if_neg c, if_pos (by omega), show 209 + 16 * i + w + 16 = 209 + 16 * (i + 1) + w by omega]
      exact hD _ (by omega)
theorem ordK_gone {A C : hGM} {o : Int → Int} (h : Ord A (C 1) o) (c4 : C 1 7 ≤ 4) {k z : Int} (k0 : 0 ≤ k) (k1 : k < C 1 7) (hz : ∀ i : Int, 0 ≤ i → i < C 1 7 → ¬ i = k → ¬ A 9 (o i) = z) : OrdK A (taS C k 1) (o k) z (fun i => if i < k then o i else o (i + 1)) := by
  have e7 : taS C k 1 7 = C 1 7 - 1 := taS_7 k0
  refine ⟨fun i i0 i1 => ?_, fun i j i0 ij j1 => ?_, fun t t0 t1 t2 t3 => ?_⟩
  · rw [e7] at i1
    have sh := taS_sh k0 k1 c4 i0 i1
    show (0 ≤ (if i < k then o i else o (i + 1)) ∧ (if i < k then o i else o (i + 1)) < 4) ∧ ¬ (if i < k then o i else o (i + 1)) = o k ∧ (1 ≤ A 8 (if i < k then o i else o (i + 1)) ∧ A 8 (if i < k then o i else o (i + 1)) ≤ A 7 0) ∧ ShR A (taS C k 1) (if i < k then o i else o (i + 1)) i ∧ ¬ A 9 (if i < k then o i else o (i + 1)) = z
    have key : ∀ j : Int, 0 ≤ j → j < C 1 7 → ¬ j = k → (∀ w : Int, 0 ≤ w → w < 10 → taS C k 1 (169 + 10 * i + w) = C 1 (169 + 10 * j + w)) → (∀ w : Int, 0 ≤ w → w < 16 → taS C k 1 (209 + 16 * i + w) = C 1 (209 + 16 * j + w)) → (0 ≤ o j ∧ o j < 4) ∧ ¬ o j = o k ∧ (1 ≤ A 8 (o j) ∧ A 8 (o j) ≤ A 7 0) ∧ ShR A (taS C k 1) (o j) i ∧ ¬ A 9 (o j) = z := by
      intro j j0 j1 jk s1 s2
      obtain ⟨q1, q2, q3⟩ := h.1 j j0 j1
      refine ⟨q1, fun e => jk (ord_eq h j0 j1 k0 k1 e), q2, ?_, hz j j0 j1 jk⟩
      unfold ShR at q3 ⊢
      have a0 := s1 0 (by decide) (by decide)
      rw [Int.add_zero, Int.add_zero] at a0
      rw [a0, s1 1 (by decide) (by decide)]
      refine ⟨q3.1, q3.2.1, q3.2.2.1, q3.2.2.2.1, fun g g0 g1 => ?_⟩
      have b1 := s2 (2 * g + 1) (by omega) (by omega)
      rw [show 209 + 16 * i + (2 * g + 1) = 209 + 16 * i + 2 * g + 1 by omega, show 209 + 16 * j + (2 * g + 1) = 209 + 16 * j + 2 * g + 1 by omega] at b1
      rw [s1 (2 + g) (by omega) (by omega), s2 (2 * g) (by omega) (by omega), b1]
      exact q3.2.2.2.2 g g0 g1
    by_cases c : i < k
    · rw [if_pos c]
      refine key i i0 (by omega) (by omega) (fun w a b => ?_) (fun w a b => ?_)
      · rw [sh.1 w a b, if_pos c]
      · rw [sh.2 w a b, if_pos c]
    · rw [if_neg c]
      refine key (i + 1) (by omega) (by omega) (by omega) (fun w a b => ?_) (fun w a b => ?_)
      · rw [sh.1 w a b, if_neg c]
      · rw [sh.2 w a b, if_neg c]
  · rw [e7] at j1
    show A 8 (if i < k then o i else o (i + 1)) < A 8 (if j < k then o j else o (j + 1)) ∧ ¬ A 9 (if i < k then o i else o (i + 1)) = A 9 (if j < k then o j else o (j + 1))
    by_cases c : i < k
    · rw [if_pos c]
      by_cases d : j < k
      · rw [if_pos d]; exact h.2.1 i j i0 ij (by omega)
      · rw [if_neg d]; exact h.2.1 i (j + 1) i0 (by omega) (by omega)
    · rw [if_neg c, if_neg (show ¬ j < k by omega)]
      exact h.2.1 (i + 1) (j + 1) (by omega) (by omega) (by omega)
  · obtain ⟨i, i0, i1, i2⟩ := h.2.2 t t0 t1 t2
    have ik : ¬ i = k := fun e => t3 (by rw [← i2, e])
    by_cases c : i < k
    · refine ⟨i, i0, by omega, ?_⟩
      show (if i < k then o i else o (i + 1)) = t
      rw [if_pos c]; exact i2
    · refine ⟨i - 1, by omega, by omega, ?_⟩
      show (if i - 1 < k then o (i - 1) else o (i - 1 + 1)) = t
      rw [if_neg (by omega), show i - 1 + 1 = i by omega]; exact i2
theorem leastAt_min (f : Int → Int) (n : Nat) : ∀ j : Int, 0 ≤ j → j < n → f (leastAt f n) ≤ f j := by
  induction n with
  | zero => intro j a b; omega
  | succ n ih =>
    intro j a b
    have e : leastAt f (n + 1) = if f n < f (leastAt f n) then (n : Int) else leastAt f n := rfl
    rw [e]
    by_cases c : f n < f (leastAt f n)
    · rw [if_pos c]
      by_cases d : j = n
      · rw [d]; exact Int.le_refl _
      · have := ih j a (by omega); omega
    · rw [if_neg c]
      by_cases d : j = n
      · rw [d]; omega
      · exact ih j a (by omega)
theorem make_rel {A C T : hGM} {z : Int} (h : Rel A (C 1)) (z0 : 6 ≤ z) (z1 : z ≤ 48) (m8 : C 1 8 < 1000000) :
    Rel (mkS A T z (v_X4_slotToMake A z) (A 0 0).toNat).1 ((mkE (mkM (mkB (mkK C z) z) (mkK C z 1 7) z 8)) 1) ∧ v_X4_held (mkS A T z (v_X4_slotToMake A z) (A 0 0).toNat).1 = (mkE (mkM (mkB (mkK C z) z) (mkK C z 1 7) z 8)) 1 7 := by
  have hm := h.1.2.1
  have n7 := hm.2.2.2.2.2.1
  have kk := mkK_num (z := z) hm (rel_gap h.1)
  have sb := slotToMake_bd A z
  obtain ⟨hs, o, hord⟩ := h.2.2
  have hord : Ord A (C 1) o := hord
  have held := held_rel hord n7
  have fin : ∀ od : Int → Int, OrdK A (mkK C z 1) (v_X4_slotToMake A z) z od → Rel (mkS A T z (v_X4_slotToMake A z) (A 0 0).toNat).1 ((mkE (mkM (mkB (mkK C z) z) (mkK C z 1 7) z 8)) 1) ∧ v_X4_held (mkS A T z (v_X4_slotToMake A z) (A 0 0).toNat).1 = (mkE (mkM (mkB (mkK C z) z) (mkK C z 1 7) z 8)) 1 7 := by
    intro od hod
    have q := make_core (T := T) h sb.1 sb.2 z0 z1 m8 kk.1.1 kk.1.2 kk.2.1 kk.2.2 od hod
    exact ⟨q.1, held_rel q.2.1 (by rw [q.2.2]; have := kk.2.1; omega)⟩
  -- the slot with the least turn
  have mn : ∀ j : Int, 0 ≤ j → j < 4 → A 8 (leastAt (fun k => v_X5_cell A 8 4 k) 4) ≤ A 8 j := by
    intro j a b
    have q := leastAt_min (fun k => v_X5_cell A 8 4 k) 4 j a b
    have lb := leastAt_lt (fun k => v_X5_cell A 8 4 k) 3
    have lb2 := leastAt_bd (fun k => v_X5_cell A 8 4 k) 4
    have q : v_X5_cell A 8 4 (leastAt (fun k => v_X5_cell A 8 4 k) 4) ≤ v_X5_cell A 8 4 j := q
    rw [cell_in lb2.1 (by omega), cell_in a (by omega)] at q
    exact q
  have h4 : v_X4_held A = (if v_X4_isMade A 0 = 0 then 0 else 1) + (if v_X4_isMade A 1 = 0 then 0 else 1) + (if v_X4_isMade A 2 = 0 then 0 else 1) + (if v_X4_isMade A 3 = 0 then 0 else 1) := by
    show (0 : Int) + _ + _ + _ + _ = _
    rw [Int.zero_add]
    rfl
  have m0 := made_iff (A := A) (k := 0) (by decide) (by decide)
  have m1 := made_iff (A := A) (k := 1) (by decide) (by decide)
  have m2 := made_iff (A := A) (k := 2) (by decide) (by decide)
  have m3 := made_iff (A := A) (k := 3) (by decide) (by decide)
  rcases sheetAt_at hord n7 z with ⟨a, b, c⟩ | ⟨a, b, c, d⟩
  · have es : v_X4_slotToMake A z = leastAt (fun k => v_X5_cell A 8 4 k) 4 := by unfold v_X4_slotToMake; rw [b, if_pos (by decide)]
    have q0 := mn 0 (by decide) (by decide)
    have q1 := mn 1 (by decide) (by decide)
    have q2 := mn 2 (by decide) (by decide)
    have q3 := mn 3 (by decide) (by decide)
    rw [← es] at q0 q1 q2 q3
    by_cases f : C 1 7 = 4
    · have ek : mkK C z = taS C 0 := by unfold mkK; rw [a, if_pos (by decide), if_pos f]; rfl
      have s8 : 1 ≤ A 8 (v_X4_slotToMake A z) := by
        refine Decidable.byContradiction (fun y => ?_)
        have e4 : v_X4_slotToMake A z = 0 ∨ v_X4_slotToMake A z = 1 ∨ v_X4_slotToMake A z = 2 ∨ v_X4_slotToMake A z = 3 := by omega
        have i01 : ∀ x : Int, (if x = 0 then (0 : Int) else 1) ≤ 1 := fun x => by split <;> decide
        have j0 := i01 (v_X4_isMade A 0)
        have j1 := i01 (v_X4_isMade A 1)
        have j2 := i01 (v_X4_isMade A 2)
        have j3 := i01 (v_X4_isMade A 3)
        rcases e4 with e | e | e | e
        · rw [e] at y; rw [if_pos (m0.mpr y)] at h4; omega
        · rw [e] at y; rw [if_pos (m1.mpr y)] at h4; omega
        · rw [e] at y; rw [if_pos (m2.mpr y)] at h4; omega
        · rw [e] at y; rw [if_pos (m3.mpr y)] at h4; omega
      obtain ⟨i, i0, i1, i2⟩ := hord.2.2 _ sb.1 sb.2 s8
      have oz := (hord.1 0 (by decide) (by omega)).1
      have le : A 8 (v_X4_slotToMake A z) ≤ A 8 (o 0) := by rw [es]; exact mn (o 0) oz.1 oz.2
      have ei : i = 0 := by
        by_cases e : i = 0
        · exact e
        · have := (hord.2.1 0 i (by decide) (by omega) i1).1
          rw [i2] at this; omega
      rw [ei] at i2
      have g := ordK_gone (z := z) hord n7.2 (k := 0) (by decide) (by omega) (fun j j0 j1 _ => c j j0 j1)
      rw [← ek, i2] at g
      exact fin _ g
    · have ek : mkK C z = C := by unfold mkK; rw [a, if_pos (by decide), if_neg f]
      have s8 : ¬ 1 ≤ A 8 (v_X4_slotToMake A z) := by
        intro y
        rw [if_neg (fun w => (m0.mp w) (by omega)), if_neg (fun w => (m1.mp w) (by omega)), if_neg (fun w => (m2.mp w) (by omega)), if_neg (fun w => (m3.mp w) (by omega))] at h4
        omega
      refine fin o ?_
      rw [ek]
      refine ⟨fun i i0 i1 => ?_, hord.2.1, fun t t0 t1 t2 _ => hord.2.2 t t0 t1 t2⟩
      obtain ⟨p1, p2, p3⟩ := hord.1 i i0 i1
      exact ⟨p1, fun e => s8 (by rw [← e]; exact p2.1), p2, p3, c i i0 i1⟩
  · have ek : mkK C z = taS C (v_X6_sheetAt C z) := by unfold mkK; rw [if_neg (by omega)]; rfl
    have ok := (hord.1 _ a b).1
    have es : v_X4_slotToMake A z = o (v_X6_sheetAt C z) := by unfold v_X4_slotToMake; rw [c, if_neg (by omega)]
    have g := ordK_gone (z := z) hord n7.2 a b (fun j j0 j1 jk e => by
      rcases Int.lt_trichotomy j (v_X6_sheetAt C z) with y | y | y
      · exact (hord.2.1 j _ j0 y b).2 (e.trans d.symm)
      · exact jk y
      · exact (hord.2.1 _ j a y j1).2 (d.trans e.symm))
    rw [← ek, ← es] at g
    exact fin _ g

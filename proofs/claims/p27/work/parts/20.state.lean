/-! the machine's ints as whole numbers -/
def hIn (x : Int) : Prop := -2147483648 ≤ x ∧ x ≤ 2147483647
def hI (x : Int) : Int32 := Int32.ofInt x
def hJ (x : Int) : Int64 := Int64.ofInt x
theorem hI_add (a b : Int) : hI a + hI b = hI (a + b) := (Int32.ofInt_add a b).symm
theorem hI_sub (a b : Int) : hI a - hI b = hI (a - b) := (Int32.ofInt_sub a b).symm
theorem hI_mul (a b : Int) : hI a * hI b = hI (a * b) := (Int32.ofInt_mul a b).symm
theorem hI_neg (a : Int) : - hI a = hI (-a) := (Int32.ofInt_neg a).symm
theorem hI_toInt {a : Int} (h : hIn a) : (hI a).toInt = a := Int32.toInt_ofInt_of_le (by have := h.1; omega) (by have := h.2; omega)
theorem hI_of (x : Int32) : hI x.toInt = x := Int32.ofInt_toInt x
theorem hIn_toInt (x : Int32) : hIn x.toInt := ⟨by have := Int32.le_toInt x; omega, by have := Int32.toInt_lt x; omega⟩
theorem hJ_of (x : Int64) : hJ x.toInt = x := Int64.ofInt_toInt x
theorem hI_lt {a b : Int} (ha : hIn a) (hb : hIn b) : hI a < hI b ↔ a < b := by rw [Int32.lt_iff_toInt_lt, hI_toInt ha, hI_toInt hb]
theorem hI_le {a b : Int} (ha : hIn a) (hb : hIn b) : hI a ≤ hI b ↔ a ≤ b := by rw [Int32.le_iff_toInt_le, hI_toInt ha, hI_toInt hb]
theorem hI_eq {a b : Int} (ha : hIn a) (hb : hIn b) : hI a = hI b ↔ a = b := by rw [← Int32.toInt_inj, hI_toInt ha, hI_toInt hb]
theorem hI_0 : hI 0 = 0 := by decide
theorem hIn_0 : hIn 0 := ⟨by decide, by decide⟩
theorem hI_clamp {a : Int} (h0 : 0 ≤ a) (h : hIn a) : (hI a).toNatClampNeg = a.toNat := by
  show (hI a).toInt.toNat = a.toNat
  rw [hI_toInt h]
theorem hI_ix {k : Int} {n : Nat} (hk : 0 ≤ k ∧ k < n) (hn : n < 100000) : vp_in (hI k) n ∧ (hI k).toNatClampNeg = k.toNat := by
  have h : hIn k := ⟨by omega, by omega⟩
  have e := hI_clamp hk.1 h
  refine ⟨?_, e⟩
  unfold vp_in
  rw [e, ← hI_0, hI_lt h hIn_0]
  omega
theorem hI_div {a b : Int} (ha : hIn a) (h0 : 0 ≤ a) (hb : hIn b) (h1 : 0 < b) : hI a / hI b = hI (a / b) := by
  apply Int32.toInt_inj.mp
  have e : a.tdiv b = a / b := Int.tdiv_eq_ediv_of_nonneg h0
  have h2 : a / b ≤ a := Int.ediv_le_self b h0
  have h3 : 0 ≤ a / b := Int.ediv_nonneg h0 (Int.le_of_lt h1)
  have h4 : hIn (a / b) := ⟨by omega, by have := ha.2; omega⟩
  rw [Int32.toInt_div, hI_toInt ha, hI_toInt hb, e, hI_toInt h4]
  exact Int.bmod_eq_of_le (by have := h4.1; omega) (by have := h4.2; omega)
def iOr (a b : Int) : Int := (hI a ||| hI b).toInt
def iAnd (a b : Int) : Int := (hI a &&& hI b).toInt
def iShl (a b : Int) : Int := (hI a <<< (hI b &&& 31)).toInt
def iShr (a b : Int) : Int := (hI a >>> (hI b &&& 31)).toInt
def jOr (a b : Int) : Int := (hJ a ||| hJ b).toInt
def jAnd (a b : Int) : Int := (hJ a &&& hJ b).toInt
def jXor (a b : Int) : Int := (hJ a ^^^ hJ b).toInt
def jShl (a b : Int) : Int := (hJ a <<< ((hI b).toInt64 &&& 63)).toInt
def jUshr (a b : Int) : Int := ((hJ a).toUInt64 >>> ((hI b).toInt64.toUInt64 &&& Int64.toUInt64 63)).toInt64.toInt
def jShr (a b : Int) : Int := (hJ a >>> ((hI b).toInt64 &&& 63)).toInt
def jToI (a : Int) : Int := (hJ a).toInt32.toInt
def jCmp (a b : Int) : Int := (lg_cmp (hJ a) (hJ b)).toInt
/-! memory: groups (0 to 6 fonts, 7 fit, 8 orders, 9 history, 10 the law's arrays, 11 the class's object), rows of a group, places of a row; a row of longs is told at its number and 100 -/
abbrev hGM : Type := Nat → Int → Int
abbrev hS : Type := Nat → hGM
def gset (S : hS) (g : Nat) (A : hGM) : hS := fun k => if k = g then A else S k
def aset (A : hGM) (i : Nat) (k v : Int) : hGM := fun j q => if j = i ∧ q = k then v else A j q
theorem gset_at (S : hS) (g : Nat) (A : hGM) : gset S g A g = A := by simp [gset]
theorem gset_ne {S : hS} {g k : Nat} {A : hGM} (h : k ≠ g) : gset S g A k = S k := by simp [gset, h]
theorem gset_gset (S : hS) (g : Nat) (A B : hGM) : gset (gset S g A) g B = gset S g B := by
  funext k; by_cases h : k = g <;> simp [gset, h]
theorem gset_comm {S : hS} {g k : Nat} {A B : hGM} (h : k ≠ g) : gset (gset S g A) k B = gset (gset S k B) g A := by
  funext j; by_cases h1 : j = g <;> by_cases h2 : j = k <;> simp_all [gset]
theorem gset_self (S : hS) (g : Nat) : gset S g (S g) = S := by
  funext k; by_cases h : k = g <;> simp [gset, h]
theorem aset_at (A : hGM) (i : Nat) (k v : Int) : aset A i k v i k = v := by simp [aset]
theorem aset_row {A : hGM} {i j : Nat} {k v : Int} (h : j ≠ i) : aset A i k v j = A j := by funext q; simp [aset, h]
theorem aset_ne {A : hGM} {i j : Nat} {k q v : Int} (h : ¬ (j = i ∧ q = k)) : aset A i k v j q = A j q := by simp only [aset, if_neg h]
def hR (S : hS) : Prop := ∀ g i k, i < 100 → hIn (S g i k)
theorem hR_set {S : hS} (h : hR S) {g i : Nat} {k v : Int} (hv : hIn v ∨ 100 ≤ i) : hR (gset S g (aset (S g) i k v)) := by
  intro g' i' k' hi
  unfold gset
  split
  · next e =>
    unfold aset
    split
    · next e2 => rcases hv with hv | hv
                 · exact hv
                 · omega
    · subst e; exact h _ _ _ hi
  · exact h _ _ _ hi
/-! the cells -/
section
variable (ad : Nat → Nat → Nat) (cI cJ cF : ClassId)
def hCellR (g i : Nat) (r rl : Int → Int) : va_E :=
  if g < 7 then (match i with
    | 0 => .inr (1, [.int (hI (r 0)), .int (hI (r 1)), .int (hI (r 2)), .int (hI (r 3)), .ref (ad g 1), .ref (ad g 2), .ref (ad g 3), .ref (ad g 4), .ref (ad g 5), .ref (ad g 6), .ref (ad g 7)])
    | 1 => .inl (cI, 8, .inl (fun k => hI (r k)))
    | 2 => .inl (cI, 8, .inl (fun k => hI (r k)))
    | 3 => .inl (cI, 48, .inl (fun k => hI (r k)))
    | 4 => .inl (cI, 48, .inl (fun k => hI (r k)))
    | 5 => .inl (cI, 48, .inl (fun k => hI (r k)))
    | 6 => .inl (cI, 3, .inl (fun k => hI (r k)))
    | 7 => .inr (4, [.int (hI (r 0)), .ref (ad g 8), .ref (ad g 9), .ref (ad g 10), .ref (ad g 11), .ref (ad g 12)])
    | 8 => .inl (cI, 4, .inl (fun k => hI (r k)))
    | 9 => .inl (cI, 4, .inl (fun k => hI (r k)))
    | 10 => .inl (cI, 4, .inl (fun k => hI (r k)))
    | 11 => .inl (cI, 32, .inl (fun k => hI (r k)))
    | _ => .inl (cJ, 32, .inr (.inl (fun k => hJ (rl k)))))
  else if g = 7 then (match i with
    | 0 => .inr (0, [.int (hI (r 0)), .int (hI (r 1)), .int (hI (r 2)), .long (hJ (rl 0)), .ref (ad 7 1), .ref (ad 7 2), .ref (ad 7 3)])
    | 1 => .inl (cI, 6, .inl (fun k => hI (r k)))
    | 2 => .inl (cI, 6, .inl (fun k => hI (r k)))
    | _ => .inl (cI, 48, .inl (fun k => hI (r k))))
  else if g = 8 then (match i with
    | 0 => .inr (3, [.ref (ad 8 1), .int (hI (r 1)), .ref (ad 8 2), .int (hI (r 3)), .int (hI (r 4)), .int (hI (r 5)), .int (hI (r 6)), .int (hI (r 7))])
    | 1 => .inl (cI, 60, .inl (fun k => hI (r k)))
    | _ => .inl (cI, 3, .inl (fun k => hI (r k))))
  else if g = 9 then (match i with
    | 0 => .inr (2, [.ref (ad 9 1), .int (hI (r 1)), .int (hI (r 2))])
    | _ => .inl (cF, 5, .inr (.inr (.inr (.inr (fun k => some (ad (2 + k) 0)))))))
  else if g = 10 then (match i with
    | 1 => .inl (cI, 4, .inl (fun k => hI (r k)))
    | 2 => .inl (cI, 8, .inl (fun k => hI (r k)))
    | 3 => .inl (cI, 8, .inl (fun k => hI (r k)))
    | 4 => .inl (cI, 49, .inl (fun k => hI (r k)))
    | 5 => .inl (cI, 49, .inl (fun k => hI (r k)))
    | 6 => .inl (cI, 49, .inl (fun k => hI (r k)))
    | 7 => .inl (cI, 3, .inl (fun k => hI (r k)))
    | 8 => .inl (cI, 4, .inl (fun k => hI (r k)))
    | 9 => .inl (cI, 4, .inl (fun k => hI (r k)))
    | 10 => .inl (cI, 32, .inl (fun k => hI (r k)))
    | 11 => .inl (cJ, 32, .inr (.inl (fun k => hJ (rl k))))
    | _ => .inl (cI, 8, .inl (fun k => hI (r k))))
  else .inr (5, [.ref (ad 0 0), .ref (ad 1 0), .ref (ad 7 0), .ref (ad 8 0), .ref (ad 9 0)])
def hUnpos (q : Nat) : Nat × Nat := if q < 91 then (q / 13, q % 13) else if q < 95 then (7, q - 91) else if q < 98 then (8, q - 95) else if q < 100 then (9, q - 98) else if q = 100 then (11, 0) else (10, q - 100)
def hPos (q : Nat × Nat) : Nat := if q.1 < 7 then 13 * q.1 + q.2 else if q.1 = 7 then 91 + q.2 else if q.1 = 8 then 95 + q.2 else if q.1 = 9 then 98 + q.2 else if q.1 = 10 then 100 + q.2 else 100 + q.2
theorem hPos_un : ∀ q, q < 113 → hPos (hUnpos q) = q ∧ (hUnpos q).2 < 13 := by decide +kernel
/-- how many cells the world has: the array 'out' is there or not -/
def hNc : Nat := if ad 99 1 = 1 then 113 else 112
theorem hUnpos_inj {q q' : Nat} (h : q < 113) (h' : q' < 113) (e : hUnpos q = hUnpos q') : q = q' := by
  rw [← (hPos_un q h).1, e, (hPos_un q' h').1]
def hCell (S : hS) (g i : Nat) : va_E := hCellR ad cI cJ cF g i (S g i) (S g (100 + i))
def hW (S : hS) : va_W := (List.range (hNc ad)).map (fun q => (ad (hUnpos q).1 (hUnpos q).2, hCell ad cI cJ cF S (hUnpos q).1 (hUnpos q).2))
def hTys : List (ClassId × FieldType) := [(cI, .int), (cJ, .long), (cF, .object "HintedStems$Font")]
def hAd : Nat → Prop := fun a => ad 98 1 ≤ a
def hInj : Prop := (∀ q q' : Nat, q < hNc ad → q' < hNc ad → ad (hUnpos q).1 (hUnpos q).2 = ad (hUnpos q').1 (hUnpos q').2 → q = q') ∧ ∀ q : Nat, q < hNc ad → ad 98 1 ≤ ad (hUnpos q).1 (hUnpos q).2
theorem hNc_lt {q : Nat} (h : q < hNc ad) : q < 113 := by
  unfold hNc at h
  split at h <;> omega
end
def hNW (U : State) : Prop := ∀ w ∈ hNestL, va_Nw w U
theorem hNW_warm {s U : State} (hW : s.WarmedH U.vm) (h : hNW s) : hNW U := by
  intro w hw
  have h1 := h w hw
  have h2 : hNest w = true := (List.mem_filter.mp hw).2
  cases w <;> first | exact va_Nw.warmF hW h1 | exact va_Nw.warmM hW h1 | cases h2
section
variable {ad : Nat → Nat → Nat} {cI cJ cF : ClassId} {S S' : hS} {g i q : Nat}
theorem h112 (h : q < 112) : q < hNc ad := by
  unfold hNc
  split <;> omega
theorem h113 (hf : ad 99 1 = 1) : 112 < hNc ad := by
  unfold hNc
  rw [if_pos hf]
  decide
theorem hW_at (hq : q < hNc ad) (hu : hUnpos q = (g, i)) : (hW ad cI cJ cF S)[q]? = some (ad g i, hCell ad cI cJ cF S g i) := by
  unfold hW
  rw [List.getElem?_map, List.getElem?_range hq]
  simp only [Option.map_some, hu]
theorem hW_set (hq : q < hNc ad) (hu : hUnpos q = (g, i)) (hs : ∀ g' i', g' ≠ g ∨ (i' ≠ i ∧ i' ≠ 100 + i) → S' g' i' = S g' i') : (hW ad cI cJ cF S).set q (ad g i, hCell ad cI cJ cF S' g i) = hW ad cI cJ cF S' := by
  apply List.ext_getElem?
  intro k
  rw [List.getElem?_set]
  by_cases hk : q = k
  · subst hk
    rw [if_pos rfl, if_pos (by simpa [hW] using hq), hW_at hq hu]
  · rw [if_neg hk]
    by_cases h9 : k < hNc ad
    · obtain ⟨g', i', e⟩ : ∃ g' i', hUnpos k = (g', i') := ⟨_, _, rfl⟩
      rw [hW_at h9 e, hW_at h9 e]
      have b1 : i < 13 := by have := (hPos_un q (hNc_lt ad hq)).2; rw [hu] at this; exact this
      have b2 : i' < 13 := by have := (hPos_un k (hNc_lt ad h9)).2; rw [e] at this; exact this
      have hne : g' ≠ g ∨ i' ≠ i := by
        by_cases h1 : g' = g
        · right; intro h2
          subst h1; subst h2
          exact hk (hUnpos_inj (hNc_lt ad hq) (hNc_lt ad h9) (hu.trans e.symm))
        · exact Or.inl h1
      have e1 : S' g' i' = S g' i' := hs g' i' (by rcases hne with h | h; exact Or.inl h; exact Or.inr ⟨h, by omega⟩)
      have e2 : S' g' (100 + i') = S g' (100 + i') := hs g' (100 + i') (by rcases hne with h | h; exact Or.inl h; exact Or.inr ⟨by omega, by omega⟩)
      simp only [hCell, e1, e2]
    · rw [List.getElem?_eq_none (by simp [hW]; omega), List.getElem?_eq_none (by simp [hW]; omega)]
theorem hW_D (h : hInj ad) : va_D (hAd ad) (hW ad cI cJ cF S) := by
  have key : ∀ (k : Nat) (p : Nat × va_E), (hW ad cI cJ cF S)[k]? = some p → k < hNc ad ∧ p.1 = ad (hUnpos k).1 (hUnpos k).2 := by
    intro k p hp
    have hk : k < hNc ad := by
      have := (List.getElem?_eq_some_iff.mp hp).1
      simpa [hW] using this
    rw [hW_at hk (g := (hUnpos k).1) (i := (hUnpos k).2) rfl] at hp
    exact ⟨hk, by rw [← Option.some.inj hp]⟩
  refine ⟨fun a b p q ha hb e => ?_, fun k p hp => ?_⟩
  · obtain ⟨h1, e1⟩ := key a p ha
    obtain ⟨h2, e2⟩ := key b q hb
    exact h.1 a b h1 h2 (by rw [← e1, ← e2, e])
  · obtain ⟨h1, e1⟩ := key k p hp
    rw [e1]
    exact h.2 k h1
theorem hset_else {v : Int} {k : Int} {i0 : Nat} (h : i0 = i ∨ i0 = 100 + i) : ∀ g' i', g' ≠ g ∨ (i' ≠ i ∧ i' ≠ 100 + i) → (gset S g (aset (S g) i0 k v)) g' i' = S g' i' := by
  intro g' i' h1
  unfold gset
  split
  · next e =>
    subst e
    rw [aset_row]
    rcases h1 with h1 | h1
    · exact absurd rfl h1
    · rcases h with h | h <;> omega
  · rfl
end

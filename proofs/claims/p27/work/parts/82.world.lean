/-! the world of the law: the class's object as constructed, and the law's own arrays -/
section
variable {D : va_G} {cI cJ cF : ClassId} {H : Heap} {A : Nat → Prop}
def kAd (h sz : Nat) (a0 a1 fi od hi : Nat → Nat) (b : Nat → Nat → Nat) (la : Nat → Nat) (g i : Nat) : Nat := match g with
  | 0 => a0 i | 1 => a1 i | 2 => b 0 i | 3 => b 1 i | 4 => b 2 i | 5 => b 3 i | 6 => b 4 i | 7 => fi i | 8 => od i | 9 => hi i | 10 => la i | 98 => sz | 99 => 0 | _ => h
theorem kAd_nc (h sz : Nat) (a0 a1 fi od hi : Nat → Nat) (b : Nat → Nat → Nat) (la : Nat → Nat) : hNc (kAd h sz a0 a1 fi od hi b la) = 112 := rfl
def kS0 : hS := fun g i k => if g < 7 then (if i = 0 then (if k = 2 then 20 else if k = 3 then 1 else 0) else 0) else if g = 10 then (if i = 1 then (if k = 1 then 20 else if k = 2 then 1 else 0) else 0) else 0
theorem kS0_F {g : Nat} (hg : g < 7) : kS0 g = kS0 0 := by
  funext i k
  unfold kS0
  rw [if_pos hg, if_pos (show (0 : Nat) < 7 by omega)]
theorem kS0_R : hR kS0 := by
  intro g i k _
  unfold kS0
  split
  · split
    · split
      · exact ⟨by decide, by decide⟩
      · split
        · exact ⟨by decide, by decide⟩
        · exact hIn_0
    · exact hIn_0
  · split
    · split
      · split
        · exact ⟨by decide, by decide⟩
        · split
          · exact ⟨by decide, by decide⟩
          · exact hIn_0
      · exact hIn_0
    · exact hIn_0
def kG : Nat → Int32 := upd (upd (fun _ => 0) (Int32.toNatClampNeg 1) 20) (Int32.toNatClampNeg 2) 1
theorem kG_v : kG = fun k : Nat => hI (kS0 10 1 k) := by
  funext k
  unfold kG
  rw [show Int32.toNatClampNeg 1 = 1 by decide, show Int32.toNatClampNeg 2 = 2 by decide]
  simp only [upd]
  by_cases h6 : k = 2
  · subst h6; rfl
  · by_cases h5 : k = 1
    · subst h5; rfl
    · rw [if_neg h6, if_neg h5]
      have e : kS0 10 1 k = 0 := by
        show (if (k : Int) = 1 then (20 : Int) else if (k : Int) = 2 then 1 else 0) = 0
        rw [if_neg (by omega), if_neg (by omega)]
      rw [e, hI_0]
theorem va_at_q {a n : Nat} {f f' : Nat → Option Nat} (h : ∀ k, k < n → f k = f' k) (hP : va_at D vwCl (a, .inl (cF, n, .inr (.inr (.inr (.inr f))))) H) : va_at D vwCl (a, .inl (cF, n, .inr (.inr (.inr (.inr f'))))) H := by
  have e : vp_cell cF (n, .inr (.inr (.inr (.inr f)))) = vp_cell cF (n, .inr (.inr (.inr (.inr f')))) := by
    rw [vp_cell_q, vp_cell_q]
    unfold arrV
    congr 2
    funext j
    show va_rf (f j.val) = va_rf (f' j.val)
    rw [h j.val j.isLt]
  have h1 : H[a]? = some (vp_cell cF (n, .inr (.inr (.inr (.inr f))))) := hP
  show H[a]? = some (vp_cell cF (n, .inr (.inr (.inr (.inr f')))))
  rw [← e]; exact h1
variable {ad : Nat → Nat → Nat}
theorem kF_at {g : Nat} (hg : g < 7) (hP : va_P D vwCl (kFont cI cJ (ad g)) H) (i : Nat) (hi : i < 13) : va_at D vwCl (ad g i, hCell ad cI cJ cF kS0 g i) H := by
  unfold hCell hCellR
  rw [if_pos hg, kS0_F hg]
  rcases (show i = 0 ∨ i = 1 ∨ i = 2 ∨ i = 3 ∨ i = 4 ∨ i = 5 ∨ i = 6 ∨ i = 7 ∨ i = 8 ∨ i = 9 ∨ i = 10 ∨ i = 11 ∨ i = 12 by omega) with rfl | rfl | rfl | rfl | rfl | rfl | rfl | rfl | rfl | rfl | rfl | rfl | rfl
  · exact hP 0 _ rfl
  · exact hP 1 _ rfl
  · exact hP 2 _ rfl
  · exact hP 3 _ rfl
  · exact hP 4 _ rfl
  · exact hP 5 _ rfl
  · exact hP 6 _ rfl
  · exact hP 7 _ rfl
  · exact hP 8 _ rfl
  · exact hP 9 _ rfl
  · exact hP 10 _ rfl
  · exact hP 11 _ rfl
  · exact hP 12 _ rfl
theorem va_P_tl {x : Nat × va_E} {w : va_W} (h : va_P D vwCl (x :: w) H) : va_P D vwCl w H := kright (wr := [x]) h
def kLaw (cI cJ : ClassId) (la : Nat → Nat) : va_W := [(la 1, .inl (cI, 4, .inl kG)), (la 2, .inl (cI, 8, .inl (fun _ => 0))), (la 3, .inl (cI, 8, .inl (fun _ => 0))), (la 4, .inl (cI, 49, .inl (fun _ => 0))), (la 5, .inl (cI, 49, .inl (fun _ => 0))), (la 6, .inl (cI, 49, .inl (fun _ => 0))), (la 7, .inl (cI, 3, .inl (fun _ => 0))), (la 8, .inl (cI, 4, .inl (fun _ => 0))), (la 9, .inl (cI, 4, .inl (fun _ => 0))), (la 10, .inl (cI, 32, .inl (fun _ => 0))), (la 11, .inl (cJ, 32, .inr (.inl (fun _ => 0))))]
def kAll (cI cJ cF : ClassId) (h : Nat) (a0 a1 fi od hi : Nat → Nat) (b : Nat → Nat → Nat) (la : Nat → Nat) : va_W := kObj cI cJ cF h a0 a1 fi od hi b ++ kLaw cI cJ la
theorem kAll_P {h sz : Nat} {a0 a1 fi od hi la : Nat → Nat} {b : Nat → Nat → Nat} (hP : va_P D vwCl (kAll cI cJ cF h a0 a1 fi od hi b la) H) : va_P D vwCl (hW (kAd h sz a0 a1 fi od hi b la) cI cJ cF kS0) H := by
  have p0 := kleft hP
  have pM := kright hP
  have p1 := va_P_tl p0
  have f0 := kleft p1
  have p2 := kright p1
  have f1 := kleft p2
  have p3 := kright p2
  have pF := kleft p3
  have p4 := kright p3
  have pO := kleft p4
  have pH := kright p4
  have p5 := va_P_tl (va_P_tl pH)
  have f2 := kleft p5
  have p6 := kright p5
  have f3 := kleft p6
  have p7 := kright p6
  have f4 := kleft p7
  have p8 := kright p7
  have f5 := kleft p8
  have f6 := kright p8
  have hF : ∀ g, g < 7 → va_P D vwCl (kFont cI cJ (kAd h sz a0 a1 fi od hi b la g)) H := by
    intro g hg
    rcases (show g = 0 ∨ g = 1 ∨ g = 2 ∨ g = 3 ∨ g = 4 ∨ g = 5 ∨ g = 6 by omega) with rfl | rfl | rfl | rfl | rfl | rfl | rfl
    · exact f0
    · exact f1
    · exact f2
    · exact f3
    · exact f4
    · exact f5
    · exact f6
  intro k q hk
  have hk9 : k < hNc (kAd h sz a0 a1 fi od hi b la) := by
    have := (List.getElem?_eq_some_iff.mp hk).1
    simpa [hW] using this
  rw [hW_at hk9 (g := (hUnpos k).1) (i := (hUnpos k).2) rfl] at hk
  have e := Option.some.inj hk
  subst e
  rw [kAd_nc] at hk9
  by_cases c0 : k < 91
  · have eu : hUnpos k = (k / 13, k % 13) := by unfold hUnpos; rw [if_pos c0]
    rw [eu]
    exact kF_at (by omega) (hF _ (by omega)) _ (by omega)
  · rcases (show k = 91 ∨ k = 92 ∨ k = 93 ∨ k = 94 ∨ k = 95 ∨ k = 96 ∨ k = 97 ∨ k = 98 ∨ k = 99 ∨ k = 100 ∨ k = 101 ∨ k = 102 ∨ k = 103 ∨ k = 104 ∨ k = 105 ∨ k = 106 ∨ k = 107 ∨ k = 108 ∨ k = 109 ∨ k = 110 ∨ k = 111 by omega) with rfl | rfl | rfl | rfl | rfl | rfl | rfl | rfl | rfl | rfl | rfl | rfl | rfl | rfl | rfl | rfl | rfl | rfl | rfl | rfl | rfl
    · exact pF 0 _ rfl
    · exact pF 1 _ rfl
    · exact pF 2 _ rfl
    · exact pF 3 _ rfl
    · exact pO 0 _ rfl
    · exact pO 1 _ rfl
    · exact pO 2 _ rfl
    · exact pH 0 _ rfl
    · refine va_at_q (f := kH5 b) ?_ (pH 1 _ rfl)
      intro k k5
      rcases (show k = 0 ∨ k = 1 ∨ k = 2 ∨ k = 3 ∨ k = 4 by omega) with rfl | rfl | rfl | rfl | rfl <;> rfl
    · exact p0 0 _ rfl
    · have q := pM 0 _ rfl
      rw [kG_v] at q
      exact q
    · exact pM 1 _ rfl
    · exact pM 2 _ rfl
    · exact pM 3 _ rfl
    · exact pM 4 _ rfl
    · exact pM 5 _ rfl
    · exact pM 6 _ rfl
    · exact pM 7 _ rfl
    · exact pM 8 _ rfl
    · exact pM 9 _ rfl
    · exact pM 10 _ rfl
end

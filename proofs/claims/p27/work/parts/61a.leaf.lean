/-! the law's small methods by the class's font -/
theorem iShr_v {x : Int} (hx : hIn x) (k : Nat) (hk : k < 32) : iShr x k = x / ((2 ^ k : Nat) : Int) := by
  unfold iShr
  show ((hI x).toBitVec.sshiftRight' (((hI (k : Int)) &&& 31).toBitVec.smod 32)).toInt = _
  rw [BitVec.toInt_sshiftRight', shl_amt32 k hk, Int.shiftRight_eq_div_pow]
  rw [show (hI x).toBitVec.toInt = x from hI_toInt hx]
theorem iShr_1 {x : Int} (hx : hIn x) : iShr x 1 = x / 2 := iShr_v hx 1 (by decide)
theorem RL0_of {A P P' : hGM} (h : RL0 A P) (e1 : P' 1 0 = P 1 0 ∧ P' 1 1 = P 1 1 ∧ P' 1 2 = P 1 2) (e : ∀ i : Nat, 2 ≤ i → i ≤ 7 → P' i = P i) : RL0 A P' := by
  unfold RL0 at h ⊢
  rw [e1.1, e1.2.1, e1.2.2, e 2 (by decide) (by decide), e 3 (by decide) (by decide), e 4 (by decide) (by decide), e 5 (by decide) (by decide), e 6 (by decide) (by decide), e 7 (by decide) (by decide)]
  exact h
theorem pxL_b {u z : Int} (u0 : 0 ≤ u) (u1 : u ≤ 3000) (z0 : 0 ≤ z) (z1 : z ≤ 48) : p_L_inPixels u z ∧ v_L_inPixels u z = v_X5_inPixels u z ∧ 0 ≤ v_L_inPixels u z ∧ v_L_inPixels u z ≤ 145 := by
  have m := mulbd (u := u) (z := z) (a := 0) (b := 3000) u0 u1 (by decide) (by decide) z0 z1
  have h : hIn (u * z + 500) := ⟨by omega, by omega⟩
  refine ⟨⟨h, by omega, ⟨by omega, by omega⟩, trivial⟩, (px_v h).symm, ?_, ?_⟩
  · show 0 ≤ (u * z + 500) / 1000; omega
  · show (u * z + 500) / 1000 ≤ 145; omega
theorem hintL {A P : hGM} (h : RL0 A P) {i : Int} (i0 : 0 ≤ i) (i1 : i < 48) (c : 0 < A 4 i) : p_L_hinted A P i ∧ v_L_hinted A P i = v_X1_hintedWidth A (A 4 i) := by
  have q := rl_at h i0 i1 c
  unfold p_L_hinted v_L_hinted
  rw [q.1.2.1]
  exact ⟨⟨⟨by omega, by omega⟩, ⟨h, by omega, by omega⟩, fun _ => trivial, fun _ => trivial⟩, rfl⟩
theorem wideL {A P : hGM} (h : RL0 A P) {i z : Int} (i0 : 0 ≤ i) (i1 : i < 48) (c : 0 < A 4 i) (z0 : 0 ≤ z) (z1 : z ≤ 48) : p_L_wide A P i z ∧ v_L_wide A P i z = v_X1_wideOf A (A 4 i) z := by
  have q := rl_at h i0 i1 c
  obtain ⟨hp, hv⟩ := hintL h i0 i1 c
  have b := hintW_bd h.1 (w := A 4 i) (by omega) (by omega)
  obtain ⟨p1, p2, p3, p4⟩ := pxL_b b.1 (by omega : v_X1_hintedWidth A (A 4 i) ≤ 3000) z0 z1
  unfold p_L_wide v_L_wide
  rw [hv, wideOf_eq, ← p2]
  refine ⟨⟨hp, p1, fun _ => trivial, fun _ => trivial⟩, ?_⟩
  unfold v_J9_max_7cf53
  generalize v_L_inPixels (v_X1_hintedWidth A (A 4 i)) z = x at p3 ⊢
  by_cases d : x = 0
  · rw [if_pos d]; split <;> omega
  · rw [if_neg d]; split <;> omega
theorem colL {A P : hGM} (h : RL0 A P) {g z : Int} (g0 : 0 ≤ g) (g1 : g < A 0 0) (z0 : 0 ≤ z) (z1 : z ≤ 48) : p_L_columns A P g z ∧ v_L_columns A P g z = v_X0_columnsOf (A 1 g) z := by
  have n := rl_g h
  have q := rl_many h g0 g1
  obtain ⟨p1, p2, p3, p4⟩ := pxL_b q.2.1.1 (by omega : A 1 g ≤ 3000) z0 z1
  unfold p_L_columns v_L_columns v_X0_columnsOf
  rw [q.1.1, ← p2]
  refine ⟨⟨⟨g0, by omega⟩, p1, fun _ => trivial, fun _ => ⟨fun _ => trivial, fun _ => trivial⟩⟩, ?_⟩
  unfold v_J9_max_7cf53 v_J9_min_7cf53
  generalize v_L_inPixels (A 1 g) z = x at p3 ⊢
  by_cases d : x = 0
  · rw [if_pos d, if_neg (show ¬ 64 ≤ x by omega)]
    split <;> omega
  · rw [if_neg d]
    by_cases c2 : x ≤ 64
    · rw [if_pos c2]
      by_cases c3 : 64 ≤ x
      · rw [if_pos c3, if_pos (by decide)]; omega
      · rw [if_neg c3]; split <;> omega
    · rw [if_neg c2, if_pos (show 64 ≤ x by omega), if_pos (by decide)]
/-! the places of stems, as the law finds them -/
/-- the end of the stem to the left -/
def lrt (A : hGM) (g z : Int) : Nat → Int
  | 0 => 0
  | k + 1 => layL A g z k + layW A g z k
def lsp (A : hGM) (g : Int) : Nat → Int
  | 0 => 0
  | k + 1 => layG A g k
/-- where a stem would lie, and where it may -/
def lat (A : hGM) (g z : Int) : Nat → Int
  | 0 => v_X0_rounded A (g * 6 + 0) z (layW A g z 0)
  | k + 1 => layR A g z k (layL A g z k + layW A g z k)
def lle (A : hGM) (g z : Int) : Nat → Int
  | 0 => 0
  | k + 1 => layM A g k (layL A g z k + layW A g z k)
theorem lay_L (A : hGM) (g z : Int) (k : Nat) : layL A g z k = if 0 < k ∧ lat A g z k < lle A g z k then lle A g z k else lat A g z k := by
  cases k with
  | zero => rw [if_neg (fun q => by omega)]; rfl
  | succ k =>
    show (if layR A g z k (layL A g z k + layW A g z k) < layM A g k (layL A g z k + layW A g z k) then _ else _) = if 0 < k + 1 ∧ layR A g z k (layL A g z k + layW A g z k) < layM A g k (layL A g z k + layW A g z k) then _ else _
    by_cases c : layR A g z k (layL A g z k + layW A g z k) < layM A g k (layL A g z k + layW A g z k)
    · rw [if_pos c, if_pos ⟨by omega, c⟩]; rfl
    · rw [if_neg c, if_neg (fun q => c q.2)]; rfl
theorem lay_P (A : hGM) (g z : Int) (k : Nat) : layP A g z k = true ↔ (0 < k ∧ lat A g z k < lle A g z k) := by
  cases k with
  | zero => exact ⟨fun q => (by cases q), fun q => by omega⟩
  | succ k =>
    constructor
    · intro q; exact ⟨by omega, of_decide_eq_true q⟩
    · intro q; exact decide_eq_true q.2
theorem lle_lrt (A : hGM) (g z : Int) (k : Nat) : lle A g z k = lrt A g z k + (if lsp A g k ≤ 0 then 0 else 1) := by
  cases k with
  | zero => rfl
  | succ k => rfl
/-- the law's row of the layout when n stems are laid -/
def loO (A P : hGM) (g z : Int) (n : Nat) : hGM := fun i q => if i = 12 then (if q = 6 then pushN A g z n else if q = 7 then clipN A g z n else if 0 ≤ q ∧ q < n then layL A g z q.toNat else P 12 q) else P i q
theorem loO_row {A P : hGM} {g z : Int} {n : Nat} {i : Nat} (h : i ≠ 12) : loO A P g z n i = P i := by
  funext q; unfold loO; rw [if_neg h]
theorem loO_0 (A P : hGM) (g z : Int) : aset (aset P 12 6 0) 12 7 0 = loO A P g z 0 := by
  funext i q
  unfold aset loO
  by_cases c : i = 12
  · subst c
    by_cases c7 : q = 7
    · rw [if_pos ⟨rfl, c7⟩, if_pos rfl, if_neg (by omega), if_pos c7]; rfl
    · rw [if_neg (fun q => c7 q.2), if_pos rfl]
      by_cases c6 : q = 6
      · rw [if_pos ⟨rfl, c6⟩, if_pos c6]; rfl
      · rw [if_neg (fun q => c6 q.2), if_neg c6, if_neg c7, if_neg (by omega)]
  · rw [if_neg (fun q => c q.1), if_neg (fun q => c q.1), if_neg c]
theorem loO_s (A P : hGM) (g z : Int) (n : Nat) (hn : n < 6) : aset (aset (aset (loO A P g z n) 12 6 (pushN A g z (n + 1))) 12 n (layL A g z n)) 12 7 (clipN A g z (n + 1)) = loO A P g z (n + 1) := by
  funext i q
  unfold aset loO
  by_cases c : i = 12
  · subst c
    simp only [eq_self, true_and, if_true]
    by_cases c7 : q = 7
    · rw [if_pos c7, if_neg (by omega), if_pos c7]
    · rw [if_neg c7]
      by_cases cn : q = n
      · rw [if_pos cn, if_neg (by omega), if_neg c7, if_pos (by omega), cn, Int.toNat_natCast]
      · rw [if_neg cn]
        by_cases c6 : q = 6
        · rw [if_pos c6, if_pos c6]
        · rw [if_neg c6, if_neg c6, if_neg c7, if_neg c6, if_neg c7]
          by_cases cr : 0 ≤ q ∧ q < n
          · rw [if_pos cr, if_pos (by omega)]
          · rw [if_neg cr, if_neg (by omega)]
  · rw [if_neg (fun q => c q.1), if_neg (fun q => c q.1), if_neg (fun q => c q.1), if_neg c, if_neg c]
theorem loO_6 (A P : hGM) (g z : Int) (n : Nat) : loO A P g z n 12 6 = pushN A g z n ∧ loO A P g z n 12 7 = clipN A g z n := ⟨rfl, rfl⟩
theorem loO_at (A P : hGM) (g z : Int) {n k : Nat} (hk : k < n) (hn : n ≤ 6) : loO A P g z n 12 k = layL A g z k := by
  unfold loO
  rw [if_pos rfl, if_neg (by omega), if_neg (by omega), if_pos (by omega), Int.toNat_natCast]
theorem loO_R {A P : hGM} (h : RL0 A P) (g z : Int) (n : Nat) : RL0 A (loO A P g z n) := RL0_of h (by rw [loO_row (by decide)]; exact ⟨rfl, rfl, rfl⟩) (fun i a b => loO_row (by omega))

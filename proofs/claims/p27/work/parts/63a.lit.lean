/-! the array that lit makes, and lit -/
section
variable (ad : Nat → Nat → Nat) (cI cJ cF : ClassId)
def ad2 (q : Nat) : Nat → Nat → Nat := fun g i => if i = 12 ∧ g = 10 then q else if i = 1 ∧ g = 99 then 1 else ad g i
def sOut (S : hS) (X : Int → Int) : hS := gset S 10 (fun i k => if i = 12 then X k else S 10 i k)
set_option maxRecDepth 100000 in
set_option maxHeartbeats 4000000 in
theorem hW_out0 (S : hS) (X : Int → Int) (q : Nat) : (List.range 113).map (fun k => (ad2 ad q (hUnpos k).1 (hUnpos k).2, hCell (ad2 ad q) cI cJ cF (sOut S X) (hUnpos k).1 (hUnpos k).2)) = (List.range 112).map (fun k => (ad (hUnpos k).1 (hUnpos k).2, hCell ad cI cJ cF S (hUnpos k).1 (hUnpos k).2)) ++ [(q, .inl (cI, 8, .inl (fun k => hI (X k))))] := rfl
end
section
variable {D : va_G} {ad : Nat → Nat → Nat} {cI cJ cF : ClassId} {S : hS} {q : Nat}
theorem hW_out (hf : ad 99 1 = 0) (X : Int → Int) : hW (ad2 ad q) cI cJ cF (sOut S X) = hW ad cI cJ cF S ++ [(q, .inl (cI, 8, .inl (fun k => hI (X k))))] := by
  have e : hNc ad = 112 := by unfold hNc; rw [hf]; rfl
  have e2 : hNc (ad2 ad q) = 113 := rfl
  unfold hW
  rw [e, e2]
  exact hW_out0 ad cI cJ cF S X q
theorem hInj_of (hD : va_D (hAd ad) (hW ad cI cJ cF S)) : hInj ad :=
  ⟨fun q q' h h' e => hD.1 q q' _ _ (hW_at h (g := (hUnpos q).1) (i := (hUnpos q).2) rfl) (hW_at h' (g := (hUnpos q').1) (i := (hUnpos q').2) rfl) e, fun q h => hD.2 q _ (hW_at h (g := (hUnpos q).1) (i := (hUnpos q).2) rfl)⟩
theorem sOut_R (h : hR S) : hR (sOut S (fun _ => 0)) := by
  intro g i k hi
  unfold sOut gset
  by_cases c : g = 10
  · rw [if_pos c]
    by_cases d : i = 12
    · show hIn (if i = 12 then (0 : Int) else S 10 i k)
      rw [if_pos d]; exact hIn_0
    · show hIn (if i = 12 then (0 : Int) else S 10 i k)
      rw [if_neg d]; exact h 10 i k hi
  · rw [if_neg c]; exact h g i k hi
theorem sOut_row {X : Int → Int} {i : Nat} (h : i ≠ 12) : sOut S X 10 i = S 10 i := by
  funext k
  unfold sOut
  rw [gset_at, if_neg h]
theorem sOut_again (X : Int → Int) (M : hGM) (hM : ∀ i : Nat, i ≠ 12 → M i = sOut S X 10 i) : gset (sOut S X) 10 M = sOut S (M 12) := by
  funext g
  unfold sOut
  rw [gset_gset]
  unfold gset
  by_cases c : g = 10
  · rw [if_pos c, if_pos c]
    funext i k
    by_cases d : i = 12
    · rw [if_pos d, d]
    · rw [if_neg d, hM i d, sOut_row d]
  · rw [if_neg c, if_neg c]
theorem va_Pl {wr wc : va_W} {H : Heap} (h : va_P D vwCl (wr ++ wc) H) : va_P D vwCl wr H := fun k q hk => h k q (by rw [List.getElem?_append_left (List.getElem?_eq_some_iff.mp hk).1]; exact hk)
set_option maxHeartbeats 4000000 in
set_option maxRecDepth 100000 in
theorem ok_L_lit (l : Launch) (hinj : hInj ad) (S : hS) (hf : ad 99 1 = 0) (A : hGM) (P : hGM) (hP : S 10 = P) (glyph : Int) (size : Int) (h_glyph : hIn glyph) (h_size : hIn size) (hp : p_L_lit A P glyph size) : hMlC D ad cI cJ cF l yL_lit cL_lit 14 ({ frames := 5, cells := 1, slots := 8, locals := 133 } : Room) [.ref (ad 10 1), .ref (ad 10 2), .ref (ad 10 3), .ref (ad 10 4), .ref (ad 10 5), .ref (ad 10 6), .ref (ad 10 7), .int (hI glyph), .int (hI size)] S (v_L_lit A P glyph size) S 1 := by
  refine hOf (S := S) l hinj (by decide +kernel) (Nat.le_of_ble_eq_true rfl) (fun p e s m args below meth c E => ?_)
  obtain ⟨hx, hb, hml, hown, hts, hK, hN, -, hr, hlk, hz⟩ := id E
  intro H locs ls hh hl
  have hl : lv_has ls 14 [(0, .ref (ad 10 1)), (1, .ref (ad 10 2)), (2, .ref (ad 10 3)), (3, .ref (ad 10 4)), (4, .ref (ad 10 5)), (5, .ref (ad 10 6)), (6, .ref (ad 10 7)), (7, .int (hI glyph)), (8, .int (hI size))] := hl
  refine lv_bipush (v := 8) hx hb dL_lit_0 (by decide) ?_
  refine va_newa (atype := .int) (ty := .int) (a0 := (8, .inl (fun _ => 0))) (N' := 8) hx hb (hts _ q1_55) rfl hK hh.1 (hW_D hinj) hh.2.2 (fun q hq => Nat.le_trans hz hq) (fun cA => rfl) (by decide) rfl (Nat.le_of_ble_eq_true rfl) (Nat.le_of_ble_eq_true rfl) (Nat.le_of_ble_eq_true rfl) dL_lit_2 (fun q cA H1 hK1 hP1 hD1 hS1 => ?_)
  have e1 := (hK1.2 3 (cA, .int) rfl).2
  have e2 := (hK.2 0 (cI, .int) rfl).2
  have ec : cA = cI := Option.some.inj (e1.symm.trans e2)
  subst ec
  refine lv_astore (nL := 14) (lv' := [(9, .ref q), (0, .ref (ad 10 1)), (1, .ref (ad 10 2)), (2, .ref (ad 10 3)), (3, .ref (ad 10 4)), (4, .ref (ad 10 5)), (5, .ref (ad 10 6)), (6, .ref (ad 10 7)), (7, .int (hI glyph)), (8, .int (hI size))]) hx hb dL_lit_4 hl (by decide) rfl (fun ls hl => ?_)
  have hh1 : hH D (ad2 ad q) cA cJ cF (sOut S (fun _ => 0)) s H1 locs := ⟨by rw [hW_out hf]; exact hP1, sOut_R hh.2.1, hS1⟩
  have hD2 : va_D (hAd (ad2 ad q)) (hW (ad2 ad q) cA cJ cF (sOut S (fun _ => 0))) := by rw [hW_out hf]; exact hD1
  have hinj2 := hInj_of hD2
  have E2 : hE D (ad2 ad q) cA cJ cF p s m args meth c RL cL_lit 14 (some .long) := ⟨hx, hb, hml, hown, hts, hK, hN, hinj2, hr, hlk, hz⟩
  have hR2 : RL0 A (sOut S (fun _ => 0) 10) := RL0_of hp.1 (by rw [sOut_row (by decide), hP]; exact ⟨rfl, rfl, rfl⟩) (fun i a b => by rw [sOut_row (by omega), hP])
  have K := at_L_lit (e := e) (below := below) l hinj2 (sOut S (fun _ => 0)) rfl A _ rfl glyph size h_glyph h_size ⟨hR2, hp.2⟩ E2 H1 locs ls hh1 (lv_sub hl [1, 2, 3, 4, 5, 6, 7, 8, 9, 0] rfl)
  intro T hT X
  obtain ⟨t, a, o, r1, r2, ⟨⟨r, u, ho, hr1, hb1⟩, hF⟩, L, f1, f2⟩ := K T hT X
  refine ⟨t, a, o, r1, r2, ⟨⟨r, u, ho, hr1, ?_, hh.2.1⟩, hF⟩, L, f1, f2⟩
  have hb2 := hb1.1
  rw [sOut_again (fun _ => 0) (m_L_lit A (sOut S (fun _ => 0) 10) glyph size) (fun i hi => loO_row hi), hW_out hf] at hb2
  exact va_Pl hb2
end

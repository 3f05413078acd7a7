/-! answers of the calls that acts makes -/
theorem iAnd_31 (x : Int) : 0 ≤ iAnd x 2147483647 := by
  have e : bitsOf (iAnd x 2147483647) = bitsOf x &&& bitsOf 2147483647 := bits_iAnd _ _
  have b : bitsOf x &&& bitsOf 2147483647 ≤ bitsOf 2147483647 := Nat.and_le_right
  have c : bitsOf 2147483647 = 2147483647 := by decide
  have q := small_of_bits (x := iAnd x 2147483647) (hIn_toInt _) (n := bitsOf x &&& bitsOf 2147483647) (by omega) e
  omega
theorem low_p {v n : Int} (h0 : 0 < n) (h1 : n ≤ 2147483647) : p_L_low v n ∧ 0 ≤ v_L_low v n ∧ v_L_low v n < n := by
  have a := iAnd_31 v
  have b : 0 ≤ iAnd v 2147483647 % n ∧ iAnd v 2147483647 % n < n := ⟨Int.emod_nonneg _ (by omega), Int.emod_lt_of_pos _ h0⟩
  exact ⟨⟨a, h0, ⟨by omega, by omega⟩, trivial⟩, b⟩
theorem glyph_full {A : hGM} {a : Int} (h : A 0 0 = 8) (ha : 100 ≤ a ∧ a ≤ 1500) : v_X1_addGlyph A a = -1000003 ∧ m_X1_addGlyph A a = A := by
  unfold v_X1_addGlyph m_X1_addGlyph
  rw [if_neg (within_y ha), if_neg (within_y ha), if_neg (by omega), if_neg (by omega)]
  exact ⟨rfl, rfl⟩
theorem glyph_ok {A : hGM} {a : Int} (h0 : 0 ≤ A 0 0) (h : A 0 0 < 8) (ha : 100 ≤ a ∧ a ≤ 1500) : v_X1_addGlyph A a = A 0 0 ∧ m_X1_addGlyph A a = aset (aset A 1 (A 0 0) a) 0 0 (A 0 0 + 1) := by
  unfold v_X1_addGlyph m_X1_addGlyph
  rw [if_neg (within_y ha), if_neg (within_y ha), if_pos h, if_pos h, put_in h0 (by omega), aset_row (by decide)]
  exact ⟨rfl, rfl⟩
theorem std_zero (A : hGM) : v_X1_addStandard A 0 = -1000001 ∧ m_X1_addStandard A 0 = A := by
  have c : v_X5_within 0 1 300 = 0 := within_0.mpr (by omega)
  unfold v_X1_addStandard m_X1_addStandard
  rw [if_pos c, if_pos c]
  exact ⟨rfl, rfl⟩
theorem std_had {A : hGM} {w : Int} (hw : 1 ≤ w ∧ w ≤ 300) (h : 0 ≤ v_X1_standardAt A w) : v_X1_addStandard A w = -1000002 ∧ m_X1_addStandard A w = A := by
  unfold v_X1_addStandard m_X1_addStandard
  rw [if_neg (within_y hw), if_neg (within_y hw), if_pos (by omega), if_pos (by omega)]
  exact ⟨rfl, rfl⟩
theorem std_three {A : hGM} {w : Int} (hw : 1 ≤ w ∧ w ≤ 300) (h : v_X1_standardAt A w = -1) (h3 : A 0 1 = 3) : v_X1_addStandard A w = -1000003 ∧ m_X1_addStandard A w = A := by
  unfold v_X1_addStandard m_X1_addStandard
  have c : ¬ ¬ v_X1_standardAt A w < 0 := by omega
  have c3 : ¬ A 0 1 < 3 := by omega
  rw [if_neg (within_y hw), if_neg (within_y hw), if_neg c, if_neg c, if_neg c3, if_neg c3]
  exact ⟨rfl, rfl⟩
theorem std_new {A : hGM} {w : Int} (hw : 1 ≤ w ∧ w ≤ 300) (h : v_X1_standardAt A w = -1) (h3 : A 0 1 < 3) : v_X1_addStandard A w = v_X1_snappingTo (stIns A w) w ∧ m_X1_addStandard A w = stIns A w := by
  unfold v_X1_addStandard m_X1_addStandard
  have c : ¬ ¬ v_X1_standardAt A w < 0 := by omega
  rw [if_neg (within_y hw), if_neg (within_y hw), if_neg c, if_neg c, if_pos h3, if_pos h3]
  exact ⟨rfl, rfl⟩
theorem drop_zero (A : hGM) : v_X1_dropStandard A 0 = -1000001 ∧ m_X1_dropStandard A 0 = A := by
  have c : v_X5_within 0 1 300 = 0 := within_0.mpr (by omega)
  unfold v_X1_dropStandard m_X1_dropStandard
  rw [if_pos c, if_pos c]
  exact ⟨rfl, rfl⟩
theorem drop_none {A : hGM} {w : Int} (hw : 1 ≤ w ∧ w ≤ 300) (h : v_X1_standardAt A w = -1) : v_X1_dropStandard A w = -1000002 ∧ m_X1_dropStandard A w = A := by
  unfold v_X1_dropStandard m_X1_dropStandard
  rw [if_neg (within_y hw), if_neg (within_y hw), if_pos (by omega), if_pos (by omega)]
  exact ⟨rfl, rfl⟩
theorem drop_ok {A : hGM} {w : Int} (hw : 1 ≤ w ∧ w ≤ 300) (h : 0 ≤ v_X1_standardAt A w) : v_X1_dropStandard A w = A 0 1 - 1 ∧ m_X1_dropStandard A w = stDel A (v_X1_standardAt A w) := by
  unfold v_X1_dropStandard m_X1_dropStandard
  rw [if_neg (within_y hw), if_neg (within_y hw), if_neg (by omega), if_neg (by omega)]
  exact ⟨rfl, rfl⟩
theorem set_0 {A : hGM} {v : Int} (hv : 0 ≤ v ∧ v ≤ 100) : v_X1_changeSetting A 0 v = A 0 2 ∧ m_X1_changeSetting A 0 v = aset A 0 2 v := by
  unfold v_X1_changeSetting m_X1_changeSetting
  rw [if_pos rfl, if_pos rfl, if_neg (within_y hv), if_neg (within_y hv)]
  exact ⟨rfl, rfl⟩
theorem set_1 {A : hGM} {v : Int} (hv : 0 ≤ v ∧ v ≤ 3) : v_X1_changeSetting A 1 v = A 0 3 ∧ m_X1_changeSetting A 1 v = aset A 0 3 v := by
  unfold v_X1_changeSetting m_X1_changeSetting
  have z : ¬ (1 : Int) = 0 := by decide
  have o : (1 : Int) = 1 := rfl
  rw [if_neg z, if_neg z, if_pos o, if_pos o, if_neg (within_y hv), if_neg (within_y hv)]
  exact ⟨rfl, rfl⟩
theorem make_ok (A T : hGM) {z : Int} (hz : 6 ≤ z ∧ z ≤ 48) : v_X1_makeSheet A T z = v_X4_held (mkS A T z (v_X4_slotToMake A z) (A 0 0).toNat).1 ∧ mA_X1_makeSheet A T z = (mkS A T z (v_X4_slotToMake A z) (A 0 0).toNat).1 := by
  have c : ¬ v_X5_isSize z = 0 := within_y hz
  unfold v_X1_makeSheet mA_X1_makeSheet
  rw [if_neg c, if_neg c]
  exact ⟨rfl, rfl⟩
theorem stIns_row {A : hGM} {w : Int} {i : Nat} (h0 : i ≠ 0) (h6 : i ≠ 6) : stIns A w i = A i := by
  funext q
  unfold stIns
  rw [aset_row h0, aset_row h6]
  unfold shW
  rw [if_neg (fun z => h6 z.1)]
theorem stIns_0 {A : hGM} {w k : Int} (hk : k ≠ 1) : stIns A w 0 k = A 0 k := by
  unfold stIns
  rw [aset_ne (by omega), aset_row (by decide)]
  unfold shW
  rw [if_neg (by omega)]
theorem stDel_row {A : hGM} {x : Int} {i : Nat} (h0 : i ≠ 0) (h6 : i ≠ 6) : stDel A x i = A i := by
  funext q
  unfold stDel
  rw [aset_row h6]
  unfold slW
  rw [if_neg (fun z => h6 z.1), aset_row h0]
theorem stDel_01 (A : hGM) (x : Int) : stDel A x 0 1 = A 0 1 - 1 := by
  unfold stDel
  rw [aset_row (by decide)]
  unfold slW
  rw [if_neg (by omega), aset_at]

def mk8 (m : Nat) : Nat → Nat
  | 0 => 0
  | k + 1 => m + 256 * mk8 m k
theorem and_byte {a b c d : Nat} (ha : a < 256) (hc : c < 256) : (a + 256 * b) &&& (c + 256 * d) = (a &&& c) + 256 * (b &&& d) := by
  have e1 : ((a + 256 * b) &&& (c + 256 * d)) % 2 ^ 8 = (a + 256 * b) % 2 ^ 8 &&& (c + 256 * d) % 2 ^ 8 := Nat.and_mod_two_pow
  have e2 : ((a + 256 * b) &&& (c + 256 * d)) / 2 ^ 8 = (a + 256 * b) / 2 ^ 8 &&& (c + 256 * d) / 2 ^ 8 := Nat.and_div_two_pow
  rw [show (a + 256 * b) % 2 ^ 8 = a by omega, show (c + 256 * d) % 2 ^ 8 = c by omega] at e1
  rw [show (a + 256 * b) / 2 ^ 8 = b by omega, show (c + 256 * d) / 2 ^ 8 = d by omega] at e2
  rw [← e1, ← e2]
  omega
def sw1 (k n : Nat) : Nat := n - ((n / 2) &&& mk8 85 k)
def sw2 (k n : Nat) : Nat := (n &&& mk8 51 k) + ((n / 4) &&& mk8 51 k)
def sw3 (k n : Nat) : Nat := (n + n / 16) &&& mk8 15 k
def by1 (a : Nat) : Nat := a - ((a / 2) &&& 85)
def by2 (a : Nat) : Nat := (a &&& 51) + ((a / 4) &&& 51)
def by3 (a : Nat) : Nat := (a + a / 16) &&& 15
theorem by1_m : ∀ a : Nat, a < 128 → ∀ y : Nat, y < 2 → (a + 128 * y) &&& 85 = a &&& 85 := by decide +kernel
theorem by2_m : ∀ a : Nat, a < 64 → ∀ y : Nat, y < 4 → (a + 64 * y) &&& 51 = a &&& 51 := by decide +kernel
theorem by3_m : ∀ a : Nat, a < 80 → ∀ y : Nat, y < 5 → (a + 16 * y) &&& 15 = a &&& 15 := by decide +kernel
theorem by12 : ∀ a : Nat, a < 256 → by1 a < 256 ∧ by2 (by1 a) < 69 ∧ by2 (by1 a) % 16 ≤ 4 ∧ by3 (by2 (by1 a)) = popB 8 a := by decide +kernel
theorem sw1_s {a b k : Nat} (ha : a < 256) : sw1 (k + 1) (a + 256 * b) = by1 a + 256 * sw1 k b := by
  unfold sw1 by1
  show a + 256 * b - ((a + 256 * b) / 2 &&& (85 + 256 * mk8 85 k)) = _
  rw [show (a + 256 * b) / 2 = (a / 2 + 128 * (b % 2)) + 256 * (b / 2) by omega, and_byte (by omega) (by decide), by1_m (a / 2) (by omega) (b % 2) (by omega)]
  have h1 : a / 2 &&& 85 ≤ a / 2 := Nat.and_le_left
  have h2 : b / 2 &&& mk8 85 k ≤ b / 2 := Nat.and_le_left
  omega
theorem sw2_s {a b k : Nat} (ha : a < 256) : sw2 (k + 1) (a + 256 * b) = by2 a + 256 * sw2 k b := by
  unfold sw2 by2
  show ((a + 256 * b) &&& (51 + 256 * mk8 51 k)) + ((a + 256 * b) / 4 &&& (51 + 256 * mk8 51 k)) = _
  rw [show (a + 256 * b) / 4 = (a / 4 + 64 * (b % 4)) + 256 * (b / 4) by omega, and_byte ha (by decide), and_byte (by omega) (by decide), by2_m (a / 4) (by omega) (b % 4) (by omega)]
  omega
theorem sw3_s {c d k : Nat} (h1 : c < 69) (h2 : d % 16 ≤ 4) : sw3 (k + 1) (c + 256 * d) = by3 c + 256 * sw3 k d := by
  unfold sw3 by3
  show (c + 256 * d + (c + 256 * d) / 16) &&& (15 + 256 * mk8 15 k) = _
  rw [show c + 256 * d + (c + 256 * d) / 16 = (c + c / 16 + 16 * (d % 16)) + 256 * (d + d / 16) by omega, and_byte (by omega) (by decide), by3_m (c + c / 16) (by omega) (d % 16) (by omega)]
def pby : Nat → Nat → Nat
  | 0, _ => 0
  | k + 1, n => popB 8 (n % 256) + 256 * pby k (n / 256)
theorem sw_all (k : Nat) : ∀ n : Nat, n < 256 ^ k → sw2 k (sw1 k n) % 16 ≤ 4 ∧ sw3 k (sw2 k (sw1 k n)) = pby k n := by
  induction k with
  | zero =>
    intro n h
    have : n = 0 := by omega
    subst this
    exact ⟨by decide, by decide⟩
  | succ k ih =>
    intro n h
    obtain ⟨a, b, ha, rfl⟩ : ∃ a b, a < 256 ∧ n = a + 256 * b := ⟨n % 256, n / 256, by omega, by omega⟩
    have hb : b < 256 ^ k := by rw [Nat.pow_succ] at h; omega
    obtain ⟨q1, q2⟩ := ih b hb
    obtain ⟨c1, c2, c3, c4⟩ := by12 a ha
    rw [sw1_s ha, sw2_s c1, sw3_s c2 q1, q2, c4]
    refine ⟨by omega, ?_⟩
    show _ = popB 8 ((a + 256 * b) % 256) + 256 * pby k ((a + 256 * b) / 256)
    rw [show (a + 256 * b) % 256 = a by omega, show (a + 256 * b) / 256 = b by omega]
theorem mk8_5 : mk8 85 8 = 6148914691236517205 := by decide
theorem mk8_3 : mk8 51 8 = 3689348814741910323 := by decide
theorem mk8_f : mk8 15 8 = 1085102592571150095 := by decide
theorem dv_b {a b : Nat} (h : a < 256) : (a + 256 * b) / 256 = b := by omega
theorem dv_2 (n : Nat) : n / 65536 = n / 256 / 256 := by rw [Nat.div_div_eq_div_mul]
theorem dv_4 (n : Nat) : n / 4294967296 = n / 256 / 256 / 256 / 256 := by rw [Nat.div_div_eq_div_mul, Nat.div_div_eq_div_mul, Nat.div_div_eq_div_mul]
theorem md_b {a b c d : Nat} (h : a + c < 128) : (a + 256 * b + (c + 256 * d)) % 4294967296 % 128 = a + c := by
  rw [Nat.mod_mod_of_dvd _ (by decide : 128 ∣ 4294967296)]
  omega
theorem ad_b (a b c d : Nat) : a + 256 * b + (c + 256 * d) = (a + c) + 256 * (b + d) := by omega
theorem fold8 {p0 p1 p2 p3 p4 p5 p6 p7 : Nat} (h0 : p0 ≤ 8) (h1 : p1 ≤ 8) (h2 : p2 ≤ 8) (h3 : p3 ≤ 8) (h4 : p4 ≤ 8) (h5 : p5 ≤ 8) (h6 : p6 ≤ 8) (h7 : p7 ≤ 8) (i : Nat) (hi : i = p0 + 256 * (p1 + 256 * (p2 + 256 * (p3 + 256 * (p4 + 256 * (p5 + 256 * (p6 + 256 * p7))))))) :
    i + i / 256 < 18446744073709551616 ∧ (i + i / 256) + (i + i / 256) / 65536 < 18446744073709551616 ∧ ((i + i / 256) + (i + i / 256) / 65536) + ((i + i / 256) + (i + i / 256) / 65536) / 4294967296 < 18446744073709551616 ∧ (((i + i / 256) + (i + i / 256) / 65536) + ((i + i / 256) + (i + i / 256) / 65536) / 4294967296) % 4294967296 % 128 = p0 + p1 + p2 + p3 + p4 + p5 + p6 + p7 := by
  have ib : i ≤ 578721382704613384 := by omega
  have hj : i / 256 ≤ i := Nat.div_le_self _ _
  have hm : (i + i / 256) / 65536 ≤ i + i / 256 := Nat.div_le_self _ _
  have hw : ((i + i / 256) + (i + i / 256) / 65536) / 4294967296 ≤ (i + i / 256) + (i + i / 256) / 65536 := Nat.div_le_self _ _
  refine ⟨by omega, by omega, by omega, ?_⟩
  clear ib hj hm hw
  have e1 : i + i / 256 = (p0 + p1) + 256 * ((p1 + p2) + 256 * ((p2 + p3) + 256 * ((p3 + p4) + 256 * ((p4 + p5) + 256 * ((p5 + p6) + 256 * ((p6 + p7) + 256 * p7)))))) := by
    rw [hi, dv_b (by omega), ad_b, ad_b, ad_b, ad_b, ad_b, ad_b, Nat.add_right_comm p6 (256 * p7) p7]
  clear hi
  generalize i + i / 256 = j at e1 ⊢
  have e3 : j + j / 65536 = (p0 + p1 + (p2 + p3)) + 256 * ((p1 + p2 + (p3 + p4)) + 256 * ((p2 + p3 + (p4 + p5)) + 256 * ((p3 + p4 + (p5 + p6)) + 256 * ((p4 + p5 + (p6 + p7)) + 256 * ((p5 + p6 + p7) + 256 * ((p6 + p7) + 256 * p7)))))) := by
    rw [dv_2, e1, dv_b (by omega), dv_b (by omega), ad_b, ad_b, ad_b, ad_b, ad_b, Nat.add_right_comm (p5 + p6) _ p7]
  clear e1
  generalize j + j / 65536 = m at e3 ⊢
  have e4 : m / 4294967296 = (p4 + p5 + (p6 + p7)) + 256 * ((p5 + p6 + p7) + 256 * ((p6 + p7) + 256 * p7)) := by
    rw [dv_4, e3, dv_b (by omega), dv_b (by omega), dv_b (by omega), dv_b (by omega)]
  rw [e4, e3, md_b (by omega)]
  omega
theorem popB_64 (n : Nat) : popB 64 n = popB 8 (n % 256) + popB 8 (n / 256 % 256) + popB 8 (n / 256 / 256 % 256) + popB 8 (n / 256 / 256 / 256 % 256) + popB 8 (n / 256 / 256 / 256 / 256 % 256) + popB 8 (n / 256 / 256 / 256 / 256 / 256 % 256) + popB 8 (n / 256 / 256 / 256 / 256 / 256 / 256 % 256) + popB 8 (n / 256 / 256 / 256 / 256 / 256 / 256 / 256 % 256) := by
  have m8 : ∀ x : Nat, popB 8 x = popB 8 (x % 256) := by
    intro x
    have := popB_low 8 (x % 256) (x / 256)
    rw [show x % 256 + 2 ^ 8 * (x / 256) = x by omega] at this
    exact this
  have st : ∀ k x : Nat, popB (8 + k) x = popB 8 (x % 256) + popB k (x / 256) := by
    intro k x
    rw [popB_add 8 k, m8]
  have z : ∀ x : Nat, popB 0 x = 0 := fun _ => rfl
  have t1 : popB 64 n = popB 8 (n % 256) + popB 56 (n / 256) := st 56 n
  have t2 := st 48 (n / 256)
  have t3 := st 40 (n / 256 / 256)
  have t4 := st 32 (n / 256 / 256 / 256)
  have t5 := st 24 (n / 256 / 256 / 256 / 256)
  have t6 := st 16 (n / 256 / 256 / 256 / 256 / 256)
  have t7 := st 8 (n / 256 / 256 / 256 / 256 / 256 / 256)
  have t8 := m8 (n / 256 / 256 / 256 / 256 / 256 / 256 / 256)
  rw [t1, show popB 56 (n / 256) = _ from t2, show popB 48 (n / 256 / 256) = _ from t3, show popB 40 (n / 256 / 256 / 256) = _ from t4, show popB 32 (n / 256 / 256 / 256 / 256) = _ from t5, show popB 24 (n / 256 / 256 / 256 / 256 / 256) = _ from t6, show popB 16 (n / 256 / 256 / 256 / 256 / 256 / 256) = _ from t7, t8]
  simp only [Nat.add_assoc]

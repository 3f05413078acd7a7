/-! floats from 1 on: what the steps of the mean's bits do to them -/
/-- the float with a biased exponent and a trailing significand -/
def fE (e t : Nat) : UInt32 := UInt32.ofNat (e * 8388608 + t)
theorem fE_nat {e t : Nat} (he : e < 256) (ht : t < 8388608) : (fE e t).toNat = e * 8388608 + t := by
  unfold fE
  rw [UInt32.toNat_ofNat']
  exact Nat.mod_eq_of_lt (by omega)
theorem f32_E (n : Nat) : FP.Core.fieldE FP.Core.b32 n = n / 8388608 % 256 := rfl
theorem f32_T (n : Nat) : FP.Core.fieldT FP.Core.b32 n = n % 8388608 := rfl
theorem f32_S (n : Nat) : FP.Core.fieldS FP.Core.b32 n = (n / 8388608 / 256 % 2 == 1) := rfl
theorem f32_exps : FP.Core.b32.exps = 256 := rfl
theorem f32_tails : FP.Core.b32.tails = 8388608 := rfl
theorem f32_qmin : FP.Core.b32.qmin = -149 := rfl
theorem f32_qmax : FP.Core.b32.qmax = 104 := rfl
theorem f32_p : FP.Core.b32.p = 24 := rfl
theorem dec_fE {n e t : Nat} (hn : n = e * 8388608 + t) (h1 : 1 ≤ e) (h2 : e < 255) (ht : t < 8388608) : FP.Core.decode FP.Core.b32 n = .fin false (8388608 + t) ((e : Int) - 150) := by
  have a1 : FP.Core.fieldE FP.Core.b32 n = e := by rw [f32_E]; omega
  have a2 : FP.Core.fieldT FP.Core.b32 n = t := by rw [f32_T]; omega
  have a3 : FP.Core.fieldS FP.Core.b32 n = false := by
    rw [f32_S, show n / 8388608 / 256 = 0 by omega]
    rfl
  unfold FP.Core.decode
  rw [a1, a2, a3, f32_exps, f32_tails, f32_qmin, if_neg (by omega), if_neg (by omega), show -149 + ((e : Int) - 1) = (e : Int) - 150 by omega]
theorem enc_32 (s : Bool) (c : Nat) (q : Int) : FP.Core.encode FP.Core.b32 (.fin s c q) = if c < FP.Core.b32.tails then FP.Core.assemble FP.Core.b32 s 0 c else FP.Core.assemble FP.Core.b32 s ((q - FP.Core.b32.qmin).toNat + 1) (c - FP.Core.b32.tails) := rfl
theorem asm_32 (e t : Nat) : FP.Core.assemble FP.Core.b32 false e t = (0 * FP.Core.b32.exps + e) * FP.Core.b32.tails + t := rfl
theorem enc_fE {e t c : Nat} {q : Int} (h1 : 1 ≤ e) (hc : c = 8388608 + t) (hq : q = (e : Int) - 150) : FP.Core.encode FP.Core.b32 (.fin false c q) = e * 8388608 + t := by
  rw [enc_32, f32_tails, f32_qmin, if_neg (by omega), asm_32, f32_tails, show (q - -149).toNat + 1 = e by omega]
  omega
theorem near_ex {c d : Nat} (h : 0 < d) : FP.Core.nearest (c * d) d = c := by
  unfold FP.Core.nearest
  rw [Nat.mul_mod_left, if_pos (by omega), Nat.mul_div_cancel _ h]
theorem rr_ex {num den c : Nat} {e k q : Int} (h0 : num ≠ 0) (hk : FP.Core.leading num den = k) (eq : q = k + e - 23) (hq : -149 ≤ q) (hq2 : q ≤ 104) (hc : FP.Core.unitsNum num e q = c * FP.Core.unitsDen den e q) (hd : 0 < FP.Core.unitsDen den e q) (c2 : c < 16777216) : FP.Core.roundRatio FP.Core.b32 false num den e = .fin false c q := by
  unfold FP.Core.roundRatio
  rw [if_neg h0]
  have hqq : FP.Core.quantum FP.Core.b32 num den e = q := by
    unfold FP.Core.quantum
    rw [hk, f32_qmin, f32_p]
    omega
  rw [hqq]
  unfold FP.Core.roundAt
  rw [hc, near_ex hd]
  unfold FP.Core.settle
  rw [f32_p, if_pos (by omega)]
  unfold FP.Core.bound
  rw [f32_qmax, if_pos hq2]
theorem log2_of {n k : Nat} (h1 : 2 ^ k ≤ n) (h2 : n < 2 ^ (k + 1)) : n.log2 = k := (Nat.log2_eq_iff (by have := Nat.two_pow_pos k; omega)).mpr ⟨h1, h2⟩
theorem lead_of {num den a b : Nat} (ha : num.log2 = a) (hb : den.log2 = b) (hab : b ≤ a) (h : den * 2 ^ (a - b) ≤ num) : FP.Core.leading num den = (a : Int) - (b : Int) := by
  unfold FP.Core.leading
  rw [ha, hb]
  dsimp only
  rw [show ((a : Int) - (b : Int)).toNat = a - b by omega, show (-((a : Int) - (b : Int))).toNat = 0 by omega, Nat.pow_zero, Nat.mul_one, if_pos h]
theorem quot_fin (f : FP.Core.Fmt) (s : Bool) (c : Nat) (q : Int) (t : Bool) (d : Nat) (r : Int) : FP.Core.quotient f (.fin s c q) (.fin t d r) = if d = 0 then (if c = 0 then .nan else .inf (s != t)) else FP.Core.roundRatio f (s != t) c d (q - r) := rfl
theorem fdiv_of (x y : UInt32) : FP.fdiv x y = UInt32.ofNat (FP.Core.encode FP.Core.b32 (FP.Core.quotient FP.Core.b32 (FP.Core.decode FP.Core.b32 x.toNat) (FP.Core.decode FP.Core.b32 y.toNat))) := rfl
theorem two_nat : FP.fconst2.toNat = 128 * 8388608 + 0 := by decide
theorem one_nat : FP.fconst1.toNat = 127 * 8388608 + 0 := by decide
/-- half of a float -/
theorem half_fE {e t : Nat} (h1 : 2 ≤ e) (h2 : e < 255) (ht : t < 8388608) : FP.fdiv (fE e t) FP.fconst2 = fE (e - 1) t := by
  rw [fdiv_of, dec_fE (fE_nat (by omega) ht) (by omega) h2 ht, dec_fE two_nat (by decide) (by decide) (by decide), quot_fin, if_neg (by decide)]
  have hl : FP.Core.leading (8388608 + t) (8388608 + 0) = ((23 : Nat) : Int) - ((23 : Nat) : Int) := lead_of (log2_of (by omega) (by omega)) (log2_of (by decide) (by decide)) (by decide) (by omega)
  have hr := rr_ex (num := 8388608 + t) (den := 8388608 + 0) (c := 8388608 + t) (e := (e : Int) - 150 - (((128 : Nat) : Int) - 150)) (q := ((e - 1 : Nat) : Int) - 150) (by omega) hl (by omega) (by omega) (by omega) (by
      unfold FP.Core.unitsNum FP.Core.unitsDen
      rw [show ((e : Int) - 150 - (((128 : Nat) : Int) - 150) - (((e - 1 : Nat) : Int) - 150)).toNat = 23 by omega, show ((((e - 1 : Nat) : Int) - 150) - ((e : Int) - 150 - (((128 : Nat) : Int) - 150))).toNat = 0 by omega]) (by
      unfold FP.Core.unitsDen
      exact Nat.mul_pos (by decide) (Nat.two_pow_pos _)) (by omega)
  rw [show (false != false) = false from rfl, hr, enc_fE (e := e - 1) (by omega) rfl rfl]
  rfl
theorem fcmp_of (x y : UInt32) : FP.fcmp x y = FP.Core.order (FP.Core.decode FP.Core.b32 x.toNat) (FP.Core.decode FP.Core.b32 y.toNat) := rfl
theorem ord_fin (c : Nat) (q : Int) (d : Nat) (r : Int) : FP.Core.order (.fin false c q) (.fin false d r) = some (compare (FP.Core.inUnits c q (min q r) : Int) (FP.Core.inUnits d r (min q r) : Int)) := rfl
/-- a float from 1 on against 2 -/
theorem cmp2_lt {t : Nat} (ht : t < 8388608) : FP.fcmp (fE 127 t) FP.fconst2 = some .lt := by
  rw [fcmp_of, dec_fE (fE_nat (by decide) ht) (by decide) (by decide) ht, dec_fE two_nat (by decide) (by decide) (by decide), ord_fin]
  unfold FP.Core.inUnits
  rw [show (min (((127 : Nat) : Int) - 150) (((128 : Nat) : Int) - 150)) = -23 by decide, show (((127 : Nat) : Int) - 150 - -23).toNat = 0 by decide, show (((128 : Nat) : Int) - 150 - -23).toNat = 1 by decide]
  exact congrArg some (Int.compare_eq_lt.mpr (by omega))
theorem cmp2_ge {e t : Nat} (h1 : 128 ≤ e) (h2 : e < 255) (ht : t < 8388608) : FP.fcmp (fE e t) FP.fconst2 ≠ some .lt ∧ FP.fcmp (fE e t) FP.fconst2 ≠ none := by
  rw [fcmp_of, dec_fE (fE_nat (by omega) ht) (by omega) h2 ht, dec_fE two_nat (by decide) (by decide) (by decide), ord_fin]
  refine ⟨fun q => ?_, fun q => by cases q⟩
  have q := Int.compare_eq_lt.mp (Option.some.inj q)
  unfold FP.Core.inUnits at q
  rw [show (min ((e : Int) - 150) (((128 : Nat) : Int) - 150)) = -22 by omega, show ((e : Int) - 150 - -22).toNat = e - 128 by omega, show (((128 : Nat) : Int) - 150 - -22).toNat = 0 by decide] at q
  have hm : 8388608 + t ≤ (8388608 + t) * 2 ^ (e - 128) := Nat.le_mul_of_pos_right _ (Nat.two_pow_pos (e - 128))
  generalize (8388608 + t) * 2 ^ (e - 128) = x at hm q
  omega
theorem sgn_f (c : Nat) : FP.Core.signed false c = (c : Int) := rfl
theorem sgn_t (c : Nat) : FP.Core.signed true c = -(c : Int) := rfl
theorem sum_fin (s : Bool) (c : Nat) (q : Int) (t : Bool) (d : Nat) (r : Int) : FP.Core.exactSum (.fin s c q) (.fin t d r) = .fin (FP.Core.sumSign s t (FP.Core.sumUnits s c q t d r (min q r))) (FP.Core.sumUnits s c q t d r (min q r)).natAbs (min q r) := rfl
theorem prod_fin (s : Bool) (c : Nat) (q : Int) (t : Bool) (d : Nat) (r : Int) : FP.Core.exactProduct (.fin s c q) (.fin t d r) = .fin (s != t) (c * d) (q + r) := rfl
theorem neg_fin (s : Bool) (c : Nat) (q : Int) : FP.Core.negate (.fin s c q) = .fin (!s) c q := rfl
theorem round_fin (f : FP.Core.Fmt) (s : Bool) (c : Nat) (q : Int) : FP.Core.round f (.fin s c q) = FP.Core.roundRatio f s c 1 q := rfl
theorem fsub_of (x y : UInt32) : FP.fsub x y = UInt32.ofNat (FP.Core.encode FP.Core.b32 (FP.Core.round FP.Core.b32 (FP.Core.exactSum (FP.Core.decode FP.Core.b32 x.toNat) (FP.Core.negate (FP.Core.decode FP.Core.b32 y.toNat))))) := rfl
theorem fmul_of (x y : UInt32) : FP.fmul x y = UInt32.ofNat (FP.Core.encode FP.Core.b32 (FP.Core.round FP.Core.b32 (FP.Core.exactProduct (FP.Core.decode FP.Core.b32 x.toNat) (FP.Core.decode FP.Core.b32 y.toNat)))) := rfl
theorem f2i_of (x : UInt32) : FP.f2i x = Int32.ofInt (FP.Core.toInt (-2 ^ 31) (2 ^ 31 - 1) (FP.Core.decode FP.Core.b32 x.toNat)) := rfl
theorem toInt_fin (lo hi : Int) (s : Bool) (c : Nat) (q : Int) : FP.Core.toInt lo hi (.fin s c q) = max lo (min hi (FP.Core.truncate s c q)) := rfl
theorem mil_nat : (0x4b000000 : UInt32).toNat = 150 * 8388608 + 0 := by decide
/-- a float from 1 up to 2, less 1: of its significand, with l its leading digit's place -/
theorem less1_fE {t l : Nat} (h1 : 2 ^ l ≤ t) (h2 : t < 2 ^ (l + 1)) (hl : l ≤ 22) : FP.fsub (fE 127 t) FP.fconst1 = fE (l + 104) (t * 2 ^ (23 - l) - 8388608) ∧ 8388608 ≤ t * 2 ^ (23 - l) ∧ t * 2 ^ (23 - l) < 16777216 := by
  have hp : 2 ^ l * 2 ^ (23 - l) = 8388608 := by rw [← Nat.pow_add, show l + (23 - l) = 23 by omega]
  have hp2 : 2 ^ (l + 1) * 2 ^ (23 - l) = 16777216 := by rw [← Nat.pow_add, show l + 1 + (23 - l) = 24 by omega]
  have b1 : 8388608 ≤ t * 2 ^ (23 - l) := by rw [← hp]; exact Nat.mul_le_mul_right _ h1
  have b2 : t * 2 ^ (23 - l) < 16777216 := by rw [← hp2]; exact Nat.mul_lt_mul_of_pos_right h2 (Nat.two_pow_pos _)
  have ht : t < 8388608 := by
    have : 2 ^ (l + 1) ≤ 2 ^ 23 := Nat.pow_le_pow_right (by decide) (by omega)
    omega
  have h0 : t ≠ 0 := by have := Nat.two_pow_pos l; omega
  refine ⟨?_, b1, b2⟩
  rw [fsub_of, dec_fE (fE_nat (by decide) ht) (by decide) (by decide) ht, dec_fE one_nat (by decide) (by decide) (by decide), neg_fin, sum_fin]
  have hu : FP.Core.sumUnits false (8388608 + t) (((127 : Nat) : Int) - 150) (!false) (8388608 + 0) (((127 : Nat) : Int) - 150) (min (((127 : Nat) : Int) - 150) (((127 : Nat) : Int) - 150)) = (t : Int) := by
    unfold FP.Core.sumUnits FP.Core.inUnits
    rw [Bool.not_false, sgn_f, sgn_t, show (((127 : Nat) : Int) - 150 - min (((127 : Nat) : Int) - 150) (((127 : Nat) : Int) - 150)).toNat = 0 by decide]
    omega
  rw [hu]
  have hs : FP.Core.sumSign false (!false) (t : Int) = false := by
    unfold FP.Core.sumSign
    rw [if_neg (by omega)]
    exact decide_eq_false (by omega)
  rw [hs, round_fin, Int.natAbs_natCast, show min (((127 : Nat) : Int) - 150) (((127 : Nat) : Int) - 150) = -23 by decide]
  have hd : FP.Core.leading t 1 = (l : Int) - ((0 : Nat) : Int) := lead_of (log2_of h1 h2) (by decide) (by omega) (by rw [Nat.sub_zero, Nat.one_mul]; exact h1)
  have hr := rr_ex (num := t) (den := 1) (c := t * 2 ^ (23 - l)) (e := -23) (q := (l : Int) - 46) h0 hd (by omega) (by omega) (by omega) (by
      unfold FP.Core.unitsNum FP.Core.unitsDen
      rw [show (-23 - ((l : Int) - 46)).toNat = 23 - l by omega, show ((l : Int) - 46 - -23).toNat = 0 by omega, Nat.pow_zero, Nat.mul_one]) (by
      unfold FP.Core.unitsDen
      exact Nat.mul_pos (by decide) (Nat.two_pow_pos _)) b2
  rw [hr, enc_fE (e := l + 104) (t := t * 2 ^ (23 - l) - 8388608) (by omega) (by omega) (by omega)]
  rfl
/-- the significand as a whole number -/
theorem whole_fE {l t s : Nat} (hl : l ≤ 22) (ht : t < 8388608) (hs : 8388608 + t = s * 2 ^ (23 - l)) : FP.fmul (fE (l + 104) t) 0x4b000000 = fE (l + 127) t ∧ FP.f2i (fE (l + 127) t) = Int32.ofInt s := by
  constructor
  · rw [fmul_of, dec_fE (fE_nat (by omega) ht) (by omega) (by omega) ht, dec_fE mil_nat (by decide) (by decide) (by decide), prod_fin, show (false != false) = false from rfl, round_fin]
    have hd : FP.Core.leading ((8388608 + t) * (8388608 + 0)) 1 = ((46 : Nat) : Int) - ((0 : Nat) : Int) := lead_of (log2_of (by omega) (by omega)) (by decide) (by decide) (by omega)
    have hr := rr_ex (num := (8388608 + t) * (8388608 + 0)) (den := 1) (c := 8388608 + t) (e := ((l + 104 : Nat) : Int) - 150 + (((150 : Nat) : Int) - 150)) (q := (l : Int) - 23) (by omega) hd (by omega) (by omega) (by omega) (by
        unfold FP.Core.unitsNum FP.Core.unitsDen
        rw [show (((l + 104 : Nat) : Int) - 150 + (((150 : Nat) : Int) - 150) - ((l : Int) - 23)).toNat = 0 by omega, show ((l : Int) - 23 - (((l + 104 : Nat) : Int) - 150 + (((150 : Nat) : Int) - 150))).toNat = 23 by omega]
        omega) (by
        unfold FP.Core.unitsDen
        exact Nat.mul_pos (by decide) (Nat.two_pow_pos _)) (by omega)
    rw [hr, enc_fE (e := l + 127) (by omega) rfl (by omega)]
    rfl
  · rw [f2i_of, dec_fE (fE_nat (by omega) ht) (by omega) (by omega) ht, toInt_fin, hs]
    unfold FP.Core.truncate
    rw [sgn_f, show (((l + 127 : Nat) : Int) - 150).toNat = 0 by omega, show (-(((l + 127 : Nat) : Int) - 150)).toNat = 23 - l by omega, Nat.pow_zero, Nat.mul_one, Nat.mul_div_cancel _ (Nat.two_pow_pos _)]
    have : s ≤ s * 2 ^ (23 - l) := Nat.le_mul_of_pos_right _ (Nat.two_pow_pos _)
    rw [show max (-2 ^ 31 : Int) (min (2 ^ 31 - 1) (s : Int)) = (s : Int) by omega]
theorem rr_gen {num den U D : Nat} {e k q : Int} (h0 : num ≠ 0) (hk : FP.Core.leading num den = k) (eq : q = k + e - 23) (hq : -149 ≤ q) (hq2 : q ≤ 103) (hU : FP.Core.unitsNum num e q = U) (hD : FP.Core.unitsDen den e q = D) (hd : 0 < D) (u1 : 8388608 * D ≤ U) (u2 : U < 16777216 * D) : ∃ (c : Nat) (q2 : Int), FP.Core.roundRatio FP.Core.b32 false num den e = .fin false c q2 ∧ (8388608 ≤ c ∧ c < 16777216) ∧ (q2 = q ∨ q2 = q + 1) := by
  have hqq : FP.Core.quantum FP.Core.b32 num den e = q := by
    unfold FP.Core.quantum
    rw [hk, f32_qmin, f32_p]
    omega
  have n1 : 8388608 ≤ U / D := (Nat.le_div_iff_mul_le hd).mpr u1
  have n2 : U / D < 16777216 := (Nat.div_lt_iff_lt_mul hd).mpr u2
  have n3 : U / D ≤ FP.Core.nearest U D ∧ FP.Core.nearest U D ≤ U / D + 1 := by
    unfold FP.Core.nearest
    split
    · omega
    · split <;> omega
  unfold FP.Core.roundRatio
  rw [if_neg h0, hqq]
  unfold FP.Core.roundAt
  rw [hU, hD]
  generalize FP.Core.nearest U D = c at n3
  unfold FP.Core.settle
  rw [f32_p]
  by_cases hc : c < 2 ^ 24
  · rw [if_pos hc]
    unfold FP.Core.bound
    rw [f32_qmax, if_pos (by omega)]
    exact ⟨c, q, rfl, ⟨by omega, by omega⟩, Or.inl rfl⟩
  · rw [if_neg hc, f32_tails]
    unfold FP.Core.bound
    rw [f32_qmax, if_pos (by omega)]
    exact ⟨8388608, q + 1, rfl, ⟨by omega, by omega⟩, Or.inr rfl⟩
theorem i2f_of (a : Int32) : FP.i2f a = UInt32.ofNat (FP.Core.encode FP.Core.b32 (FP.Core.round FP.Core.b32 (.fin (decide (a.toInt < 0)) a.toInt.natAbs 0))) := rfl
theorem sig_bd {s l : Nat} (h1 : 2 ^ l ≤ s) (h2 : s < 2 ^ (l + 1)) (hl : l ≤ 22) : 8388608 ≤ s * 2 ^ (23 - l) ∧ s * 2 ^ (23 - l) < 16777216 := by
  have hp : 2 ^ l * 2 ^ (23 - l) = 8388608 := by rw [← Nat.pow_add, show l + (23 - l) = 23 by omega]
  have hp2 : 2 ^ (l + 1) * 2 ^ (23 - l) = 16777216 := by rw [← Nat.pow_add, show l + 1 + (23 - l) = 24 by omega]
  exact ⟨by rw [← hp]; exact Nat.mul_le_mul_right _ h1, by rw [← hp2]; exact Nat.mul_lt_mul_of_pos_right h2 (Nat.two_pow_pos _)⟩
/-- a whole number as a float -/
theorem i2f_fE {s l : Nat} (h1 : 2 ^ l ≤ s) (h2 : s < 2 ^ (l + 1)) (hl : l ≤ 22) : FP.i2f (hI (s : Int)) = fE (l + 127) (s * 2 ^ (23 - l) - 8388608) := by
  have sb := sig_bd h1 h2 hl
  have hs : s < 8388608 := by
    have : 2 ^ (l + 1) ≤ 2 ^ 23 := Nat.pow_le_pow_right (by decide) (by omega)
    omega
  have h0 : s ≠ 0 := by have := Nat.two_pow_pos l; omega
  have ht : (hI (s : Int)).toInt = (s : Int) := hI_toInt ⟨by omega, by omega⟩
  rw [i2f_of, ht, show decide ((s : Int) < 0) = false from decide_eq_false (by omega), Int.natAbs_natCast, round_fin]
  have hd : FP.Core.leading s 1 = (l : Int) - ((0 : Nat) : Int) := lead_of (log2_of h1 h2) (by decide) (by omega) (by rw [Nat.sub_zero, Nat.one_mul]; exact h1)
  have hr := rr_ex (num := s) (den := 1) (c := s * 2 ^ (23 - l)) (e := 0) (q := (l : Int) - 23) h0 hd (by omega) (by omega) (by omega) (by
      unfold FP.Core.unitsNum FP.Core.unitsDen
      rw [show (0 - ((l : Int) - 23)).toNat = 23 - l by omega, show ((l : Int) - 23 - 0).toNat = 0 by omega, Nat.pow_zero, Nat.mul_one]) (by
      unfold FP.Core.unitsDen
      exact Nat.mul_pos (by decide) (Nat.two_pow_pos _)) sb.2
  rw [hr, enc_fE (e := l + 127) (t := s * 2 ^ (23 - l) - 8388608) (by omega) (by omega) (by omega)]
  rfl
/-- the mean of whole numbers is a float from 1 on -/
theorem mean_fE {s n : Nat} (n0 : 1 ≤ n) (ns : n ≤ s) (s1 : s < 4194304) : ∃ e t : Nat, (127 ≤ e ∧ e ≤ 160) ∧ t < 8388608 ∧ FP.fdiv (FP.i2f (hI (s : Int))) (FP.i2f (hI (n : Int))) = fE e t := by
  have key : ∀ x : Nat, 1 ≤ x → x < 4194304 → ∃ l : Nat, l ≤ 21 ∧ 2 ^ l ≤ x ∧ x < 2 ^ (l + 1) := by
    intro x x0 x1
    have a := (Nat.log2_eq_iff (n := x) (k := x.log2) (by omega)).mp rfl
    refine ⟨x.log2, ?_, a.1, a.2⟩
    have : x.log2 < 22 := (Nat.log2_lt (by omega)).mpr x1
    omega
  obtain ⟨a, a1, a2, a3⟩ := key s (by omega) s1
  obtain ⟨b, b1, b2, b3⟩ := key n n0 (by omega)
  have ca := sig_bd a2 a3 (by omega)
  have cb := sig_bd b2 b3 (by omega)
  have hab : b ≤ a := by
    rcases Nat.lt_or_ge a b with h | h
    · have : 2 ^ (a + 1) ≤ 2 ^ b := Nat.pow_le_pow_right (by decide) (by omega)
      omega
    · exact h
  have hcc : a = b → n * 2 ^ (23 - b) ≤ s * 2 ^ (23 - a) := fun q => by rw [q]; exact Nat.mul_le_mul_right _ ns
  rw [i2f_fE a2 a3 (by omega), i2f_fE b2 b3 (by omega), fdiv_of]
  rw [dec_fE (fE_nat (by omega) (by omega)) (by omega) (by omega) (by omega), dec_fE (fE_nat (by omega) (by omega)) (by omega) (by omega) (by omega), quot_fin]
  rw [show 8388608 + (s * 2 ^ (23 - a) - 8388608) = s * 2 ^ (23 - a) by omega, show 8388608 + (n * 2 ^ (23 - b) - 8388608) = n * 2 ^ (23 - b) by omega, if_neg (by omega), show (false != false) = false from rfl]
  generalize s * 2 ^ (23 - a) = x at ca hcc ⊢
  generalize n * 2 ^ (23 - b) = y at cb hcc ⊢
  have lx : x.log2 = 23 := log2_of (by omega) (by omega)
  have ly : y.log2 = 23 := log2_of (by omega) (by omega)
  have fin : ∀ (c : Nat) (q2 : Int), 8388608 ≤ c ∧ c < 16777216 → -23 ≤ q2 → q2 ≤ 10 → ∃ e t : Nat, (127 ≤ e ∧ e ≤ 160) ∧ t < 8388608 ∧ UInt32.ofNat (FP.Core.encode FP.Core.b32 (.fin false c q2)) = fE e t := by
    intro c q2 hc h1 h2
    refine ⟨(q2 + 150).toNat, c - 8388608, ⟨by omega, by omega⟩, by omega, ?_⟩
    rw [enc_fE (e := (q2 + 150).toNat) (t := c - 8388608) (by omega) (by omega) (by omega)]
    rfl
  by_cases h : y ≤ x
  · have hl : FP.Core.leading x y = ((23 : Nat) : Int) - ((23 : Nat) : Int) := lead_of lx ly (by decide) (by rw [Nat.sub_self, Nat.pow_zero, Nat.mul_one]; exact h)
    obtain ⟨c, q2, r1, r2, r3⟩ := rr_gen (num := x) (den := y) (U := x * 8388608) (D := y) (e := ((a + 127 : Nat) : Int) - 150 - (((b + 127 : Nat) : Int) - 150)) (q := (a : Int) - b - 23) (by omega) hl (by omega) (by omega) (by omega) (by
        unfold FP.Core.unitsNum
        rw [show (((a + 127 : Nat) : Int) - 150 - (((b + 127 : Nat) : Int) - 150) - ((a : Int) - b - 23)).toNat = 23 by omega]) (by
        unfold FP.Core.unitsDen
        rw [show ((a : Int) - b - 23 - (((a + 127 : Nat) : Int) - 150 - (((b + 127 : Nat) : Int) - 150))).toNat = 0 by omega, Nat.pow_zero, Nat.mul_one]) (by omega) (by omega) (by omega)
    rw [r1]
    exact fin c q2 r2 (by omega) (by omega)
  · have hne : a ≠ b := fun q => h (hcc q)
    have hl : FP.Core.leading x y = -1 := by
      unfold FP.Core.leading
      rw [lx, ly]
      dsimp only
      rw [show (((23 : Nat) : Int) - ((23 : Nat) : Int)).toNat = 0 by decide, show (-(((23 : Nat) : Int) - ((23 : Nat) : Int))).toNat = 0 by decide, Nat.pow_zero, Nat.mul_one, Nat.mul_one, if_neg h]
      decide
    obtain ⟨c, q2, r1, r2, r3⟩ := rr_gen (num := x) (den := y) (U := x * 16777216) (D := y) (e := ((a + 127 : Nat) : Int) - 150 - (((b + 127 : Nat) : Int) - 150)) (q := (a : Int) - b - 24) (by omega) hl (by omega) (by omega) (by omega) (by
        unfold FP.Core.unitsNum
        rw [show (((a + 127 : Nat) : Int) - 150 - (((b + 127 : Nat) : Int) - 150) - ((a : Int) - b - 24)).toNat = 24 by omega]) (by
        unfold FP.Core.unitsDen
        rw [show ((a : Int) - b - 24 - (((a + 127 : Nat) : Int) - 150 - (((b + 127 : Nat) : Int) - 150))).toNat = 0 by omega, Nat.pow_zero, Nat.mul_one]) (by omega) (by omega) (by omega)
    rw [r1]
    exact fin c q2 r2 (by omega) (by omega)
/-- such a float is a number: nothing is drawn -/
theorem n32_fE {e t : Nat} (he : e < 255) (ht : t < 8388608) : vf_n32 (fE e t) := by
  unfold vf_n32
  rw [UInt32.le_iff_toNat_le, UInt32.toNat_and, fE_nat (by omega) ht, show (0x7fffffff : UInt32).toNat = 2 ^ 31 - 1 by decide, Nat.and_two_pow_sub_one_eq_mod, show (0x7f800000 : UInt32).toNat = 2139095040 by decide]
  omega

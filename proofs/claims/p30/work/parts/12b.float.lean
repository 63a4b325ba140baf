/-! ===== floats: the bits of positive normal numbers ===== -/
def fB (z : Int) : UInt32 := (Int32.ofInt z).toUInt32
def fI (x : UInt32) : Int := x.toInt32.toInt
theorem fB_fI (x : UInt32) : fB (fI x) = x := by
  unfold fB fI
  rw [Int32.ofInt_toInt]
  rfl
theorem vi_fI (x : UInt32) : vi (fI x) = .int x.toInt32 := by
  unfold vi fI
  rw [Int32.ofInt_toInt]
theorem fI_rg (x : UInt32) : -2147483648 ≤ fI x ∧ fI x < 2147483648 := by
  have h1 := x.toInt32.toInt_lt
  have h2 := x.toInt32.le_toInt
  unfold fI
  omega
theorem fI_fB {z : Int} (h : -2147483648 ≤ z ∧ z < 2147483648) : fI (fB z) = z := by
  unfold fI fB
  show (Int32.ofInt z).toInt = z
  exact Int32.toInt_ofInt_of_le (by omega) (by omega)
theorem fI_nat {x : UInt32} (h : x.toNat < 2147483648) : fI x = (x.toNat : Int) := by
  unfold fI
  show x.toBitVec.toInt = _
  rw [BitVec.toInt_eq_toNat_of_lt (by show 2 * x.toNat < 2 ^ 32; omega)]
  rfl
theorem fB_nat {z : Int} (h : 0 ≤ z ∧ z < 2147483648) : ((fB z).toNat : Int) = z := by
  have h1 : fI (fB z) = z := fI_fB (by omega)
  by_cases h2 : (fB z).toNat < 2147483648
  · rw [← fI_nat h2]; exact h1
  · exfalso
    have h3 : fI (fB z) = ((fB z).toNat : Int) - 4294967296 := by
      unfold fI
      show (fB z).toBitVec.toInt = _
      rw [BitVec.toInt_eq_toNat_cond]
      rw [if_neg (by show ¬ 2 * (fB z).toNat < 2 ^ 32; omega)]
      rfl
    have h4 := (fB z).toNat_lt
    omega
theorem f_val {x : UInt32} (h : 8388608 ≤ x.toNat ∧ x.toNat < 2139095040) : FP.Core.val32 x = .fin false (8388608 + x.toNat % 8388608) ((x.toNat / 8388608 : Nat) - 150 : Int) := by
  have hT : FP.Core.b32.tails = 8388608 := by decide
  have hE : FP.Core.b32.exps = 256 := by decide
  have hq : FP.Core.b32.qmin = -149 := by decide
  unfold FP.Core.val32 FP.Core.decode FP.Core.fieldE FP.Core.fieldT FP.Core.fieldS
  rw [hT, hE, hq]
  have h1 : x.toNat / 8388608 < 255 := by omega
  have h2 : 1 ≤ x.toNat / 8388608 := by omega
  rw [Nat.mod_eq_of_lt (show x.toNat / 8388608 < 256 by omega), if_neg (by omega), if_neg (by omega), Nat.div_eq_of_lt (show x.toNat / 8388608 < 256 by omega)]
  congr 1
  omega
theorem f_units {z : Nat} (h : 8388608 ≤ z) : FP.Core.unitsOf FP.Core.b32 z = (8388608 + z % 8388608) * 2 ^ (z / 8388608 - 1) := by
  have hT : FP.Core.b32.tails = 8388608 := by decide
  unfold FP.Core.unitsOf
  rw [hT, if_neg (by omega)]
/-- a small whole number as a float -/
theorem f_i2f {n : Int} (hn : 1 ≤ n ∧ n ≤ 128) : ∃ (d j : Nat), FP.Core.val32 (FP.i2f (Int32.ofInt n)) = .fin false d (-(j : Int)) ∧ j ≤ 23 ∧ (d : Int) = n * ((2 ^ j : Nat) : Int) := by
  have e : (Int32.ofInt n).toInt = n := Int32.toInt_ofInt_of_le (by omega) (by omega)
  have hw := FP.Core.i2f_int (a := Int32.ofInt n) (by rw [e]; omega)
  have hf := FP.Core.val32_fits (FP.i2f (Int32.ofInt n))
  rw [e] at hw
  unfold FP.Core.FInt at hw
  have hp : FP.Core.b32.p = 24 := rfl
  have hq : FP.Core.b32.qmin = -149 := by decide
  have hT : FP.Core.b32.tails = 8388608 := by decide
  cases hv : FP.Core.val32 (FP.i2f (Int32.ofInt n)) with
  | nan => rw [show FP.Core.i2f (Int32.ofInt n) = FP.i2f (Int32.ofInt n) from rfl, hv] at hw; exact hw.elim
  | inf s => rw [show FP.Core.i2f (Int32.ofInt n) = FP.i2f (Int32.ofInt n) from rfl, hv] at hw; exact hw.elim
  | fin s d r =>
    rw [show FP.Core.i2f (Int32.ofInt n) = FP.i2f (Int32.ofInt n) from rfl, hv] at hw
    rw [hv] at hf
    obtain ⟨f1, f2, f3, f4⟩ := hf
    rw [hp] at f1
    rw [hq] at f2 f4
    rw [hT] at f4
    have hw' : FP.Core.signed s (d * 2 ^ r.toNat) = n * ((2 ^ (-r).toNat : Nat) : Int) := hw
    have hpos : (0 : Int) < ((2 ^ (-r).toNat : Nat) : Int) := by exact_mod_cast Nat.two_pow_pos _
    have hnp : n * ((2 ^ (-r).toNat : Nat) : Int) ≥ ((2 ^ (-r).toNat : Nat) : Int) := by
      have := Int.mul_le_mul_of_nonneg_right hn.1 (Int.le_of_lt hpos)
      omega
    cases s with
    | true =>
      exfalso
      unfold FP.Core.signed at hw'
      simp only [if_true] at hw'
      omega
    | false =>
      unfold FP.Core.signed at hw'
      simp only [Bool.false_eq_true, if_false] at hw'
      by_cases hr : 0 ≤ r
      · exfalso
        have h1 : (-r).toNat = 0 := by omega
        rw [h1] at hw'
        have h2 : 1 ≤ 2 ^ r.toNat := Nat.one_le_two_pow
        have h3 : d ≤ d * 2 ^ r.toNat := Nat.le_mul_of_pos_right _ h2
        rcases f4 with f4 | f4
        · omega
        · omega
      · have h1 : r.toNat = 0 := by omega
        rw [h1] at hw'
        have h2 : d * 2 ^ 0 = d := by simp
        rw [h2] at hw'
        refine ⟨d, (-r).toNat, ?_, ?_, hw'⟩
        · congr 1; omega
        · refine Nat.le_of_not_lt fun h3 => ?_
          have h4 : 2 ^ 24 ≤ 2 ^ (-r).toNat := Nat.pow_le_pow_right (by decide) (by omega)
          have h5 : ((2 ^ 24 : Nat) : Int) ≤ ((2 ^ (-r).toNat : Nat) : Int) := by exact_mod_cast h4
          omega
theorem f_pos {x : UInt32} {A B : Nat} {e : Int} (hv : FP.Core.val32 x = FP.Core.roundRatio FP.Core.b32 false A B e) (hm : x.toNat % 2 ^ 31 ≤ 2139095040) : x.toNat < 2147483648 := by
  have h1 := FP.Core.sgn_decode (f := FP.Core.b32) (n := x.toNat) (by rw [FP.Core.mag_toNat32, FP.Core.infBits_b32]; exact hm) (by have := x.toNat_lt; rw [FP.Core.half_b32]; omega)
  have h2 : FP.Core.decode FP.Core.b32 x.toNat = FP.Core.roundRatio FP.Core.b32 false A B e := hv
  rw [h2, FP.Core.sgn_roundRatio, FP.Core.half_b32] at h1
  have h3 := of_decide_eq_false h1.symm
  omega
theorem f_mul {x : UInt32} {n : Int} (hx : 251658240 ≤ x.toNat ∧ x.toNat < 2013265920) (hn : 1 ≤ n ∧ n ≤ 128) : x.toNat ≤ (FP.fmul x (FP.i2f (Int32.ofInt n))).toNat ∧ (FP.fmul x (FP.i2f (Int32.ofInt n))).toNat ≤ x.toNat + 58720256 := by
  obtain ⟨d, j, hy, hj, hd⟩ := f_i2f hn
  have hxv := f_val (x := x) (by omega)
  have hv : FP.Core.val32 (FP.fmul x (FP.i2f (Int32.ofInt n))) = FP.Core.roundRatio FP.Core.b32 false ((8388608 + x.toNat % 8388608) * d) 1 (((x.toNat / 8388608 : Nat) - 150 : Int) + -(j : Int)) := by
    rw [FP.Core.val32_fmul, hxv, hy]
    rfl
  have hq : FP.Core.b32.qmin = -149 := by decide
  have hdn : d = n.toNat * 2 ^ j := by
    have h0 : ((n.toNat * 2 ^ j : Nat) : Int) = n * ((2 ^ j : Nat) : Int) := by
      rw [Int.natCast_mul, show ((n.toNat : Nat) : Int) = n by omega]
    omega
  generalize hE : x.toNat / 8388608 = E at hv
  generalize ht : x.toNat % 8388608 = t at hv
  have hE1 : 30 ≤ E ∧ E < 240 := by omega
  have hin : FP.Core.inUnits ((8388608 + t) * d) (((E : Nat) - 150 : Int) + -(j : Int)) (-149) = (8388608 + t) * 2 ^ (E - 1) * n.toNat := by
    unfold FP.Core.inUnits
    rw [show (((E : Nat) - 150 : Int) + -(j : Int) - -149).toNat = E - 1 - j by omega, hdn]
    have h1 : 2 ^ (E - 1) = 2 ^ j * 2 ^ (E - 1 - j) := by rw [← Nat.pow_add]; congr 1; omega
    rw [h1]
    simp only [Nat.mul_assoc, Nat.mul_left_comm, Nat.mul_comm]
  have hm1 : FP.Core.mag FP.Core.b32 (FP.fmul x (FP.i2f (Int32.ofInt n))).toNat ≤ x.toNat + 58720256 := by
    refine FP.Core.mag_le FP.Core.good_b32 (e0 := -149) hv (by decide) (by rw [hq]; omega) (by omega) ?_
    rw [hin, f_units (by omega), hq]
    rw [show (x.toNat + 58720256) % 8388608 = t by omega, show (x.toNat + 58720256) / 8388608 - 1 = (E - 1) + 7 by omega, Nat.pow_add]
    have h2 : (8388608 + t) * 2 ^ (E - 1) * n.toNat ≤ (8388608 + t) * 2 ^ (E - 1) * 128 := Nat.mul_le_mul_left _ (by omega)
    have h3 : (8388608 + t) * (2 ^ (E - 1) * 2 ^ 7) * 2 ^ ((-149 : Int) - -149).toNat * 1 = (8388608 + t) * 2 ^ (E - 1) * 128 := by
      rw [show ((-149 : Int) - -149).toNat = 0 by decide, ← Nat.mul_assoc]
      omega
    rw [h3]
    exact h2
  have hm2 : x.toNat ≤ FP.Core.mag FP.Core.b32 (FP.fmul x (FP.i2f (Int32.ofInt n))).toNat := by
    refine FP.Core.mag_ge FP.Core.good_b32 (e0 := -149) hv (by decide) (by rw [hq]; omega) (by omega) (by rw [FP.Core.infBits_b32]; omega) ?_
    rw [hin, f_units (by omega), hq, ht, hE]
    have h2 : (8388608 + t) * 2 ^ (E - 1) * 1 ≤ (8388608 + t) * 2 ^ (E - 1) * n.toNat := Nat.mul_le_mul_left _ (by omega)
    rw [show ((-149 : Int) - -149).toNat = 0 by decide]
    omega
  rw [FP.Core.mag_toNat32] at hm1 hm2
  have h5 := f_pos hv (by omega)
  omega
theorem f_div100 {x : UInt32} (hx : 251658240 ≤ x.toNat ∧ x.toNat < 2113929216) : x.toNat ≤ (FP.fdiv x 1120403456).toNat + 58720256 ∧ (FP.fdiv x 1120403456).toNat + 50331648 ≤ x.toNat := by
  have hxv := f_val (x := x) (by omega)
  have h100 : FP.Core.val32 1120403456 = .fin false 13107200 (-17) := by decide +kernel
  have hv : FP.Core.val32 (FP.fdiv x 1120403456) = FP.Core.roundRatio FP.Core.b32 false (8388608 + x.toNat % 8388608) 13107200 (((x.toNat / 8388608 : Nat) - 150 : Int) - (-17)) := by
    rw [FP.Core.val32_fdiv, hxv, h100]
    rfl
  have hq : FP.Core.b32.qmin = -149 := by decide
  generalize hE : x.toNat / 8388608 = E at hv
  generalize ht : x.toNat % 8388608 = t at hv
  have hE1 : 30 ≤ E ∧ E < 252 := by omega
  have hin : FP.Core.inUnits (8388608 + t) (((E : Nat) - 150 : Int) - (-17)) (-149) = (8388608 + t) * 2 ^ (E + 16) := by
    unfold FP.Core.inUnits
    rw [show (((E : Nat) - 150 : Int) - (-17) - -149).toNat = E + 16 by omega]
  have hm1 : FP.Core.mag FP.Core.b32 (FP.fdiv x 1120403456).toNat ≤ x.toNat - 50331648 := by
    refine FP.Core.mag_le FP.Core.good_b32 (e0 := -149) hv (by decide) (by rw [hq]; omega) (by omega) ?_
    rw [hin, f_units (by omega), hq]
    rw [show (x.toNat - 50331648) % 8388608 = t by omega, show (x.toNat - 50331648) / 8388608 - 1 = E - 7 by omega, show E + 16 = (E - 7) + 23 by omega, Nat.pow_add, show ((-149 : Int) - -149).toNat = 0 by decide, ← Nat.mul_assoc]
    omega
  have hm2 : x.toNat - 58720256 ≤ FP.Core.mag FP.Core.b32 (FP.fdiv x 1120403456).toNat := by
    refine FP.Core.mag_ge FP.Core.good_b32 (e0 := -149) hv (by decide) (by rw [hq]; omega) (by omega) (by rw [FP.Core.infBits_b32]; omega) ?_
    rw [hin, f_units (by omega), hq]
    rw [show (x.toNat - 58720256) % 8388608 = t by omega, show (x.toNat - 58720256) / 8388608 - 1 = E - 8 by omega, show E + 16 = (E - 8) + 24 by omega, Nat.pow_add, show ((-149 : Int) - -149).toNat = 0 by decide, ← Nat.mul_assoc]
    omega
  rw [FP.Core.mag_toNat32] at hm1 hm2
  have h5 := f_pos hv (by omega)
  omega
theorem f_n32 {x : UInt32} (h : x.toNat ≤ 2139095040) : vf_n32 x := by
  unfold vf_n32
  rw [UInt32.le_iff_toNat_le, FP.Core.mask_toNat32, Nat.mod_eq_of_lt (by omega)]
  exact h
/-- an amount behind a phase of the yield y -/
def fA (z y : Int) : Int := fI (FP.fdiv (FP.fmul (fB z) (FP.i2f (Int32.ofInt y))) 1120403456)
theorem fA_rg {k z y : Int} (hk : 0 ≤ k ∧ k ≤ 7) (hz : okF k z) (hy : 1 ≤ y ∧ y ≤ 100) : okF (k + 1) (fA z y) ∧ vf_n32 (FP.fmul (fB z) (FP.i2f (Int32.ofInt y))) ∧ vf_n32 (FP.fdiv (FP.fmul (fB z) (FP.i2f (Int32.ofInt y))) 1120403456) := by
  unfold okF at hz
  have h1 := fB_nat (z := z) (by omega)
  obtain ⟨h2, h3⟩ := f_mul (x := fB z) (n := y) (by omega) (by omega)
  obtain ⟨h4, h5⟩ := f_div100 (x := FP.fmul (fB z) (FP.i2f (Int32.ofInt y))) (by omega)
  refine ⟨?_, f_n32 (by omega), f_n32 (by omega)⟩
  unfold okF fA
  rw [fI_nat (by omega)]
  omega

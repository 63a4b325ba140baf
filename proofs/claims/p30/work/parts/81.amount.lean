/-! ===== amounts: never above the size ===== -/
/-- the bits of a size as a float -/
def szF (n : Int) : Int := fI (FP.i2f (Int32.ofInt n))
theorem f_exact {n : Int} (hn : 1 ≤ n ∧ n ≤ 1000000) : (FP.i2f (Int32.ofInt n)).toNat < 2139095040 ∧ FP.Core.unitsOf FP.Core.b32 (FP.i2f (Int32.ofInt n)).toNat = n.toNat * 2 ^ 149 := by
  have e : (Int32.ofInt n).toInt = n := Int32.toInt_ofInt_of_le (by omega) (by omega)
  have hv : FP.Core.val32 (FP.i2f (Int32.ofInt n)) = FP.Core.roundRatio FP.Core.b32 false n.toNat 1 0 := by
    rw [show FP.i2f (Int32.ofInt n) = FP.Core.i2f (Int32.ofInt n) from rfl, FP.Core.val32_i2f, e]
    unfold FP.Core.ofInt FP.Core.round
    rw [decide_eq_false (by omega), show n.natAbs = n.toNat by omega]
  have hq : FP.Core.b32.qmin = -149 := by decide
  have hin : FP.Core.inUnits n.toNat 0 (-149) = n.toNat * 2 ^ 149 := rfl
  have h1 : FP.Core.mag FP.Core.b32 (FP.i2f (Int32.ofInt n)).toNat ≤ 1233125376 := by
    refine FP.Core.mag_le FP.Core.good_b32 (e0 := -149) hv (by decide) (by rw [hq]; omega) (by omega) ?_
    rw [hin, f_units (by omega), hq, show ((-149 : Int) - -149).toNat = 0 by decide]
    have : n.toNat * 2 ^ 149 ≤ 1000000 * 2 ^ 149 := Nat.mul_le_mul_right _ (by omega)
    refine Nat.le_trans this ?_
    decide
  have h1' := h1
  rw [FP.Core.mag_toNat32] at h1
  have h5 := f_pos hv (by omega)
  refine ⟨by omega, ?_⟩
  have hw := FP.Core.i2f_int (a := Int32.ofInt n) (by rw [e]; omega)
  have hf := FP.Core.val32_fits (FP.i2f (Int32.ofInt n))
  rw [e] at hw
  unfold FP.Core.FInt at hw
  cases hc : FP.Core.val32 (FP.i2f (Int32.ofInt n)) with
  | nan => rw [show FP.Core.i2f (Int32.ofInt n) = FP.i2f (Int32.ofInt n) from rfl, hc] at hw; exact hw.elim
  | inf s => rw [show FP.Core.i2f (Int32.ofInt n) = FP.i2f (Int32.ofInt n) from rfl, hc] at hw; exact hw.elim
  | fin s d r =>
    rw [show FP.Core.i2f (Int32.ofInt n) = FP.i2f (Int32.ofInt n) from rfl, hc] at hw
    have hz := FP.Core.zmag_toNat32 (a := FP.i2f (Int32.ofInt n)) (by rw [hc]; exact fun h => by cases h)
    rw [hc, Nat.mod_eq_of_lt (by omega : (FP.i2f (Int32.ofInt n)).toNat < 2 ^ 31)] at hz
    rw [← hz]
    rw [hc] at hf
    obtain ⟨f1, f2, f3, f4⟩ := hf
    rw [hq] at f2
    have hw' : FP.Core.signed s (d * 2 ^ r.toNat) = n * ((2 ^ (-r).toNat : Nat) : Int) := hw
    have hpos : (0 : Int) < ((2 ^ (-r).toNat : Nat) : Int) := by exact_mod_cast Nat.two_pow_pos _
    have hnp : n * ((2 ^ (-r).toNat : Nat) : Int) ≥ ((2 ^ (-r).toNat : Nat) : Int) := by
      have := Int.mul_le_mul_of_nonneg_right hn.1 (Int.le_of_lt hpos)
      omega
    cases s with
    | true =>
      exfalso
      unfold FP.Core.signed at hw'
      simp only [if_true] at hw'
      omega
    | false =>
      unfold FP.Core.signed at hw'
      simp only [Bool.false_eq_true, if_false] at hw'
      have hw2 : d * 2 ^ r.toNat = n.toNat * 2 ^ (-r).toNat := by
        have h0 : ((n.toNat * 2 ^ (-r).toNat : Nat) : Int) = n * ((2 ^ (-r).toNat : Nat) : Int) := by
          rw [Int.natCast_mul, show ((n.toNat : Nat) : Int) = n by omega]
        omega
      show FP.Core.inUnits d r FP.Core.b32.qmin = _
      unfold FP.Core.inUnits
      rw [hq]
      by_cases hr : 0 ≤ r
      · rw [show (-r).toNat = 0 by omega] at hw2
        rw [show (r - -149).toNat = r.toNat + 149 by omega, Nat.pow_add, ← Nat.mul_assoc, hw2]
        simp
      · rw [show r.toNat = 0 by omega] at hw2
        have e2 : (2 : Nat) ^ 149 = 2 ^ (-r).toNat * 2 ^ (r - -149).toNat := by
          rw [← Nat.pow_add]
          congr 1
          omega
        rw [e2, ← Nat.mul_assoc, ← hw2]
        simp
theorem szF_nat {n : Int} (hn : 1 ≤ n ∧ n ≤ 1000000) : szF n = ((FP.i2f (Int32.ofInt n)).toNat : Int) := by
  have := f_exact hn
  unfold szF
  exact fI_nat (by omega)
theorem f_mul_le {x : UInt32} {n : Int} {b : Nat} (hx : 251658240 ≤ x.toNat ∧ x.toNat < 2013265920) (hn : 1 ≤ n ∧ n ≤ 128) (hb : FP.Core.unitsOf FP.Core.b32 x.toNat * n.toNat ≤ FP.Core.unitsOf FP.Core.b32 b) : (FP.fmul x (FP.i2f (Int32.ofInt n))).toNat ≤ b := by
  have hr := f_mul hx hn
  obtain ⟨d, j, hy, hj, hd⟩ := f_i2f hn
  have hxv := f_val (x := x) (by omega)
  have hv : FP.Core.val32 (FP.fmul x (FP.i2f (Int32.ofInt n))) = FP.Core.roundRatio FP.Core.b32 false ((8388608 + x.toNat % 8388608) * d) 1 (((x.toNat / 8388608 : Nat) - 150 : Int) + -(j : Int)) := by
    rw [FP.Core.val32_fmul, hxv, hy]
    rfl
  have hq : FP.Core.b32.qmin = -149 := by decide
  have hdn : d = n.toNat * 2 ^ j := by
    have h0 : ((n.toNat * 2 ^ j : Nat) : Int) = n * ((2 ^ j : Nat) : Int) := by
      rw [Int.natCast_mul, show ((n.toNat : Nat) : Int) = n by omega]
    omega
  have hu := f_units (z := x.toNat) (by omega)
  generalize hE : x.toNat / 8388608 = E at hv hu
  generalize ht : x.toNat % 8388608 = t at hv hu
  have hE1 : 30 ≤ E ∧ E < 240 := by omega
  have hin : FP.Core.inUnits ((8388608 + t) * d) (((E : Nat) - 150 : Int) + -(j : Int)) (-149) = (8388608 + t) * 2 ^ (E - 1) * n.toNat := by
    unfold FP.Core.inUnits
    rw [show (((E : Nat) - 150 : Int) + -(j : Int) - -149).toNat = E - 1 - j by omega, hdn]
    have h1 : 2 ^ (E - 1) = 2 ^ j * 2 ^ (E - 1 - j) := by rw [← Nat.pow_add]; congr 1; omega
    rw [h1]
    simp only [Nat.mul_assoc, Nat.mul_left_comm, Nat.mul_comm]
  have hm1 : FP.Core.mag FP.Core.b32 (FP.fmul x (FP.i2f (Int32.ofInt n))).toNat ≤ b := by
    refine FP.Core.mag_le FP.Core.good_b32 (e0 := -149) hv (by decide) (by rw [hq]; omega) (by omega) ?_
    rw [hin, ← hu, hq, show ((-149 : Int) - -149).toNat = 0 by decide]
    omega
  rw [FP.Core.mag_toNat32] at hm1
  omega
theorem f_div_le {x : UInt32} {b : Nat} (hx : 251658240 ≤ x.toNat ∧ x.toNat < 2113929216) (hb : FP.Core.unitsOf FP.Core.b32 x.toNat ≤ FP.Core.unitsOf FP.Core.b32 b * 100) : (FP.fdiv x 1120403456).toNat ≤ b := by
  have hr := f_div100 hx
  have hxv := f_val (x := x) (by omega)
  have h100 : FP.Core.val32 1120403456 = .fin false 13107200 (-17) := by decide +kernel
  have hv : FP.Core.val32 (FP.fdiv x 1120403456) = FP.Core.roundRatio FP.Core.b32 false (8388608 + x.toNat % 8388608) 13107200 (((x.toNat / 8388608 : Nat) - 150 : Int) - (-17)) := by
    rw [FP.Core.val32_fdiv, hxv, h100]
    rfl
  have hq : FP.Core.b32.qmin = -149 := by decide
  have hu := f_units (z := x.toNat) (by omega)
  generalize hE : x.toNat / 8388608 = E at hv hu
  generalize ht : x.toNat % 8388608 = t at hv hu
  have hE1 : 30 ≤ E ∧ E < 252 := by omega
  have hin : FP.Core.inUnits (8388608 + t) (((E : Nat) - 150 : Int) - (-17)) (-149) = (8388608 + t) * 2 ^ (E - 1) * 131072 := by
    unfold FP.Core.inUnits
    rw [show (((E : Nat) - 150 : Int) - (-17) - -149).toNat = (E - 1) + 17 by omega, Nat.pow_add, ← Nat.mul_assoc]
  have hm1 : FP.Core.mag FP.Core.b32 (FP.fdiv x 1120403456).toNat ≤ b := by
    refine FP.Core.mag_le FP.Core.good_b32 (e0 := -149) hv (by decide) (by rw [hq]; omega) (by omega) ?_
    rw [hin, ← hu, hq, show ((-149 : Int) - -149).toNat = 0 by decide]
    generalize FP.Core.unitsOf FP.Core.b32 x.toNat = X at *
    generalize FP.Core.unitsOf FP.Core.b32 b = Y at *
    omega
  rw [FP.Core.mag_toNat32] at hm1
  omega
theorem fA_le {k z y n : Int} (hk : 0 ≤ k ∧ k ≤ 7) (hz : okF k z) (hy : 1 ≤ y ∧ y ≤ 100) (hn : 1 ≤ n ∧ n ≤ 10000) (h : z ≤ szF n) : fA z y ≤ szF n := by
  unfold okF at hz
  have h1 := fB_nat (z := z) (by omega)
  obtain ⟨s1, s2⟩ := f_exact (n := n) (by omega)
  obtain ⟨p1, p2⟩ := f_exact (n := n * 100) (by omega)
  rw [szF_nat (by omega)] at h ⊢
  obtain ⟨h2, h3⟩ := f_mul (x := fB z) (n := y) (by omega) (by omega)
  have hz1 : FP.Core.unitsOf FP.Core.b32 (fB z).toNat ≤ n.toNat * 2 ^ 149 := by
    rw [← s2]
    exact FP.Core.unitsOf_le_iff.mpr (by omega)
  have hm := f_mul_le (x := fB z) (n := y) (b := (FP.i2f (Int32.ofInt (n * 100))).toNat) (by omega) (by omega) (by
    rw [p2, show (n * 100).toNat = n.toNat * 100 by omega]
    have g1 := Nat.mul_le_mul hz1 (show y.toNat ≤ 100 by omega)
    have g2 : n.toNat * 2 ^ 149 * 100 = n.toNat * 100 * 2 ^ 149 := by
      generalize (2 : Nat) ^ 149 = X
      rw [Nat.mul_assoc, Nat.mul_comm X 100, ← Nat.mul_assoc]
    omega)
  obtain ⟨h4, h5⟩ := f_div100 (x := FP.fmul (fB z) (FP.i2f (Int32.ofInt y))) (by omega)
  have hd := f_div_le (x := FP.fmul (fB z) (FP.i2f (Int32.ofInt y))) (b := (FP.i2f (Int32.ofInt n)).toNat) (by omega) (by
    refine Nat.le_trans (FP.Core.unitsOf_le_iff.mpr hm) ?_
    rw [p2, s2, show (n * 100).toNat = n.toNat * 100 by omega]
    generalize (2 : Nat) ^ 149 = X
    rw [Nat.mul_assoc, Nat.mul_comm 100 X, ← Nat.mul_assoc]
    exact Nat.le_refl _)
  unfold fA
  rw [fI_nat (by omega)]
  omega
/-- an amount, cast to int -/
theorem f2i_le {z n : Int} (hz : 8388608 ≤ z ∧ z < 2139095040) (hn : 1 ≤ n ∧ n ≤ 10000) (h : z ≤ szF n) : 0 ≤ (FP.f2i (fB z)).toInt ∧ (FP.f2i (fB z)).toInt ≤ n := by
  have h1 := fB_nat (z := z) (by omega)
  obtain ⟨s1, s2⟩ := f_exact (n := n) (by omega)
  rw [szF_nat (by omega)] at h
  have hv := f_val (x := fB z) (by omega)
  have hne : FP.Core.val32 (fB z) ≠ .nan := by rw [hv]; exact fun q => by cases q
  have hzm := FP.Core.zmag_toNat32 hne
  have e := FP.Core.f2i_val hne
  rw [show FP.f2i (fB z) = FP.Core.f2i (fB z) from rfl, e, hzm, Nat.mod_eq_of_lt (by omega : (fB z).toNat < 2 ^ 31), show FP.Core.sgn (FP.Core.val32 (fB z)) = false by rw [hv]; rfl]
  have hu : FP.Core.unitsOf FP.Core.b32 (fB z).toNat ≤ n.toNat * FP.Core.one32 := by
    show _ ≤ n.toNat * 2 ^ 149
    rw [← s2]
    exact FP.Core.unitsOf_le_iff.mpr (by omega)
  have hd : FP.Core.unitsOf FP.Core.b32 (fB z).toNat / FP.Core.one32 ≤ n.toNat := by
    refine Nat.le_trans (Nat.div_le_div_right hu) ?_
    rw [Nat.mul_div_cancel _ FP.Core.one32_pos]
    exact Nat.le_refl _
  generalize FP.Core.unitsOf FP.Core.b32 (fB z).toNat / FP.Core.one32 = X at hd
  unfold FP.Core.signed
  simp only [Bool.false_eq_true, if_false]
  omega
theorem f2i_size {n : Int} (hn : 1 ≤ n ∧ n ≤ 10000) : (FP.f2i (fB (szF n))).toInt = n := by
  have e : (Int32.ofInt n).toInt = n := Int32.toInt_ofInt_of_le (by omega) (by omega)
  unfold szF
  rw [fB_fI, show FP.f2i (FP.i2f (Int32.ofInt n)) = FP.Core.f2i (FP.Core.i2f (Int32.ofInt n)) from rfl, FP.Core.f2i_i2f (by rw [e]; omega), e]

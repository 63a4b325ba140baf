/-! ===== the reference's ticks, walked ===== -/
theorem fA_lt {k z y : Int} (hk : 0 ≤ k ∧ k ≤ 7) (hz : okF k z) (hy : 1 ≤ y ∧ y ≤ 100) : (FP.fdiv (FP.fmul (fB z) (FP.i2f (Int32.ofInt y))) 1120403456).toNat < 2139095040 := by
  unfold okF at hz
  have h1 := fB_nat (z := z) (by omega)
  obtain ⟨h2, h3⟩ := f_mul (x := fB z) (n := y) (by omega) (by omega)
  obtain ⟨h4, h5⟩ := f_div100 (x := FP.fmul (fB z) (FP.i2f (Int32.ofInt y))) (by omega)
  omega
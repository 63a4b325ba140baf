/-! ===== bits of numbers that are not negative ===== -/
theorem i32_nat (n : Nat) : Int32.ofInt (n : Int) = Int32.ofBitVec (BitVec.ofNat 32 n) := by
  rw [Int32.ofInt_eq_ofNat]
  rfl
theorem i32_andN (a b : Nat) : Int32.ofInt (a : Int) &&& Int32.ofInt (b : Int) = Int32.ofInt ((a &&& b : Nat) : Int) := by
  rw [i32_nat, i32_nat, i32_nat, ← Int32.ofBitVec_and, ← BitVec.ofNat_and]
theorem i32_orN (a b : Nat) : Int32.ofInt (a : Int) ||| Int32.ofInt (b : Int) = Int32.ofInt ((a ||| b : Nat) : Int) := by
  rw [i32_nat, i32_nat, i32_nat, ← Int32.ofBitVec_or, ← BitVec.ofNat_or]
/-- and with a mask -/
theorem i32_mask {x : Int} (n : Nat) (y : Int) (hy : y = ((2 ^ n - 1 : Nat) : Int)) (hx : 0 ≤ x) : Int32.ofInt x &&& Int32.ofInt y = Int32.ofInt (x % ((2 ^ n : Nat) : Int)) := by
  obtain ⟨a, rfl⟩ := Int.eq_ofNat_of_zero_le hx
  rw [hy, i32_andN, Nat.and_two_pow_sub_one_eq_mod]
  rfl
theorem i32_sh : ∀ k : Fin 32, Int32.ofInt (k.val : Int) &&& 31 = Int32.ofInt (k.val : Int) ∧ ((Int32.ofInt (k.val : Int)).toBitVec.smod 32).toNat = k.val := by decide +kernel
theorem i32_shr {x k : Int} (hx : 0 ≤ x ∧ x < 2147483648) (hk : 0 ≤ k ∧ k < 32) : Int32.ofInt x >>> (Int32.ofInt k &&& 31) = Int32.ofInt (x / ((2 ^ k.toNat : Nat) : Int)) := by
  obtain ⟨c, rfl⟩ := Int.eq_ofNat_of_zero_le hk.1
  obtain ⟨h1, h2⟩ := i32_sh ⟨c, by omega⟩
  simp only at h1 h2
  rw [h1, ← Int32.toInt_inj]
  have e : (Int32.ofInt x >>> Int32.ofInt (c : Int)).toInt = (Int32.ofInt x).toInt >>> c := by
    show ((Int32.ofInt x).toBitVec.sshiftRight' ((Int32.ofInt (c : Int)).toBitVec.smod 32)).toInt = _
    rw [BitVec.sshiftRight_eq', BitVec.toInt_sshiftRight, h2]
    rfl
  have hp : (0 : Int) < ((2 ^ c : Nat) : Int) := by exact_mod_cast Nat.two_pow_pos c
  have h3 : 0 ≤ x / ((2 ^ c : Nat) : Int) := Int.ediv_nonneg hx.1 (Int.le_of_lt hp)
  have h4 : x / ((2 ^ c : Nat) : Int) ≤ x := Int.ediv_le_self _ hx.1
  rw [e, Int32.toInt_ofInt_of_le (by omega) (by omega), Int.toNat_natCast, Int32.toInt_ofInt_of_le (by omega) (by omega), Int.shiftRight_eq_div_pow]
theorem i32_shl {x k : Int} (hk : 0 ≤ k ∧ k < 32) : Int32.ofInt x <<< (Int32.ofInt k &&& 31) = Int32.ofInt (x * ((2 ^ k.toNat : Nat) : Int)) := by
  obtain ⟨c, rfl⟩ := Int.eq_ofNat_of_zero_le hk.1
  obtain ⟨h1, h2⟩ := i32_sh ⟨c, by omega⟩
  simp only at h1 h2
  rw [h1, Int.toNat_natCast]
  apply Int32.toBitVec.inj
  show (Int32.ofInt x).toBitVec <<< ((Int32.ofInt (c : Int)).toBitVec.smod 32) = _
  rw [BitVec.shiftLeft_eq', h2]
  rw [BitVec.shiftLeft_eq_mul_twoPow]
  show BitVec.ofInt 32 x * _ = BitVec.ofInt 32 _
  rw [BitVec.ofInt_mul]
  congr 1
  rw [← BitVec.toNat_inj]
  simp [BitVec.toNat_twoPow]
  have h5 : ((2 : Int) ^ c) = ((2 ^ c : Nat) : Int) := by norm_cast
  rw [h5]
  omega
/-- or of two that share no bit: their sum -/
theorem i32_or {x y z : Int} (n : Nat) (hx : 0 ≤ x ∧ x < ((2 ^ n : Nat) : Int)) (hy : y = z * ((2 ^ n : Nat) : Int)) (hz : 0 ≤ z) : Int32.ofInt x ||| Int32.ofInt y = Int32.ofInt (x + y) := by
  obtain ⟨a, rfl⟩ := Int.eq_ofNat_of_zero_le hx.1
  obtain ⟨c, rfl⟩ := Int.eq_ofNat_of_zero_le hz
  have ha : a < 2 ^ n := by exact_mod_cast hx.2
  have e : y = ((2 ^ n * c : Nat) : Int) := by rw [hy, Nat.mul_comm]; norm_cast
  rw [e, i32_orN, Nat.or_comm, ← Nat.two_pow_add_eq_or_of_lt ha]
  congr 1
  omega

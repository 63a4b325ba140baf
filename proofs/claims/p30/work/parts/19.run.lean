/-! ===== the reference: run, ticksTo, batch, batchInfo ===== -/
def eqR (ρ ρ' : Nat → Int → Int) : Prop := ρ' 1 = ρ 1 ∧ ρ' 2 = ρ 2 ∧ ρ' 5 0 = ρ 5 0 ∧ ρ' 5 1 = ρ 5 1
theorem eqR.rf {ρ : Nat → Int → Int} : eqR ρ ρ := ⟨rfl, rfl, rfl, rfl⟩
theorem ticks_E {m : Int → Int} {W : Int} (h : Iv m W) : ∀ n : Nat, m 1 + n ≤ 60000 → Iv (s_ticks n m) (W + 12 * n) ∧ s_ticks n m 1 = m 1 + n ∧ (∀ k, (k = 0 ∨ k = 2 ∨ k = 3 ∨ (56 ≤ k ∧ k < 548)) → s_ticks n m k = m k) ∧ (∀ y w, 0 ≤ y → y < m 3 → 0 ≤ w → w < 5 → s_ticks n m (548 + 10 * y + w) = m (548 + 10 * y + w)) ∧ (∀ y w, 0 ≤ y → y < m 3 → ¬ s_actv m y → 0 ≤ w → w < 10 → s_ticks n m (548 + 10 * y + w) = m (548 + 10 * y + w)) ∧
    ∀ y, 0 ≤ y → y < m 3 → (s_ticks n m) (548 + 10 * y + 5) = m (548 + 10 * y + 5) ∨ ((m (548 + 10 * y + 5) = 1 ∨ m (548 + 10 * y + 5) = 3) ∧ ((s_ticks n m) (548 + 10 * y + 5) = 4 ∨ (s_ticks n m) (548 + 10 * y + 5) = 6))
  | 0, _ => ⟨by simpa [s_ticks] using h, by simp [s_ticks], fun _ _ => rfl, fun _ _ _ _ _ _ => rfl, fun _ _ _ _ _ _ _ => rfl, fun _ _ _ => Or.inl rfl⟩
  | n + 1, hn => by
    obtain ⟨g0, g1, g2, g3, g4, g5⟩ := ticks_E h n (by omega)
    obtain ⟨t0, t1, t2, t3, t4, t5⟩ := tick_E g0 (by omega)
    have e3 := g2 3 (by omega)
    have eW : W + 12 * ((n + 1 : Nat) : Int) = W + 12 * (n : Int) + 12 := by omega
    refine ⟨by rw [eW]; exact t0, ?_, fun k hk => ?_, fun y w y0 y1 w0 w1 => ?_, fun y w y0 y1 ha w0 w1 => ?_, fun y y0 y1 => ?_⟩
    · show s_tick (s_ticks n m) 1 = _
      rw [t1, g1]
      omega
    · show s_tick (s_ticks n m) k = _
      rw [t2 k hk, g2 k hk]
    · show s_tick (s_ticks n m) _ = _
      rw [t3 y w y0 (by omega) w0 w1, g3 y w y0 y1 w0 w1]
    · show s_tick (s_ticks n m) _ = _
      rw [t4 y w y0 (by omega) (by unfold s_actv at ha ⊢; rw [g4 y 5 y0 y1 ha (by omega) (by omega)]; exact ha) w0 w1, g4 y w y0 y1 ha w0 w1]
    · have q1 := t5 y y0 (by omega)
      have q2 := g5 y y0 y1
      show (s_tick (s_ticks n m)) (548 + 10 * y + 5) = _ ∨ (_ ∧ ((s_tick (s_ticks n m)) (548 + 10 * y + 5) = 4 ∨ (s_tick (s_ticks n m)) (548 + 10 * y + 5) = 6))
      omega
def o_run (m : Int → Int) (ρ : Nat → Int → Int) (t : Int) : xO :=
  if ¬ (1 ≤ t ∧ t ≤ 500) then (-1, m, ρ) else if 50000 < m 1 + t then (-3, m, ρ) else
  (cntB (s_ticks t.toNat m) 6 (s_ticks t.toNat m 3).toNat - cntB m 6 (m 3).toNat, s_ticks t.toNat m, s_keep m ρ)
/-- after how many ticks a batch is complete: the first that will do, from n on -/
def s_to (m : Int → Int) (b : Int) : Nat → Nat → Int
  | 0, n => if (s_ticks n m) (548 + 10 * b + 5) = 6 then n else -4
  | f + 1, n => if (s_ticks n m) (548 + 10 * b + 5) = 6 then n else s_to m b f (n + 1)
def o_ticksTo (m : Int → Int) (ρ : Nat → Int → Int) (b : Int) : xO := if ¬ (0 ≤ b ∧ b ≤ m 3 - 1) then (-1, m, ρ) else (s_to m b 2000 0, m, ρ)
/-- a size as a float -/
theorem f_size {n : Int} (hn : 1 ≤ n ∧ n ≤ 10000) : okF 0 (fI (FP.i2f (Int32.ofInt n))) ∧ (FP.i2f (Int32.ofInt n)).toNat < 2139095040 := by
  have e : (Int32.ofInt n).toInt = n := Int32.toInt_ofInt_of_le (by omega) (by omega)
  have hv : FP.Core.val32 (FP.i2f (Int32.ofInt n)) = FP.Core.roundRatio FP.Core.b32 false n.toNat 1 0 := by
    rw [show FP.i2f (Int32.ofInt n) = FP.Core.i2f (Int32.ofInt n) from rfl, FP.Core.val32_i2f, e]
    unfold FP.Core.ofInt FP.Core.round
    rw [decide_eq_false (by omega), show n.natAbs = n.toNat by omega]
  have hq : FP.Core.b32.qmin = -149 := by decide
  have hin : FP.Core.inUnits n.toNat 0 (-149) = n.toNat * 2 ^ 149 := rfl
  have h1 : FP.Core.mag FP.Core.b32 (FP.i2f (Int32.ofInt n)).toNat ≤ 1176256512 := by
    refine FP.Core.mag_le FP.Core.good_b32 (e0 := -149) hv (by decide) (by rw [hq]; omega) (by omega) ?_
    rw [hin, f_units (by omega), hq, show ((-149 : Int) - -149).toNat = 0 by decide]
    have : n.toNat * 2 ^ 149 ≤ 10000 * 2 ^ 149 := Nat.mul_le_mul_right _ (by omega)
    refine Nat.le_trans this ?_
    decide
  have h2 : 1065353216 ≤ FP.Core.mag FP.Core.b32 (FP.i2f (Int32.ofInt n)).toNat := by
    refine FP.Core.mag_ge FP.Core.good_b32 (e0 := -149) hv (by decide) (by rw [hq]; omega) (by omega) (by rw [FP.Core.infBits_b32]; omega) ?_
    rw [hin, f_units (by omega), hq, show ((-149 : Int) - -149).toNat = 0 by decide]
    have : 1 * 2 ^ 149 ≤ n.toNat * 2 ^ 149 := Nat.mul_le_mul_right _ (by omega)
    refine Nat.le_trans ?_ this
    decide
  rw [FP.Core.mag_toNat32] at h1 h2
  have h5 := f_pos hv (by omega)
  refine ⟨?_, by omega⟩
  unfold okF
  rw [fI_nat h5]
  omega
def s_batch (m : Int → Int) (r sz pr bf : Int) : Int → Int :=
  let b := m 3
  let m1 := up m 3 (m 3 + 1)
  up (up (up (up (up (up (up (up (up (up (m1) (548 + 10 * b + 0) r) (548 + 10 * b + 1) (up m1 (548 + 10 * b + 0) r (56 + r))) (548 + 10 * b + 2) sz) (548 + 10 * b + 3) pr) (548 + 10 * b + 4) bf) (548 + 10 * b + 5) 0) (548 + 10 * b + 6) 0) (548 + 10 * b + 7) 0) (548 + 10 * b + 8) (-1)) (548 + 10 * b + 9) (fI (FP.i2f (Int32.ofInt sz)))
def o_batch (m : Int → Int) (ρ : Nat → Int → Int) (r sz pr bf : Int) : xO :=
  if ¬ ((0 ≤ r ∧ r ≤ 5) ∧ (1 ≤ sz ∧ sz ≤ 10000) ∧ (0 ≤ pr ∧ pr ≤ 9) ∧ (bf = -1 ∨ (0 ≤ bf ∧ bf ≤ m 3 - 1))) then (-1, m, ρ) else
  if m (56 + r) = 0 ∨ (bf ≠ -1 ∧ (m (548 + 10 * bf + 5) = 4 ∨ m (548 + 10 * bf + 5) = 5)) then (-2, m, ρ) else if m 3 = 12 then (-3, m, ρ) else
  (m 3, s_batch m r sz pr bf, s_keep m ρ)
def o_batchInfo (m : Int → Int) (ρ : Nat → Int → Int) (b w : Int) : xO :=
  if ¬ ((0 ≤ b ∧ b ≤ m 3 - 1) ∧ (0 ≤ w ∧ w ≤ 11)) then (-1, m, ρ) else
  (if w = 4 then (if m (548 + 10 * b + 4) = -1 then -4 else m (548 + 10 * b + 4)) else if w = 6 then (if m (548 + 10 * b + 5) = 6 then -4 else m (548 + 10 * b + 6)) else if w = 7 then (if m (548 + 10 * b + 5) = 6 then -4 else phB m b (m (548 + 10 * b + 6)) / 4 % 128 - m (548 + 10 * b + 7)) else if w = 8 then (if m (548 + 10 * b + 8) = -1 then -4 else m (548 + 10 * b + 8)) else if w = 9 then (if 0 < m (548 + 10 * b + 7) then 1 else 0) else if w = 10 then m (548 + 10 * b + 9) else if w = 11 then (FP.f2i (fB (m (548 + 10 * b + 9)))).toInt else m (548 + 10 * b + w), m, ρ)
theorem i32_rg (z : Int32) : -2147483648 ≤ z.toInt ∧ z.toInt < 2147483648 := by
  have h1 := z.toInt_lt
  have h2 := z.le_toInt
  omega
def s_bOf (m : Int → Int) (b w : Int) : Int := if w = 4 then (if m (548 + 10 * b + 4) = -1 then -4 else m (548 + 10 * b + 4)) else if w = 6 then (if m (548 + 10 * b + 5) = 6 then -4 else m (548 + 10 * b + 6)) else if w = 7 then (if m (548 + 10 * b + 5) = 6 then -4 else phB m b (m (548 + 10 * b + 6)) / 4 % 128 - m (548 + 10 * b + 7)) else if w = 8 then (if m (548 + 10 * b + 8) = -1 then -4 else m (548 + 10 * b + 8)) else if w = 9 then (if 0 < m (548 + 10 * b + 7) then 1 else 0) else if w = 10 then m (548 + 10 * b + 9) else if w = 11 then (FP.f2i (fB (m (548 + 10 * b + 9)))).toInt else m (548 + 10 * b + w)
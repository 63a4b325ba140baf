theorem cpyN_rg {f g : Int → Int} {x y n : Int} (hf : ∀ k, -2147483648 ≤ f k ∧ f k < 2147483648) (hg : ∀ k, -2147483648 ≤ g k ∧ g k < 2147483648) : ∀ k, -2147483648 ≤ cpyN f g x y n k ∧ cpyN f g x y n k < 2147483648 := by
  intro k
  unfold cpyN
  split
  · exact hf _
  · exact hg _
theorem s_endsBy_ne {m : Int → Int} {b st w k : Int} (hb : 0 ≤ b ∧ b < 12) (hu : -1 ≤ m (548 + 10 * b + 8) ∧ m (548 + 10 * b + 8) < 8) (h : k < 4 ∨ 56 ≤ k) (h2 : k < 668 ∨ 788 ≤ k) (h5 : k ≠ 548 + 10 * b + 5) (h8 : k ≠ 548 + 10 * b + 8) : s_endsBy m b st w k = m k := by
  have e8 : s_relS m b 3 (548 + 10 * b + 8) = m (548 + 10 * b + 8) := s_relS_ne (by omega)
  unfold s_endsBy
  rw [s_note_ne h2 (by omega), up_ne h5]
  simp only [s_relU]
  rw [e8]
  split
  · exact s_relS_ne (by omega)
  · rw [up_ne h8, up_ne (by omega), up_ne (by omega)]
    exact s_relS_ne (by omega)
theorem s_endsBy_4 {m : Int → Int} {b st w : Int} (hb : 0 ≤ b ∧ b < 12) (hu : -1 ≤ m (548 + 10 * b + 8) ∧ m (548 + 10 * b + 8) < 8) : s_endsBy m b st w 4 = if m 4 = 40 then 40 else m 4 + 1 := by
  have e8 : s_relS m b 3 (548 + 10 * b + 8) = m (548 + 10 * b + 8) := s_relS_ne (by omega)
  have e4 : (up (s_relU (s_relS m b 3) b) (548 + 10 * b + 5) st) 4 = m 4 := by
    rw [up_ne (by omega), s_relU_4 _ _ hb (by omega), s_relS_ne (by omega)]
  unfold s_endsBy s_note
  rw [if_neg (by omega), if_pos rfl, e4]
theorem s_endsBy_st {m : Int → Int} {b st w : Int} (hb : 0 ≤ b ∧ b < 12) : s_endsBy m b st w (548 + 10 * b + 5) = st := by
  unfold s_endsBy
  rw [s_note_ne (by omega) (by omega), up_eq rfl]
def o_stop (m : Int → Int) (ρ : Nat → Int → Int) (b : Int) : xO :=
  if ¬ (0 ≤ b ∧ b ≤ m 3 - 1) then (-1, m, ρ) else if m (548 + 10 * b + 5) ≠ 1 ∧ m (548 + 10 * b + 5) ≠ 2 then (-2, m, ρ) else
  if m (548 + 10 * b + 5) = 1 ∧ 0 < m (548 + 10 * b + 7) then (3, up m (548 + 10 * b + 5) 3, s_keep m ρ) else (4, s_endsBy m b 4 4, s_keep m ρ)
/-- an abort, from batch i on: z has the bits of those that were aborted, n is their number -/
def s_ab (b0 : Int) : Nat → Int → Int → Int → (Int → Int) → Int × (Int → Int)
  | 0, _, _, n, m => (n, m)
  | k + 1, i, z, n, m => if i = b0 ∨ (m (548 + 10 * i + 4) ≠ -1 ∧ z / ((2 ^ (m (548 + 10 * i + 4)).toNat : Nat) : Int) % 2 = 1) ∧ m (548 + 10 * i + 5) < 4 then s_ab b0 k (i + 1) (z + ((2 ^ i.toNat : Nat) : Int)) (n + 1) (s_endsBy m i 5 5) else s_ab b0 k (i + 1) z n m
def o_abort (m : Int → Int) (ρ : Nat → Int → Int) (b : Int) : xO :=
  if ¬ (0 ≤ b ∧ b ≤ m 3 - 1) then (-1, m, ρ) else if 4 ≤ m (548 + 10 * b + 5) then (-2, m, ρ) else
  ((s_ab b (m 3 - b).toNat b 0 0 m).1, (s_ab b (m 3 - b).toNat b 0 0 m).2, s_keep m ρ)
theorem pow2_rg {i : Int} (h : 0 ≤ i ∧ i ≤ 12) : 1 ≤ ((2 ^ i.toNat : Nat) : Int) ∧ ((2 ^ i.toNat : Nat) : Int) ≤ 4096 := by
  have h1 : 2 ^ i.toNat ≤ 2 ^ 12 := Nat.pow_le_pow_right (by decide) (by omega)
  have h2 := Nat.two_pow_pos i.toNat
  omega
/-- the lowest of n from u on; -1 -/
def lowU (p : Int → Prop) [DecidablePred p] : Nat → Int → Int
  | 0, _ => -1
  | n + 1, u => if p u then u else lowU p n (u + 1)
theorem lowU_rg (p : Int → Prop) [DecidablePred p] : ∀ (n : Nat) (u : Int), 0 ≤ u → lowU p n u = -1 ∨ (u ≤ lowU p n u ∧ lowU p n u < u + n ∧ p (lowU p n u))
  | 0, _, _ => Or.inl rfl
  | n + 1, u, hu => by
    unfold lowU
    split
    · next h => exact Or.inr ⟨by omega, by omega, h⟩
    · rcases lowU_rg p n (u + 1) (by omega) with h | ⟨h1, h2, h3⟩
      · exact Or.inl h
      · exact Or.inr ⟨by omega, by omega, h3⟩
def s_uFor (m : Int → Int) (t b kd : Int) : Int := lowU (fun u => ((m (5 + 6 * u + 2) = -1 ∧ m (5 + 6 * u + 3) = 0 ∧ m (5 + 6 * u + 4) ≤ t) ∧ m (5 + 6 * u + 0) = kd ∧ m (548 + 10 * b + 2) ≤ m (5 + 6 * u + 1))) (m 2).toNat 0
/-- what a batch's present phase may be read by -/
def rdB (m : Int → Int) (b : Int) : Prop := (0 ≤ b ∧ b < 12) ∧ (0 ≤ m (548 + 10 * b + 0) ∧ m (548 + 10 * b + 0) < 6) ∧ (1 ≤ m (548 + 10 * b + 1) ∧ m (548 + 10 * b + 1) ≤ 9) ∧ (0 ≤ m (548 + 10 * b + 6) ∧ m (548 + 10 * b + 6) < 8) ∧ (0 ≤ phB m b (m (548 + 10 * b + 6)) ∧ phB m b (m (548 + 10 * b + 6)) < 524288)
def s_reason (m : Int → Int) (t b : Int) : Int := if (m (548 + 10 * b + 6) = 0 ∧ m (548 + 10 * b + 7) = 0 ∧ m (548 + 10 * b + 4) ≠ -1 ∧ m (548 + 10 * m (548 + 10 * b + 4) + 5) ≠ 6) then 1 else if m (548 + 10 * b + 8) = -1 ∧ s_uFor m t b ((phB m b (m (548 + 10 * b + 6))) % 4) = -1 then 2 else if ((phB m b (m (548 + 10 * b + 6)) / 512 % 4 - 1) ≠ -1 ∧ m (53 + (phB m b (m (548 + 10 * b + 6)) / 512 % 4 - 1)) ≠ -1 ∧ m (53 + (phB m b (m (548 + 10 * b + 6)) / 512 % 4 - 1)) ≠ b) then 3 else 0
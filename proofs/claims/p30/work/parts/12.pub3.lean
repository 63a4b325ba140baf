/-! ===== the reference: cleaning, the order, counts, undo, the text's characters ===== -/
def s_clean (m : Int → Int) (n : Int) : Int → Int := fun k => if 5 ≤ k ∧ k < 5 + 6 * n ∧ (k - 5) % 6 = 4 then (if 0 < m k then m k - 1 else 0) else m k
theorem s_clean_ne {m : Int → Int} {n k : Int} (h : k < 5 ∨ 5 + 6 * n ≤ k ∨ (k - 5) % 6 ≠ 4) : s_clean m n k = m k := by
  unfold s_clean
  rw [if_neg (by omega)]
def o_count (m : Int → Int) (ρ : Nat → Int → Int) (w : Int) : xO :=
  (if w = 0 then m 2 else if w = 1 then sumU m 3 (m 2).toNat else if w = 2 then cntP (fun u => m (5 + 6 * u + 2) = -1 ∧ m (5 + 6 * u + 3) = 0 ∧ m (5 + 6 * u + 4) = 0) (m 2).toNat else if w = 3 then m 3 else if 4 ≤ w ∧ w ≤ 10 then cntB m (w - 4) (m 3).toNat else if w = 11 then m 1 else if w = 12 then m 0 else if w = 13 then m 4 else if w = 14 then ρ 5 0 else if w = 15 then ρ 5 1 else if w = 16 then sumU m 5 (m 2).toNat else if w = 17 then cntP (fun k => m (53 + k) = -1) 3 else -1, m, ρ)
def o_undo (m : Int → Int) (ρ : Nat → Int → Int) : xO :=
  if ρ 5 0 = 0 then (-2, m, ρ) else (ρ 5 0 - 1, cpyN (ρ 1) m (788 * (ρ 5 0 - 1)) 0 788, ur ρ 5 (up (ρ 5) 0 (ρ 5 0 - 1)))
def o_type (m : Int → Int) (ρ : Nat → Int → Int) (c : Int) : xO :=
  if ¬ (32 ≤ c ∧ c ≤ 126) then (-1, m, ρ) else if ρ 5 1 = 100 then (-3, m, ρ) else (ρ 5 1 + 1, m, ur (ur ρ 2 (up (ρ 2) (ρ 5 1) c)) 5 (up (ρ 5) 1 (ρ 5 1 + 1)))
def o_clearText (m : Int → Int) (ρ : Nat → Int → Int) : xO := (ρ 5 1, m, ur ρ 5 (up (ρ 5) 1 0))
/-- the memory that 'waits' and 'ticksTo' bring back -/
theorem cpy_back {m m2 sp : Int → Int} {k : Int} (h0 : 0 ≤ k) (h1 : k < 788) : cpyN (cpyN m sp 0 0 788) m2 0 0 788 k = m k := by
  unfold cpyN
  rw [if_pos (by omega), if_pos (by omega)]
  congr 1
  omega
def o_waits (m : Int → Int) (ρ : Nat → Int → Int) (b : Int) : xO :=
  if ¬ (0 ≤ b ∧ b ≤ m 3 - 1) then (-1, m, ρ) else if ¬ (m (548 + 10 * b + 5) = 1 ∨ m (548 + 10 * b + 5) = 3) then (-4, m, ρ) else (s_reason (s_clean m (m 2)) 0 b, m, ur ρ 0 (cpyN m (ρ 0) 0 0 788))
theorem s_clean_rdB {m : Int → Int} {n b : Int} (hn : 0 ≤ n ∧ n ≤ 8) (h : rdB m b) : rdB (s_clean m n) b := by
  have e : ∀ w, 0 ≤ w → w < 10 → s_clean m n (548 + 10 * b + w) = m (548 + 10 * b + w) := fun w _ _ => s_clean_ne (by unfold rdB at h; omega)
  unfold rdB at *
  rw [e 0 (by omega) (by omega), e 1 (by omega) (by omega), e 6 (by omega) (by omega)]
  have ep : phB (s_clean m n) b (m (548 + 10 * b + 6)) = phB m b (m (548 + 10 * b + 6)) := by
    unfold phB
    rw [pgB_eq (e 0 (by omega) (by omega)) (e 1 (by omega) (by omega))]
    exact s_clean_ne (by unfold pgB; omega)
  rw [ep]
  exact h
-- the order
def s_ipos (m od : Int → Int) (pb : Int) : Nat → Nat
  | 0 => 0
  | n + 1 => if m (548 + 10 * od (n : Int) + 3) < pb then s_ipos m od pb n else n + 1
theorem s_ipos_le (m od : Int → Int) (pb : Int) : ∀ n : Nat, s_ipos m od pb n ≤ n
  | 0 => by simp [s_ipos]
  | n + 1 => by
    have := s_ipos_le m od pb n
    unfold s_ipos
    split <;> omega
/-- b laid into the order od of n, behind those of no lower priority -/
def s_ins (m od : Int → Int) (n : Nat) (b : Int) : Int → Int := fun k =>
  if k = (s_ipos m od (m (548 + 10 * b + 3)) n : Int) then b else if (s_ipos m od (m (548 + 10 * b + 3)) n : Int) < k ∧ k ≤ n then od (k - 1) else od k
def s_act (m : Int → Int) (b : Int) : Prop := m (548 + 10 * b + 5) = 1 ∨ m (548 + 10 * b + 5) = 3
def s_sort (m od : Int → Int) : Nat → (Int → Int) × Nat
  | 0 => (od, 0)
  | b + 1 => if m (548 + 10 * (b : Int) + 5) = 1 ∨ m (548 + 10 * (b : Int) + 5) = 3 then (s_ins m (s_sort m od b).1 (s_sort m od b).2 b, (s_sort m od b).2 + 1) else s_sort m od b
theorem s_sort_s {m od : Int → Int} {i : Int} (h : 0 ≤ i) : s_sort m od (i + 1).toNat = if m (548 + 10 * i + 5) = 1 ∨ m (548 + 10 * i + 5) = 3 then (s_ins m (s_sort m od i.toNat).1 (s_sort m od i.toNat).2 i, (s_sort m od i.toNat).2 + 1) else s_sort m od i.toNat := by
  have e : (i + 1).toNat = i.toNat + 1 := by omega
  have e2 : ((i.toNat : Nat) : Int) = i := by omega
  rw [e, s_sort, e2]
/-- the order holds batches, no more than were gone through -/
theorem s_sort_rg (m od : Int → Int) : ∀ n : Nat, (s_sort m od n).2 ≤ n ∧ ∀ k : Int, 0 ≤ k → k < (s_sort m od n).2 → 0 ≤ (s_sort m od n).1 k ∧ (s_sort m od n).1 k < n
  | 0 => ⟨Nat.le_refl _, fun k h0 h1 => by simp [s_sort] at h1; omega⟩
  | n + 1 => by
    obtain ⟨h1, h2⟩ := s_sort_rg m od n
    unfold s_sort
    split
    · refine ⟨by simp; omega, fun k h0 h3 => ?_⟩
      have hp := s_ipos_le m (s_sort m od n).1 (m (548 + 10 * (n : Int) + 3)) (s_sort m od n).2
      simp only at h3 ⊢
      unfold s_ins
      split
      · omega
      · split
        · have := h2 (k - 1) (by omega) (by omega)
          omega
        · have := h2 k h0 (by omega)
          omega
    · exact ⟨by omega, fun k h0 h3 => by have := h2 k h0 h3; omega⟩
theorem s_ins_eq {m o A : Int → Int} {n t i : Int} (hn : 0 ≤ n) (ht : 0 ≤ t) (hp : (s_ipos m o (m (548 + 10 * i + 3)) n.toNat : Int) = t) (hA : A = (fun k => if t < k ∧ k ≤ n then o (k - 1) else o k)) : up A t i = s_ins m o n.toNat i := by
  funext k
  unfold up s_ins
  rw [hp, hA, show ((n.toNat : Nat) : Int) = n by omega]
def o_inOrder (m : Int → Int) (ρ : Nat → Int → Int) (k : Int) : xO :=
  if k < 0 then (-1, m, ρ) else (if k < (s_sort m (ρ 4) (m 3).toNat).2 then (s_sort m (ρ 4) (m 3).toNat).1 k else -4, m, ur ρ 4 (s_sort m (ρ 4) (m 3).toNat).1)
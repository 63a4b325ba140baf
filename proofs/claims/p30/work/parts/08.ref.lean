/-! ===== the reference: copies, the history, the journal, releases ===== -/
/-- n numbers of f from sp on, laid into g from dp on -/
def cpyN (f g : Int → Int) (sp dp n : Int) : Int → Int := fun k => if dp ≤ k ∧ k < dp + n then f (sp + (k - dp)) else g k
theorem cpyN_0 (f g : Int → Int) (sp dp : Int) : cpyN f g sp dp 0 = g := by
  funext k
  unfold cpyN
  rw [if_neg (by omega)]
theorem cpyN_s {f g : Int → Int} {sp dp i : Int} (h : 0 ≤ i) : up (cpyN f g sp dp i) (dp + i) (f (sp + i)) = cpyN f g sp dp (i + 1) := by
  funext k
  unfold up cpyN
  by_cases h1 : k = dp + i
  · rw [if_pos h1, if_pos (by omega)]; congr 1; omega
  · rw [if_neg h1]
    by_cases h2 : dp ≤ k ∧ k < dp + i
    · rw [if_pos h2, if_pos (by omega)]
    · rw [if_neg h2, if_neg (by omega)]
def s_shift (f : Int → Int) (n : Int) : Int → Int := fun k => if 0 ≤ k ∧ k < n then f (k + 788) else f k
theorem s_shift_s {f : Int → Int} {i : Int} (h : 0 ≤ i) : up (s_shift f i) i (s_shift f i (i + 788)) = s_shift f (i + 1) := by
  funext k
  unfold up s_shift
  by_cases h1 : k = i
  · rw [if_pos h1, if_neg (by omega), if_pos (by omega), h1]
  · rw [if_neg h1]
    by_cases h2 : 0 ≤ k ∧ k < i
    · rw [if_pos h2, if_pos (by omega)]
    · rw [if_neg h2, if_neg (by omega)]
/-- the history behind a change -/
def s_keep (m : Int → Int) (ρ : Nat → Int → Int) : Nat → Int → Int :=
  if ρ 5 0 = 4 then ur ρ 1 (cpyN m (s_shift (ρ 1) 2364) 0 2364 788) else ur (ur ρ 1 (cpyN m (ρ 1) 0 (788 * ρ 5 0) 788)) 5 (up (ρ 5) 0 (ρ 5 0 + 1))
theorem keep_eq {ρ : Nat → Int → Int} {g X : Int → Int} (h4 : ρ 5 0 = 4) : ur ρ 1 X = ur (ur (ur (ur ρ 1 g) 5 (up (ρ 5) 0 3)) 1 X) 5 (up (up (ρ 5) 0 3) 0 4) := by
  funext j
  by_cases h5 : j = 5
  · subst h5
    rw [ur_eq, ur_ne (by decide)]
    funext k
    unfold up
    split
    · next h => rw [h]; exact h4
    · rfl
  · rw [ur_ne (j := j) h5]
    by_cases h1 : j = 1
    · subst h1
      rw [ur_eq, ur_eq]
    · rw [ur_ne h1, ur_ne h1, ur_ne h5, ur_ne h1]
/-- a new event of the journal -/
def s_note (m : Int → Int) (b w : Int) : Int → Int := fun k =>
  if 668 ≤ k ∧ k < 788 then (if k = 668 then m 1 else if k = 669 then b else if k = 670 then w else m (k - 3)) else if k = 4 then (if m 4 = 40 then 40 else m 4 + 1) else m k
/-- the first i pieces of shared equipment released, where b has them -/
def s_relS (m : Int → Int) (b i : Int) : Int → Int := fun k => if 53 ≤ k ∧ k < 53 + i ∧ m k = b then -1 else m k
theorem s_relS_ne {m : Int → Int} {b i k : Int} (h : k < 53 ∨ 53 + i ≤ k) : s_relS m b i k = m k := by
  unfold s_relS
  rw [if_neg (by omega)]
def s_relU (m : Int → Int) (b : Int) : Int → Int :=
  let u := m (548 + 10 * b + 8)
  if u = -1 then m else
    let m1 := up m (5 + 6 * u + 2) (-1)
    up (up m1 (5 + 6 * u + 4) (m1 0)) (548 + 10 * b + 8) (-1)
def s_endsBy (m : Int → Int) (b st w : Int) : Int → Int := s_note (up (s_relU (s_relS m b 3) b) (548 + 10 * b + 5) st) b w
theorem s_relU_4 (m : Int → Int) (b : Int) (hb : 0 ≤ b ∧ b < 12) (h : -1 ≤ m (548 + 10 * b + 8) ∧ m (548 + 10 * b + 8) < 8) : s_relU m b 4 = m 4 := by
  simp only [s_relU]
  split
  · rfl
  · unfold up
    rw [if_neg (by omega), if_neg (by omega), if_neg (by omega)]
def s_holds (m : Int → Int) (b : Int) : Int → Int := s_note (up (s_relS m b 3) (548 + 10 * b + 5) 2) b 2
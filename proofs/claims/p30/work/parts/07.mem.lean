/-! ===== what the reference does to its memory ===== -/
/-- how many of the first n batches have the state st -/
def cntB (m : Int → Int) (st : Int) : Nat → Int
  | 0 => 0
  | n + 1 => cntB m st n + (if m (548 + 10 * (n : Int) + 5) = st then 1 else 0)
theorem cntB_rg (m : Int → Int) (st : Int) : ∀ n : Nat, 0 ≤ cntB m st n ∧ cntB m st n ≤ n
  | 0 => by simp [cntB]
  | n + 1 => by
    have := cntB_rg m st n
    unfold cntB
    split <;> omega
theorem cntB_s {m : Int → Int} {st i : Int} (h : 0 ≤ i) : cntB m st (i + 1).toNat = cntB m st i.toNat + (if m (548 + 10 * i + 5) = st then 1 else 0) := by
  have e : (i + 1).toNat = i.toNat + 1 := by omega
  have e2 : ((i.toNat : Nat) : Int) = i := by omega
  rw [e, cntB, e2]
/-- the sum of a number of the first n units -/
def sumU (m : Int → Int) (w : Int) : Nat → Int
  | 0 => 0
  | n + 1 => sumU m w n + m (5 + 6 * (n : Int) + w)
theorem sumU_s {m : Int → Int} {w i : Int} (h : 0 ≤ i) : sumU m w (i + 1).toNat = sumU m w i.toNat + m (5 + 6 * i + w) := by
  have e : (i + 1).toNat = i.toNat + 1 := by omega
  have e2 : ((i.toNat : Nat) : Int) = i := by omega
  rw [e, sumU, e2]
/-- how many of the first n satisfy p -/
def cntP (p : Int → Prop) [DecidablePred p] : Nat → Int
  | 0 => 0
  | n + 1 => cntP p n + (if p (n : Int) then 1 else 0)
theorem cntP_rg (p : Int → Prop) [DecidablePred p] : ∀ n : Nat, 0 ≤ cntP p n ∧ cntP p n ≤ n
  | 0 => by simp [cntP]
  | n + 1 => by
    have := cntP_rg p n
    unfold cntP
    split <;> omega
theorem cntP_s {p : Int → Prop} [DecidablePred p] {i : Int} (h : 0 ≤ i) : cntP p (i + 1).toNat = cntP p i.toNat + (if p i then 1 else 0) := by
  have e : (i + 1).toNat = i.toNat + 1 := by omega
  have e2 : ((i.toNat : Nat) : Int) = i := by omega
  rw [e, cntP, e2]
/-! ===== the reference's cells: m, and the rest ρ: 0 spare, 1 saved, 2 text, 3 read, 4 order, 5 the numbers (0 savedCount, 1 textLength, 2 at, 3 faultReason, 4 number) ===== -/
def ur (ρ : Nat → Int → Int) (i : Nat) (f : Int → Int) : Nat → Int → Int := fun j => if j = i then f else ρ j
theorem ur_eq {ρ : Nat → Int → Int} {i : Nat} {f : Int → Int} : ur ρ i f i = f := if_pos rfl
theorem ur_ne {ρ : Nat → Int → Int} {i j : Nat} {f : Int → Int} (h : j ≠ i) : ur ρ i f j = ρ j := if_neg h
section PMS
variable {G : xG} {b : Nat} {m : Int → Int} {ρ : Nat → Int → Int} {z v : Int}
theorem up_rg {f : Int → Int} (h : ∀ k, -2147483648 ≤ f k ∧ f k < 2147483648) (hv : -2147483648 ≤ v ∧ v < 2147483648) : ∀ k, -2147483648 ≤ up f z v k ∧ up f z v k < 2147483648 := by
  intro k
  unfold up
  split
  · exact hv
  · exact h k
theorem ur_rg {f : Int → Int} {i : Nat} (h : ∀ i k, -2147483648 ≤ ρ i k ∧ ρ i k < 2147483648) (hv : ∀ k, -2147483648 ≤ f k ∧ f k < 2147483648) : ∀ j k, -2147483648 ≤ ur ρ i f j k ∧ ur ρ i f j k < 2147483648 := by
  intro j k
  unfold ur
  split
  · exact hv k
  · exact h j k
theorem ur_self (ρ : Nat → Int → Int) (i : Nat) : ur ρ i (ρ i) = ρ := by
  funext j
  unfold ur
  split
  · next h => rw [h]
  · rfl
theorem ur_ur (ρ : Nat → Int → Int) (i : Nat) (f g : Int → Int) : ur (ur ρ i f) i g = ur ρ i g := by
  funext j
  unfold ur
  split <;> rfl
end PMS
-- the leaves
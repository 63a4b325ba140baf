/-! ===== the reference: a whole text, fault, recipe ===== -/
def rdL (rd : Int → Int) (l : List Int) : Prop := ∀ j : Nat, j < l.length → rd (j : Int) = l.getD j 0
theorem rdL_app {rd : Int → Int} {l : List Int} {p : Int} (h : rdL rd l) : rdL (up rd (l.length : Int) p) (l ++ [p]) := by
  intro j hj
  rw [List.length_append] at hj
  unfold up
  simp only [List.length_singleton] at hj
  rw [List.getD_eq_getElem?_getD, List.getElem?_append]
  by_cases e : j = l.length
  · subst e
    rw [if_pos rfl, if_neg (by omega), Nat.sub_self]
    rfl
  · rw [if_neg (by omega), if_pos (by omega), h j (by omega), List.getD_eq_getElem?_getD]
def o_fault (m : Int → Int) (ρ : Nat → Int → Int) (w : Int) : xO :=
  (if ¬ (0 ≤ w ∧ w ≤ 1) then -1 else if (t_all (ρ 2) (ρ 5 1)).1 = 0 then -4 else if w = 0 then (t_all (ρ 2) (ρ 5 1)).2.1 else (t_all (ρ 2) (ρ 5 1)).1, m, ρ)
def s_recipe (m : Int → Int) (r : Int) (l : List Int) : Int → Int :=
  let v := 9 * r + m (56 + r)
  let m1 := up m (62 + v) l.length
  let m2 : Int → Int := fun j => if 116 + 8 * v ≤ j ∧ j < 116 + 8 * v + l.length then l.getD (j - (116 + 8 * v)).toNat 0 else m1 j
  up m2 (56 + r) (m2 (56 + r) + 1)
def o_recipe (m : Int → Int) (ρ : Nat → Int → Int) (r : Int) : xO :=
  if ¬ (0 ≤ r ∧ r ≤ 5) then (-1, m, ρ) else if (t_all (ρ 2) (ρ 5 1)).1 ≠ 0 then (-2, m, ρ) else if m (56 + r) = 9 then (-3, m, ρ) else
  (m (56 + r) + 1, s_recipe m r (t_all (ρ 2) (ρ 5 1)).2.2, s_keep m ρ)
theorem keep_eqR {m : Int → Int} {ρ ρ' : Nat → Int → Int} (h : eqR ρ ρ') : eqR (s_keep m ρ) (s_keep m ρ') := by
  obtain ⟨h1, h2, h3, h4⟩ := h
  unfold s_keep
  rw [h3, h1]
  split
  · refine ⟨rfl, ?_, ?_, ?_⟩
    · rw [ur_ne (by decide), ur_ne (by decide), h2]
    · rw [ur_ne (by decide), ur_ne (by decide), h3]
    · rw [ur_ne (by decide), ur_ne (by decide), h4]
  · refine ⟨?_, ?_, ?_, ?_⟩
    · rw [ur_ne (show (1 : Nat) ≠ 5 by decide), ur_ne (show (1 : Nat) ≠ 5 by decide), ur_eq, ur_eq]
    · rw [ur_ne (by decide), ur_ne (by decide), ur_ne (by decide), ur_ne (by decide), h2]
    · rw [ur_eq, ur_eq, up_eq rfl, up_eq rfl]
    · rw [ur_eq, ur_eq, up_ne (by omega), up_ne (by omega), h4]
theorem keep_3 {m : Int → Int} {ρ : Nat → Int → Int} : s_keep m ρ 3 = ρ 3 := by
  unfold s_keep
  split
  · rw [ur_ne (by decide)]
  · rw [ur_ne (by decide), ur_ne (by decide)]
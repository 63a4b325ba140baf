/-! ===== the reference's work: a phase's end, a batch's tick: what they make of the memory ===== -/
theorem up_self {f : Int → Int} {k : Int} : up f k (f k) = f := by
  funext j
  unfold up
  split
  · next h => rw [h]
  · rfl
theorem up_comm {f : Int → Int} {a b u v : Int} (h : a ≠ b) : up (up f a u) b v = up (up f b v) a u := by
  funext k
  unfold up
  by_cases h1 : k = a
  · rw [if_pos h1, if_neg (by omega), if_pos h1]
  · rw [if_neg h1, if_neg h1]
/-- a phase has ended: what comes ahead of the choice -/
def s_pe (m : Int → Int) (b p : Int) : Int → Int :=
  let m1 := s_relS m b 3
  let m2 := up m1 (548 + 10 * b + 9) (fA (m (548 + 10 * b + 9)) (p / 2048 % 128))
  let m3 := up m2 (548 + 10 * b + 6) (m2 (548 + 10 * b + 6) + 1)
  s_note (up m3 (548 + 10 * b + 7) 0) b 1
def s_ends (m : Int → Int) (b p : Int) : Int → Int :=
  let m5 := s_pe m b p
  if m5 (548 + 10 * b + 6) = m5 (62 + 9 * m5 (548 + 10 * b + 0) + m5 (548 + 10 * b + 1) - 1) then s_endsBy m5 b 6 6 else if m5 (548 + 10 * b + 5) = 3 then s_endsBy m5 b 4 4 else if phB m5 b (m5 (548 + 10 * b + 6)) % 4 = p % 4 then m5 else s_relU m5 b
def s_w3 (m : Int → Int) (b p : Int) : Int → Int :=
  let m1 := if (p / 512 % 4 - 1) = -1 then m else up m (53 + (p / 512 % 4 - 1)) b
  let m2 := up m1 (548 + 10 * b + 7) (m1 (548 + 10 * b + 7) + 1)
  let m3 := up m2 (5 + 6 * m2 (548 + 10 * b + 8) + 5) (m2 (5 + 6 * m2 (548 + 10 * b + 8) + 5) + 1)
  if phB m3 b (m3 (548 + 10 * b + 6)) / 4 % 128 - m3 (548 + 10 * b + 7) = 0 then s_ends m3 b (phB m3 b (m3 (548 + 10 * b + 6))) else m3
def s_w2 (m : Int → Int) (b p : Int) : Int → Int := if ((phB m b (m (548 + 10 * b + 6)) / 512 % 4 - 1) ≠ -1 ∧ m (53 + (phB m b (m (548 + 10 * b + 6)) / 512 % 4 - 1)) ≠ -1 ∧ m (53 + (phB m b (m (548 + 10 * b + 6)) / 512 % 4 - 1)) ≠ b) then m else s_w3 m b p
def s_take (m : Int → Int) (b u : Int) : Int → Int := s_note (up (up m (548 + 10 * b + 8) u) (5 + 6 * u + 2) b) b 0
def s_work (m : Int → Int) (b : Int) : Int → Int :=
  let p := phB m b (m (548 + 10 * b + 6))
  if (m (548 + 10 * b + 6) = 0 ∧ m (548 + 10 * b + 7) = 0 ∧ m (548 + 10 * b + 4) ≠ -1 ∧ m (548 + 10 * m (548 + 10 * b + 4) + 5) ≠ 6) then m else if m (548 + 10 * b + 8) = -1 then (if s_uFor m 0 b (p % 4) = -1 then m else s_w2 (s_take m b (s_uFor m 0 b (p % 4))) b p) else s_w2 m b p
section PE
variable {m : Int → Int} {W b p : Int}
theorem pe_B (hb : 0 ≤ b ∧ b < 12) (w : Int) (hw : 0 ≤ w ∧ w < 10) : s_pe m b p (548 + 10 * b + w) = if w = 6 then m (548 + 10 * b + 6) + 1 else if w = 7 then 0 else if w = 9 then fA (m (548 + 10 * b + 9)) (p / 2048 % 128) else m (548 + 10 * b + w) := by
  have e : ∀ z, 0 ≤ z → z < 10 → s_relS m b 3 (548 + 10 * b + z) = m (548 + 10 * b + z) := fun z z0 z1 => s_relS_ne (by omega)
  unfold s_pe
  try dsimp only
  rw [s_note_ne (by omega) (by omega)]
  by_cases h6 : w = 6
  · subst h6
    rw [if_pos rfl, up_ne (by omega), up_eq rfl, up_ne (by omega), e 6 (by omega) (by omega)]
  · rw [if_neg h6]
    by_cases h7 : w = 7
    · subst h7; rw [if_pos rfl, up_eq rfl]
    · rw [if_neg h7]
      by_cases h9 : w = 9
      · subst h9
        rw [if_pos rfl, up_ne (by omega), up_ne (by omega), up_eq rfl]
      · rw [if_neg h9, up_ne (by omega), up_ne (by omega), up_ne (by omega), e w (by omega) (by omega)]
theorem pe_ne {k : Int} (hb : 0 ≤ b ∧ b < 12) (h1 : k < 53 ∨ 56 ≤ k) (h2 : k < 668 ∨ 788 ≤ k) (h4 : k ≠ 4) (h6 : k ≠ 548 + 10 * b + 6) (h7 : k ≠ 548 + 10 * b + 7) (h9 : k ≠ 548 + 10 * b + 9) : s_pe m b p k = m k := by
  unfold s_pe
  try dsimp only
  rw [s_note_ne h2 h4, up_ne h7, up_ne h6, up_ne h9, s_relS_ne (by omega)]
theorem pe_4 (hb : 0 ≤ b ∧ b < 12) (h4 : 0 ≤ m 4 ∧ m 4 ≤ 40) : 0 ≤ s_pe m b p 4 ∧ s_pe m b p 4 ≤ 40 := by
  unfold s_pe
  try dsimp only
  generalize hm : up (up (up (s_relS m b 3) (548 + 10 * b + 9) (fA (m (548 + 10 * b + 9)) (p / 2048 % 128))) (548 + 10 * b + 6) (up (s_relS m b 3) (548 + 10 * b + 9) (fA (m (548 + 10 * b + 9)) (p / 2048 % 128)) (548 + 10 * b + 6) + 1)) (548 + 10 * b + 7) 0 = M
  have e : M 4 = m 4 := by rw [← hm, up_ne (by omega), up_ne (by omega), up_ne (by omega), s_relS_ne (by omega)]
  unfold s_note
  rw [if_neg (by omega), if_pos rfl, e]
  split <;> omega
theorem pe_Iv0 (h : Iv0 m W) (b0 : 0 ≤ b) (b1 : b < m 3) (h6 : m (548 + 10 * b + 6) < lnB m b) (hy : 1 ≤ p / 2048 % 128 ∧ p / 2048 % 128 ≤ 100) : Iv0 (s_pe m b p) W := by
  have hn := h.n
  have hb := h.b b0 b1
  have hpg := h.page b0 b1
  unfold okB0 at hb
  have hf := (fA_rg (k := m (548 + 10 * b + 6)) (z := m (548 + 10 * b + 9)) (by omega) hb.2.2.2.2.2.2.2.2.2 hy).1
  have hS := h.relS (b := b)
  have e : ∀ z, 0 ≤ z → z < 10 → s_relS m b 3 (548 + 10 * b + z) = m (548 + 10 * b + z) := fun z z0 z1 => s_relS_ne (by omega)
  have e3 : s_relS m b 3 3 = m 3 := s_relS_ne (by omega)
  obtain ⟨-, el, -⟩ := page_fr (m' := s_relS m b 3) hpg.1 (e 0 (by omega) (by omega)) (e 1 (by omega) (by omega)) (fun k k0 k1 => s_relS_ne (by omega))
  have hwide : okF (m (548 + 10 * b + 6) + 1) (m (548 + 10 * b + 9)) := by
    have := hb.2.2.2.2.2.2.2.2.2
    unfold okF at this ⊢
    omega
  have h1 := hS.okx (w := 6) (v := m (548 + 10 * b + 6) + 1) b0 (by omega) (by omega) (by omega) (by omega) (fun _ => ⟨by omega, by omega, by rw [e 9 (by omega) (by omega)]; exact hwide⟩) (by omega) (by omega) (by omega)
  have h2 := h1.okx (w := 9) (v := fA (m (548 + 10 * b + 9)) (p / 2048 % 128)) b0 (by rw [up_ne (by omega)]; omega) (by omega) (by omega) (by omega) (by omega) (by omega) (by omega) (fun _ => by rw [up_eq rfl]; exact hf)
  have h3 := h2.okx (w := 7) (v := 0) b0 (by rw [up_ne (by omega), up_ne (by omega)]; omega) (by omega) (by omega) (by omega) (by omega) (by omega) (by omega) (by omega)
  have h4 := h3.note (b := b) (w := 1)
  unfold s_pe
  try dsimp only
  rw [up_ne (f := s_relS m b 3) (by omega), e 6 (by omega) (by omega), up_comm (f := s_relS m b 3) (by omega)]
  exact h4
theorem ends_Iv0 (h : Iv0 m W) (b0 : 0 ≤ b) (b1 : b < m 3) (h6 : m (548 + 10 * b + 6) < lnB m b) (hy : 1 ≤ p / 2048 % 128 ∧ p / 2048 % 128 ≤ 100) : Iv0 (s_ends m b p) W := by
  have hn := h.n
  have h5 := pe_Iv0 h b0 b1 h6 hy
  have e3 : s_pe m b p 3 = m 3 := pe_ne (by omega) (by omega) (by omega) (by omega) (by omega) (by omega) (by omega)
  have by_ : ∀ st w, 0 ≤ st → st ≤ 6 → Iv0 (s_endsBy (s_pe m b p) b st w) W := fun st w q0 q1 => by
    have g1 := h5.relS (b := b)
    have f3 : s_relS (s_pe m b p) b 3 3 = m 3 := by rw [s_relS_ne (by omega), e3]
    have g2 := g1.relU b0 (by omega)
    have f4 : s_relU (s_relS (s_pe m b p) b 3) b 3 = m 3 := by
      have := g1.b b0 (by omega)
      have hn1 := g1.n
      unfold okB0 at this
      simp only [s_relU]
      split
      · exact f3
      · rw [up_ne (by omega), up_ne (by omega), up_ne (by omega), f3]
    have g3 := g2.okx (w := 5) (v := st) b0 (by omega) (by omega) (by omega) (fun _ => ⟨q0, q1⟩) (by omega) (by omega) (by omega) (by omega)
    exact g3.note
  unfold s_ends
  try dsimp only
  split
  · exact by_ 6 6 (by omega) (by omega)
  · split
    · exact by_ 4 4 (by omega) (by omega)
    · split
      · exact h5
      · exact h5.relU b0 (by omega)
/-- what the end of a phase leaves as it is -/
theorem ends_ne {k : Int} (hb : 0 ≤ b ∧ b < 12) (hu : -1 ≤ m (548 + 10 * b + 8) ∧ m (548 + 10 * b + 8) < 8) (h1 : k < 4 ∨ 56 ≤ k) (h2 : k < 668 ∨ 788 ≤ k) (h5 : k < 548 + 10 * b + 5 ∨ 548 + 10 * b + 10 ≤ k) : s_ends m b p k = m k := by
  have e : s_pe m b p k = m k := pe_ne hb (by omega) h2 (by omega) (by omega) (by omega) (by omega)
  have e8 := pe_B (m := m) (p := p) hb 8 (by omega)
  simp only [show (8 : Int) ≠ 6 by decide, show (8 : Int) ≠ 7 by decide, show (8 : Int) ≠ 9 by decide, if_false] at e8
  unfold s_ends
  try dsimp only
  split
  · rw [s_endsBy_ne hb (by omega) (by omega) h2 (by omega) (by omega), e]
  · split
    · rw [s_endsBy_ne hb (by omega) (by omega) h2 (by omega) (by omega), e]
    · split
      · exact e
      · simp only [s_relU]
        split
        · exact e
        · rw [up_ne (by omega), up_ne (by omega), up_ne (by omega), e]
theorem ends_B (hb : 0 ≤ b ∧ b < 12) (hu : -1 ≤ m (548 + 10 * b + 8) ∧ m (548 + 10 * b + 8) < 8) : s_ends m b p (548 + 10 * b + 6) = m (548 + 10 * b + 6) + 1 ∧ s_ends m b p (548 + 10 * b + 7) = 0 := by
  have e6 := pe_B (m := m) (p := p) hb 6 (by omega)
  have e7 := pe_B (m := m) (p := p) hb 7 (by omega)
  have e8 := pe_B (m := m) (p := p) hb 8 (by omega)
  simp only [show (8 : Int) ≠ 6 by decide, show (8 : Int) ≠ 7 by decide, show (8 : Int) ≠ 9 by decide, show (7 : Int) ≠ 6 by decide, if_false, if_true] at e6 e7 e8
  unfold s_ends
  try dsimp only
  split
  · rw [s_endsBy_ne hb (by omega) (by omega) (by omega) (by omega) (by omega), s_endsBy_ne hb (by omega) (by omega) (by omega) (by omega) (by omega)]
    exact ⟨e6, e7⟩
  · split
    · rw [s_endsBy_ne hb (by omega) (by omega) (by omega) (by omega) (by omega), s_endsBy_ne hb (by omega) (by omega) (by omega) (by omega) (by omega)]
      exact ⟨e6, e7⟩
    · split
      · exact ⟨e6, e7⟩
      · simp only [s_relU]
        split
        · exact ⟨e6, e7⟩
        · rw [up_ne (by omega), up_ne (by omega), up_ne (by omega), up_ne (by omega), up_ne (by omega), up_ne (by omega)]
          exact ⟨e6, e7⟩
/-- the state behind a phase's end: complete exactly behind the last one -/
theorem ends_5 (hb : 0 ≤ b ∧ b < 12) (hp : 0 ≤ pgB m b ∧ pgB m b < 54) (hu : -1 ≤ m (548 + 10 * b + 8) ∧ m (548 + 10 * b + 8) < 8) : s_ends m b p (548 + 10 * b + 5) = if m (548 + 10 * b + 6) + 1 = lnB m b then 6 else if m (548 + 10 * b + 5) = 3 then 4 else m (548 + 10 * b + 5) := by
  have f := pe_B (m := m) (p := p) hb
  have e0 := f 0 (by omega)
  have e1 := f 1 (by omega)
  have e5 := f 5 (by omega)
  have e6 := f 6 (by omega)
  have e8 := f 8 (by omega)
  simp only [show (8 : Int) ≠ 6 by decide, show (8 : Int) ≠ 7 by decide, show (8 : Int) ≠ 9 by decide, show (5 : Int) ≠ 6 by decide, show (5 : Int) ≠ 7 by decide, show (5 : Int) ≠ 9 by decide, show (0 : Int) ≠ 6 by decide, show (0 : Int) ≠ 7 by decide, show (0 : Int) ≠ 9 by decide, show (1 : Int) ≠ 6 by decide, show (1 : Int) ≠ 7 by decide, show (1 : Int) ≠ 9 by decide, if_false, if_true] at e0 e1 e5 e6 e8
  have ev : pgB m b = 9 * m (548 + 10 * b + 0) + m (548 + 10 * b + 1) - 1 := rfl
  have el : s_pe m b p (62 + 9 * (s_pe m b p) (548 + 10 * b + 0) + (s_pe m b p) (548 + 10 * b + 1) - 1) = lnB m b := by
    rw [e0, e1, pe_ne hb (by omega) (by omega) (by omega) (by omega) (by omega) (by omega)]
    unfold lnB
    rw [ev]
    congr 1
    omega
  unfold s_ends
  try dsimp only
  rw [el, e6, e5]
  split
  · exact s_endsBy_st hb
  · split
    · exact s_endsBy_st hb
    · split
      · exact e5
      · simp only [s_relU]
        split
        · exact e5
        · rw [up_ne (by omega), up_ne (by omega), up_ne (by omega), e5]
end PE

/-! ===== the reference's calls that let no time go by: each answer, and the memory behind it ===== -/
abbrev xO : Type := Int × (Int → Int) × (Nat → Int → Int)
def s_unit (m : Int → Int) (kind cap : Int) : Int → Int :=
  let u := m 2
  up (up (up (up (up (up (up m 2 (m 2 + 1)) (5 + 6 * u + 0) kind) (5 + 6 * u + 1) cap) (5 + 6 * u + 2) (-1)) (5 + 6 * u + 3) 0) (5 + 6 * u + 4) 0) (5 + 6 * u + 5) 0
def o_unit (m : Int → Int) (ρ : Nat → Int → Int) (kind cap : Int) : xO :=
  if ¬ ((0 ≤ kind ∧ kind ≤ 3) ∧ (1 ≤ cap ∧ cap ≤ 10000)) then (-1, m, ρ) else if m 2 = 8 then (-3, m, ρ) else (m 2, s_unit m kind cap, s_keep m ρ)
def o_fail (m : Int → Int) (ρ : Nat → Int → Int) (u : Int) : xO :=
  if ¬ (0 ≤ u ∧ u ≤ m 2 - 1) then (-1, m, ρ) else if m (5 + 6 * u + 3) = 1 then (-2, m, ρ) else
  let m1 := up m (5 + 6 * u + 3) 1
  let x := m (5 + 6 * u + 2)
  if x = -1 ∨ ¬ (m (548 + 10 * x + 5) = 1 ∨ m (548 + 10 * x + 5) = 3) then (-4, m1, s_keep m ρ) else (x, s_holds m1 x, s_keep m ρ)
def o_repair (m : Int → Int) (ρ : Nat → Int → Int) (u : Int) : xO :=
  if ¬ (0 ≤ u ∧ u ≤ m 2 - 1) then (-1, m, ρ) else if m (5 + 6 * u + 3) = 0 then (-2, m, ρ) else
  let m1 := up m (5 + 6 * u + 3) 0
  (sumU m1 3 (m1 2).toNat, m1, s_keep m ρ)
theorem sumU_3 {m : Int → Int} (h : ∀ u, 0 ≤ u → u < m 2 → 0 ≤ m (5 + 6 * u + 3) ∧ m (5 + 6 * u + 3) ≤ 1) : ∀ n : Nat, (n : Int) ≤ m 2 → 0 ≤ sumU m 3 n ∧ sumU m 3 n ≤ n
  | 0, _ => by simp [sumU]
  | n + 1, hn => by
    have h1 := sumU_3 h n (by omega)
    have h2 := h n (by omega) (by omega)
    unfold sumU
    omega
def o_unitInfo (m : Int → Int) (ρ : Nat → Int → Int) (u w : Int) : xO :=
  if ¬ ((0 ≤ u ∧ u ≤ m 2 - 1) ∧ (0 ≤ w ∧ w ≤ 6)) then (-1, m, ρ) else if w = 2 ∧ m (5 + 6 * u + 2) = -1 then (-4, m, ρ) else if w < 6 then (m (5 + 6 * u + w), m, ρ) else (if m (5 + 6 * u + 2) = -1 ∧ m (5 + 6 * u + 3) = 0 ∧ m (5 + 6 * u + 4) = 0 then 1 else 0, m, ρ)
def o_shared (m : Int → Int) (ρ : Nat → Int → Int) (k : Int) : xO :=
  if ¬ (0 ≤ k ∧ k ≤ 2) then (-1, m, ρ) else if m (53 + k) = -1 then (-4, m, ρ) else (m (53 + k), m, ρ)
def o_setCleaning (m : Int → Int) (ρ : Nat → Int → Int) (t : Int) : xO :=
  if ¬ (0 ≤ t ∧ t ≤ 30) then (-1, m, ρ) else (m 0, up m 0 t, s_keep m ρ)
def o_versions (m : Int → Int) (ρ : Nat → Int → Int) (r : Int) : xO := if 0 ≤ r ∧ r ≤ 5 then (m (56 + r), m, ρ) else (-1, m, ρ)
/-- a part of a packed phase, as 'phase' answers it -/
def prt (p w : Int) : Int := if w = 0 then p % 4 else if w = 1 then p / 4 % 128 else if w = 2 then (if p / 512 % 4 - 1 = -1 then -4 else p / 512 % 4 - 1) else if w = 3 then p / 2048 % 128 else p / 262144 % 2
def o_phase (m : Int → Int) (ρ : Nat → Int → Int) (r v k w : Int) : xO :=
  if ¬ ((0 ≤ r ∧ r ≤ 5) ∧ (1 ≤ v ∧ v ≤ m (56 + r)) ∧ 0 ≤ k ∧ (0 ≤ w ∧ w ≤ 4)) then (-1, m, ρ) else if k < m (62 + 9 * r + v - 1) then (prt (m (116 + 8 * (9 * r + v - 1) + k)) w, m, ρ) else (-4, m, ρ)
def o_start (m : Int → Int) (ρ : Nat → Int → Int) (b : Int) : xO :=
  if ¬ (0 ≤ b ∧ b ≤ m 3 - 1) then (-1, m, ρ) else if m (548 + 10 * b + 5) ≠ 0 then (-2, m, ρ) else
  let m1 := up m (548 + 10 * b + 5) 1
  (cntB m1 1 (m1 3).toNat, m1, s_keep m ρ)
def o_hold (m : Int → Int) (ρ : Nat → Int → Int) (b : Int) : xO :=
  if ¬ (0 ≤ b ∧ b ≤ m 3 - 1) then (-1, m, ρ) else if ¬ (m (548 + 10 * b + 5) = 1 ∨ m (548 + 10 * b + 5) = 3) then (-2, m, ρ) else
  let m1 := s_holds m b
  (cntB m1 2 (m1 3).toNat, m1, s_keep m ρ)
theorem s_note_ne {m : Int → Int} {b w k : Int} (h : k < 668 ∨ 788 ≤ k) (h4 : k ≠ 4) : s_note m b w k = m k := by
  unfold s_note
  rw [if_neg (by omega), if_neg h4]
theorem s_holds_ne {m : Int → Int} {b k : Int} (hb : 0 ≤ b) (h : k < 53 ∨ 56 ≤ k) (h2 : k < 668 ∨ 788 ≤ k) (h4 : k ≠ 4) (h5 : k ≠ 548 + 10 * b + 5) : s_holds m b k = m k := by
  unfold s_holds
  rw [s_note_ne h2 h4, up_ne h5, s_relS_ne (by omega)]
def s_restart (m : Int → Int) (b : Int) : Int → Int :=
  let m1 := up m (548 + 10 * b + 5) 1
  s_note (up m1 (548 + 10 * b + 7) (if phB m1 b (m1 (548 + 10 * b + 6)) / 262144 % 2 = 1 then 0 else m1 (548 + 10 * b + 7))) b 3
def o_restart (m : Int → Int) (ρ : Nat → Int → Int) (b : Int) : xO :=
  if ¬ (0 ≤ b ∧ b ≤ m 3 - 1) then (-1, m, ρ) else
  let u := m (548 + 10 * b + 8)
  if m (548 + 10 * b + 5) ≠ 2 ∨ (u ≠ -1 ∧ m (5 + 6 * u + 3) = 1) then (-2, m, ρ) else
  let m1 := s_restart m b
  (phB m1 b (m1 (548 + 10 * b + 6)) / 4 % 128 - m1 (548 + 10 * b + 7), m1, s_keep m ρ)
def o_priority (m : Int → Int) (ρ : Nat → Int → Int) (b v : Int) : xO :=
  if ¬ ((0 ≤ b ∧ b ≤ m 3 - 1) ∧ (0 ≤ v ∧ v ≤ 9)) then (-1, m, ρ) else (m (548 + 10 * b + 3), up m (548 + 10 * b + 3) v, s_keep m ρ)
def o_event (m : Int → Int) (ρ : Nat → Int → Int) (i w : Int) : xO :=
  if ¬ (0 ≤ i ∧ (0 ≤ w ∧ w ≤ 2)) then (-1, m, ρ) else if i < m 4 then (m (668 + 3 * i + w), m, ρ) else (-4, m, ρ)
-- how the parts of a batch fare when other cells change
theorem pgB_eq {m m' : Int → Int} {b : Int} (h0 : m' (548 + 10 * b + 0) = m (548 + 10 * b + 0)) (h1 : m' (548 + 10 * b + 1) = m (548 + 10 * b + 1)) : pgB m' b = pgB m b := by
  unfold pgB
  rw [h0, h1]
theorem okB_pg {m : Int → Int} {W b : Int} (h : Iv m W) (h0 : 0 ≤ b) (h1 : b < m 3) : 0 ≤ pgB m b ∧ pgB m b < 54 ∧ okV m (pgB m b) := by
  have hb := h.b h0 h1
  unfold okB at hb
  have hv := h.vs (r := m (548 + 10 * b + 0)) (by omega) (by omega)
  have hp := h.pg (r := m (548 + 10 * b + 0)) (v := m (548 + 10 * b + 1)) (by omega) (by omega) (by omega) (by omega)
  unfold pgB
  exact ⟨by omega, by omega, hp⟩
theorem okB_ph {m : Int → Int} {W b k : Int} (h : Iv m W) (h0 : 0 ≤ b) (h1 : b < m 3) (h2 : 0 ≤ k) (h3 : k < lnB m b) : okP (phB m b k) := by
  obtain ⟨g1, g2, g3⟩ := okB_pg h h0 h1
  exact g3.2 k h2 h3
theorem lnB_rg {m : Int → Int} {W b : Int} (h : Iv m W) (h0 : 0 ≤ b) (h1 : b < m 3) : 1 ≤ lnB m b ∧ lnB m b ≤ 8 := (okB_pg h h0 h1).2.2.1
theorem phB_up {m : Int → Int} {b k p v : Int} (h : 548 ≤ p) (hp : p ≠ 548 + 10 * b + 0) (hp1 : p ≠ 548 + 10 * b + 1) (hg : 0 ≤ pgB m b ∧ pgB m b < 54) (hk : 0 ≤ k ∧ k < 8) : phB (up m p v) b k = phB m b k := by
  unfold phB
  rw [pgB_eq (m := m) (up_ne (by omega)) (up_ne (by omega)), up_ne (by omega)]
theorem phB_note {m : Int → Int} {b k x w : Int} (hb : 0 ≤ b ∧ b < 12) (hg : 0 ≤ pgB m b ∧ pgB m b < 54) (hk : 0 ≤ k ∧ k < 8) : phB (s_note m x w) b k = phB m b k := by
  unfold phB
  rw [pgB_eq (m := m) (s_note_ne (by omega) (by omega)) (s_note_ne (by omega) (by omega)), s_note_ne (by omega) (by omega)]
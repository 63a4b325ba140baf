/-! ===== what the reference's memory holds between two calls ===== -/
/-- a packed phase -/
def okP (p : Int) : Prop := 0 ≤ p ∧ p < 524288 ∧ 1 ≤ p / 4 % 128 ∧ p / 4 % 128 ≤ 99 ∧ 1 ≤ p / 2048 % 128 ∧ p / 2048 % 128 ≤ 100
/-- the bits of an amount behind k phases -/
def okF (k z : Int) : Prop := 1065353216 - 58720256 * k ≤ z ∧ z ≤ 1176256512 + 8388608 * k
def okU (m : Int → Int) (W u : Int) : Prop :=
  (0 ≤ m (5 + 6 * u + 0) ∧ m (5 + 6 * u + 0) ≤ 3) ∧ (1 ≤ m (5 + 6 * u + 1) ∧ m (5 + 6 * u + 1) ≤ 10000) ∧ (-1 ≤ m (5 + 6 * u + 2) ∧ m (5 + 6 * u + 2) < m 3) ∧ (0 ≤ m (5 + 6 * u + 3) ∧ m (5 + 6 * u + 3) ≤ 1) ∧ (0 ≤ m (5 + 6 * u + 4) ∧ m (5 + 6 * u + 4) ≤ 30) ∧ (0 ≤ m (5 + 6 * u + 5) ∧ m (5 + 6 * u + 5) ≤ W)
/-- the page of a batch's version; how many phases it has; its phase k -/
def pgB (m : Int → Int) (b : Int) : Int := 9 * m (548 + 10 * b + 0) + m (548 + 10 * b + 1) - 1
def lnB (m : Int → Int) (b : Int) : Int := m (62 + pgB m b)
def phB (m : Int → Int) (b k : Int) : Int := m (116 + 8 * pgB m b + k)
def okB (m : Int → Int) (b : Int) : Prop :=
  (0 ≤ m (548 + 10 * b + 0) ∧ m (548 + 10 * b + 0) < 6) ∧ (1 ≤ m (548 + 10 * b + 1) ∧ m (548 + 10 * b + 1) ≤ m (56 + m (548 + 10 * b + 0))) ∧ (1 ≤ m (548 + 10 * b + 2) ∧ m (548 + 10 * b + 2) ≤ 10000) ∧ (0 ≤ m (548 + 10 * b + 3) ∧ m (548 + 10 * b + 3) ≤ 9) ∧ (-1 ≤ m (548 + 10 * b + 4) ∧ m (548 + 10 * b + 4) < b) ∧
  (0 ≤ m (548 + 10 * b + 5) ∧ m (548 + 10 * b + 5) ≤ 6) ∧ (0 ≤ m (548 + 10 * b + 6) ∧ m (548 + 10 * b + 6) ≤ lnB m b ∧ (m (548 + 10 * b + 5) ≠ 6 → m (548 + 10 * b + 6) < lnB m b)) ∧ (0 ≤ m (548 + 10 * b + 7) ∧ m (548 + 10 * b + 7) < 99 ∧ (m (548 + 10 * b + 5) ≠ 6 → m (548 + 10 * b + 7) < phB m b (m (548 + 10 * b + 6)) / 4 % 128)) ∧ (-1 ≤ m (548 + 10 * b + 8) ∧ m (548 + 10 * b + 8) < m 2) ∧ okF (m (548 + 10 * b + 6)) (m (548 + 10 * b + 9)) ∧
  (m (548 + 10 * b + 4) ≠ -1 → m (548 + 10 * m (548 + 10 * b + 4) + 5) = 5 → 4 ≤ m (548 + 10 * b + 5))
def okV (m : Int → Int) (g : Int) : Prop := (1 ≤ m (62 + g) ∧ m (62 + g) ≤ 8) ∧ ∀ k, 0 ≤ k → k < m (62 + g) → okP (m (116 + 8 * g + k))
/-- W: what a unit may have worked -/
def Iv (m : Int → Int) (W : Int) : Prop :=
  (0 ≤ m 0 ∧ m 0 ≤ 30) ∧ (0 ≤ m 1 ∧ m 1 ≤ 60000) ∧ (0 ≤ m 2 ∧ m 2 ≤ 8) ∧ (0 ≤ m 3 ∧ m 3 ≤ 12) ∧ (0 ≤ m 4 ∧ m 4 ≤ 40) ∧ (∀ u, 0 ≤ u → u < m 2 → okU m W u) ∧ (∀ k, 0 ≤ k → k < 3 → -1 ≤ m (53 + k) ∧ m (53 + k) < m 3) ∧ (∀ r, 0 ≤ r → r < 6 → 0 ≤ m (56 + r) ∧ m (56 + r) ≤ 9) ∧
  (∀ r v, 0 ≤ r → r < 6 → 1 ≤ v → v ≤ m (56 + r) → okV m (9 * r + v - 1)) ∧ ∀ b, 0 ≤ b → b < m 3 → okB m b
/-- the history's count, the text's length -/
def Ir (ρ : Nat → Int → Int) : Prop := (0 ≤ ρ 5 0 ∧ ρ 5 0 ≤ 4) ∧ (0 ≤ ρ 5 1 ∧ ρ 5 1 ≤ 100)
section IVS
variable {m : Int → Int} {W : Int}
theorem Iv.n (h : Iv m W) : (0 ≤ m 0 ∧ m 0 ≤ 30) ∧ (0 ≤ m 1 ∧ m 1 ≤ 60000) ∧ (0 ≤ m 2 ∧ m 2 ≤ 8) ∧ (0 ≤ m 3 ∧ m 3 ≤ 12) ∧ (0 ≤ m 4 ∧ m 4 ≤ 40) := ⟨h.1, h.2.1, h.2.2.1, h.2.2.2.1, h.2.2.2.2.1⟩
theorem Iv.u (h : Iv m W) {u : Int} (h0 : 0 ≤ u) (h1 : u < m 2) : okU m W u := h.2.2.2.2.2.1 u h0 h1
theorem Iv.sh (h : Iv m W) {k : Int} (h0 : 0 ≤ k) (h1 : k < 3) : -1 ≤ m (53 + k) ∧ m (53 + k) < m 3 := h.2.2.2.2.2.2.1 k h0 h1
theorem Iv.vs (h : Iv m W) {r : Int} (h0 : 0 ≤ r) (h1 : r < 6) : 0 ≤ m (56 + r) ∧ m (56 + r) ≤ 9 := h.2.2.2.2.2.2.2.1 r h0 h1
theorem Iv.pg (h : Iv m W) {r v : Int} (h0 : 0 ≤ r) (h1 : r < 6) (h2 : 1 ≤ v) (h3 : v ≤ m (56 + r)) : okV m (9 * r + v - 1) := h.2.2.2.2.2.2.2.2.1 r v h0 h1 h2 h3
theorem Iv.b (h : Iv m W) {b : Int} (h0 : 0 ≤ b) (h1 : b < m 3) : okB m b := h.2.2.2.2.2.2.2.2.2 b h0 h1
theorem sumU_rg (h : Iv m W) (w : Int) (hw : w = 3 ∨ w = 5) : ∀ n : Nat, (n : Int) ≤ m 2 → 0 ≤ sumU m w n ∧ (w = 3 → sumU m w n ≤ n) ∧ (w = 5 → sumU m w n ≤ W * n)
  | 0, _ => by simp [sumU]
  | n + 1, hn => by
    have h1 := sumU_rg h w hw n (by omega)
    have h2 := h.u (u := n) (by omega) (by omega)
    unfold okU at h2
    unfold sumU
    have e : W * ((n + 1 : Nat) : Int) = W * n + W := by
      rw [show ((n + 1 : Nat) : Int) = (n : Int) + 1 from rfl, Int.mul_add, Int.mul_one]
    rw [e]
    rcases hw with hw | hw
    · subst hw; omega
    · subst hw; omega
end IVS
-- the parts of a packed phase
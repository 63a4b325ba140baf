/-! ===== the reference's cells: m, and the rest ρ: 0 spare, 1 saved, 2 text, 3 read, 4 order, 5 the numbers (0 savedCount, 1 textLength, 2 at, 3 faultReason, 4 number) ===== -/
def ur (ρ : Nat → Int → Int) (i : Nat) (f : Int → Int) : Nat → Int → Int := fun j => if j = i then f else ρ j
theorem ur_eq {ρ : Nat → Int → Int} {i : Nat} {f : Int → Int} : ur ρ i f i = f := if_pos rfl
theorem ur_ne {ρ : Nat → Int → Int} {i j : Nat} {f : Int → Int} (h : j ≠ i) : ur ρ i f j = ρ j := if_neg h
def PM (G : xG) (b : Nat) (m : Int → Int) (ρ : Nat → Int → Int) (H : Heap) : Prop :=
  oat G b 7 [.ref (b + 1), .ref (b + 2), .ref (b + 3), vi (ρ 5 0), .ref (b + 4), vi (ρ 5 1), vi (ρ 5 2), vi (ρ 5 3), vi (ρ 5 4), .ref (b + 5), .ref (b + 6)] H ∧ aat G 0 (b + 1) 788 m H ∧ aat G 0 (b + 2) 788 (ρ 0) H ∧ aat G 0 (b + 3) 3152 (ρ 1) H ∧ aat G 0 (b + 4) 100 (ρ 2) H ∧ aat G 0 (b + 5) 8 (ρ 3) H ∧ aat G 0 (b + 6) 12 (ρ 4) H ∧
  (∀ k, -2147483648 ≤ m k ∧ m k < 2147483648) ∧ ∀ i k, -2147483648 ≤ ρ i k ∧ ρ i k < 2147483648
def AM (b : Nat) : Nat → Prop := fun q => b ≤ q ∧ q < b + 7
section PMS
variable {G : xG} {b : Nat} {m : Int → Int} {ρ : Nat → Int → Int} {z v : Int}
theorem PM.o {H : Heap} (h : PM G b m ρ H) : oat G b 7 [.ref (b + 1), .ref (b + 2), .ref (b + 3), vi (ρ 5 0), .ref (b + 4), vi (ρ 5 1), vi (ρ 5 2), vi (ρ 5 3), vi (ρ 5 4), .ref (b + 5), .ref (b + 6)] H := h.1
theorem PM.rv : ∀ H, PM G b m ρ H → ∃ fs, oat G b 7 fs H := fun _ h => ⟨_, h.1⟩
theorem PM.am : ∀ H, PM G b m ρ H → aat G 0 (b + 1) 788 m H ∧ ∀ k, -2147483648 ≤ m k ∧ m k < 2147483648 := fun _ h => ⟨h.2.1, h.2.2.2.2.2.2.2.1⟩
theorem PM.kept {H H1 : Heap} (h : PM G b m ρ H) (hq : ∀ q : Nat, b ≤ q → q < b + 7 → H1[q]? = H[q]?) : PM G b m ρ H1 := by
  obtain ⟨h0, h1, h2, h3, h4, h5, h6, h7⟩ := h
  exact ⟨h0.kept (hq _ (by omega) (by omega)), h1.kept (hq _ (by omega) (by omega)), h2.kept (hq _ (by omega) (by omega)), h3.kept (hq _ (by omega) (by omega)), h4.kept (hq _ (by omega) (by omega)), h5.kept (hq _ (by omega) (by omega)), h6.kept (hq _ (by omega) (by omega)), h7⟩
theorem up_rg {f : Int → Int} (h : ∀ k, -2147483648 ≤ f k ∧ f k < 2147483648) (hv : -2147483648 ≤ v ∧ v < 2147483648) : ∀ k, -2147483648 ≤ up f z v k ∧ up f z v k < 2147483648 := by
  intro k
  unfold up
  split
  · exact hv
  · exact h k
theorem ur_rg {f : Int → Int} {i : Nat} (h : ∀ i k, -2147483648 ≤ ρ i k ∧ ρ i k < 2147483648) (hv : ∀ k, -2147483648 ≤ f k ∧ f k < 2147483648) : ∀ j k, -2147483648 ≤ ur ρ i f j k ∧ ur ρ i f j k < 2147483648 := by
  intro j k
  unfold ur
  split
  · exact hv k
  · exact h j k
theorem PM.a0 : ∀ H, PM G b m ρ H → aat G 0 (b + 2) 788 (ρ 0) H ∧ ∀ k, -2147483648 ≤ ρ 0 k ∧ ρ 0 k < 2147483648 := fun _ h => ⟨h.2.2.1, h.2.2.2.2.2.2.2.2 0⟩
theorem PM.a1 : ∀ H, PM G b m ρ H → aat G 0 (b + 3) 3152 (ρ 1) H ∧ ∀ k, -2147483648 ≤ ρ 1 k ∧ ρ 1 k < 2147483648 := fun _ h => ⟨h.2.2.2.1, h.2.2.2.2.2.2.2.2 1⟩
theorem PM.a2 : ∀ H, PM G b m ρ H → aat G 0 (b + 4) 100 (ρ 2) H ∧ ∀ k, -2147483648 ≤ ρ 2 k ∧ ρ 2 k < 2147483648 := fun _ h => ⟨h.2.2.2.2.1, h.2.2.2.2.2.2.2.2 2⟩
theorem PM.a3 : ∀ H, PM G b m ρ H → aat G 0 (b + 5) 8 (ρ 3) H ∧ ∀ k, -2147483648 ≤ ρ 3 k ∧ ρ 3 k < 2147483648 := fun _ h => ⟨h.2.2.2.2.2.1, h.2.2.2.2.2.2.2.2 3⟩
theorem PM.a4 : ∀ H, PM G b m ρ H → aat G 0 (b + 6) 12 (ρ 4) H ∧ ∀ k, -2147483648 ≤ ρ 4 k ∧ ρ 4 k < 2147483648 := fun _ h => ⟨h.2.2.2.2.2.2.1, h.2.2.2.2.2.2.2.2 4⟩
theorem PM.g3 : ∀ H, PM G b m ρ H → ∃ fs, oat G b 7 fs H ∧ fs[3]? = some (vi (ρ 5 0)) ∧ (-2147483648 ≤ ρ 5 0 ∧ ρ 5 0 < 2147483648) := fun _ h => ⟨_, h.1, rfl, h.2.2.2.2.2.2.2.2 5 0⟩
theorem PM.g5 : ∀ H, PM G b m ρ H → ∃ fs, oat G b 7 fs H ∧ fs[5]? = some (vi (ρ 5 1)) ∧ (-2147483648 ≤ ρ 5 1 ∧ ρ 5 1 < 2147483648) := fun _ h => ⟨_, h.1, rfl, h.2.2.2.2.2.2.2.2 5 1⟩
theorem PM.g6 : ∀ H, PM G b m ρ H → ∃ fs, oat G b 7 fs H ∧ fs[6]? = some (vi (ρ 5 2)) ∧ (-2147483648 ≤ ρ 5 2 ∧ ρ 5 2 < 2147483648) := fun _ h => ⟨_, h.1, rfl, h.2.2.2.2.2.2.2.2 5 2⟩
theorem PM.g7 : ∀ H, PM G b m ρ H → ∃ fs, oat G b 7 fs H ∧ fs[7]? = some (vi (ρ 5 3)) ∧ (-2147483648 ≤ ρ 5 3 ∧ ρ 5 3 < 2147483648) := fun _ h => ⟨_, h.1, rfl, h.2.2.2.2.2.2.2.2 5 3⟩
theorem PM.g8 : ∀ H, PM G b m ρ H → ∃ fs, oat G b 7 fs H ∧ fs[8]? = some (vi (ρ 5 4)) ∧ (-2147483648 ≤ ρ 5 4 ∧ ρ 5 4 < 2147483648) := fun _ h => ⟨_, h.1, rfl, h.2.2.2.2.2.2.2.2 5 4⟩
theorem PM.sm (hv : -2147483648 ≤ v ∧ v < 2147483648) : ∀ H, PM G b m ρ H → aat G 0 (b + 1) 788 m H ∧ ∀ H1, aat G 0 (b + 1) 788 (up m z v) H1 → H1.size = H.size → (∀ q, q ≠ b + 1 → H1[q]? = H[q]?) → PM G b (up m z v) ρ H1 := by
  intro H ⟨h0, h1, h2, h3, h4, h5, h6, h7, h8⟩
  refine ⟨h1, fun H1 e _ hq => ⟨h0.kept (hq _ (by omega)), e, h2.kept (hq _ (by omega)), h3.kept (hq _ (by omega)), h4.kept (hq _ (by omega)), h5.kept (hq _ (by omega)), h6.kept (hq _ (by omega)), up_rg h7 hv, h8⟩⟩
theorem PM.s0 (hv : -2147483648 ≤ v ∧ v < 2147483648) : ∀ H, PM G b m ρ H → aat G 0 (b + 2) 788 (ρ 0) H ∧ ∀ H1, aat G 0 (b + 2) 788 (up (ρ 0) z v) H1 → H1.size = H.size → (∀ q, q ≠ b + 2 → H1[q]? = H[q]?) → PM G b m (ur ρ 0 (up (ρ 0) z v)) H1 := by
  intro H ⟨h0, h1, h2, h3, h4, h5, h6, h7, h8⟩
  exact ⟨h2, fun H1 e _ hq => ⟨h0.kept (hq _ (by omega)), h1.kept (hq _ (by omega)), e, h3.kept (hq _ (by omega)), h4.kept (hq _ (by omega)), h5.kept (hq _ (by omega)), h6.kept (hq _ (by omega)), h7, ur_rg h8 (up_rg (h8 0) hv)⟩⟩
theorem PM.s1 (hv : -2147483648 ≤ v ∧ v < 2147483648) : ∀ H, PM G b m ρ H → aat G 0 (b + 3) 3152 (ρ 1) H ∧ ∀ H1, aat G 0 (b + 3) 3152 (up (ρ 1) z v) H1 → H1.size = H.size → (∀ q, q ≠ b + 3 → H1[q]? = H[q]?) → PM G b m (ur ρ 1 (up (ρ 1) z v)) H1 := by
  intro H ⟨h0, h1, h2, h3, h4, h5, h6, h7, h8⟩
  exact ⟨h3, fun H1 e _ hq => ⟨h0.kept (hq _ (by omega)), h1.kept (hq _ (by omega)), h2.kept (hq _ (by omega)), e, h4.kept (hq _ (by omega)), h5.kept (hq _ (by omega)), h6.kept (hq _ (by omega)), h7, ur_rg h8 (up_rg (h8 1) hv)⟩⟩
theorem PM.s2 (hv : -2147483648 ≤ v ∧ v < 2147483648) : ∀ H, PM G b m ρ H → aat G 0 (b + 4) 100 (ρ 2) H ∧ ∀ H1, aat G 0 (b + 4) 100 (up (ρ 2) z v) H1 → H1.size = H.size → (∀ q, q ≠ b + 4 → H1[q]? = H[q]?) → PM G b m (ur ρ 2 (up (ρ 2) z v)) H1 := by
  intro H ⟨h0, h1, h2, h3, h4, h5, h6, h7, h8⟩
  exact ⟨h4, fun H1 e _ hq => ⟨h0.kept (hq _ (by omega)), h1.kept (hq _ (by omega)), h2.kept (hq _ (by omega)), h3.kept (hq _ (by omega)), e, h5.kept (hq _ (by omega)), h6.kept (hq _ (by omega)), h7, ur_rg h8 (up_rg (h8 2) hv)⟩⟩
theorem PM.s3 (hv : -2147483648 ≤ v ∧ v < 2147483648) : ∀ H, PM G b m ρ H → aat G 0 (b + 5) 8 (ρ 3) H ∧ ∀ H1, aat G 0 (b + 5) 8 (up (ρ 3) z v) H1 → H1.size = H.size → (∀ q, q ≠ b + 5 → H1[q]? = H[q]?) → PM G b m (ur ρ 3 (up (ρ 3) z v)) H1 := by
  intro H ⟨h0, h1, h2, h3, h4, h5, h6, h7, h8⟩
  exact ⟨h5, fun H1 e _ hq => ⟨h0.kept (hq _ (by omega)), h1.kept (hq _ (by omega)), h2.kept (hq _ (by omega)), h3.kept (hq _ (by omega)), h4.kept (hq _ (by omega)), e, h6.kept (hq _ (by omega)), h7, ur_rg h8 (up_rg (h8 3) hv)⟩⟩
theorem PM.s4 (hv : -2147483648 ≤ v ∧ v < 2147483648) : ∀ H, PM G b m ρ H → aat G 0 (b + 6) 12 (ρ 4) H ∧ ∀ H1, aat G 0 (b + 6) 12 (up (ρ 4) z v) H1 → H1.size = H.size → (∀ q, q ≠ b + 6 → H1[q]? = H[q]?) → PM G b m (ur ρ 4 (up (ρ 4) z v)) H1 := by
  intro H ⟨h0, h1, h2, h3, h4, h5, h6, h7, h8⟩
  exact ⟨h6, fun H1 e _ hq => ⟨h0.kept (hq _ (by omega)), h1.kept (hq _ (by omega)), h2.kept (hq _ (by omega)), h3.kept (hq _ (by omega)), h4.kept (hq _ (by omega)), h5.kept (hq _ (by omega)), e, h7, ur_rg h8 (up_rg (h8 4) hv)⟩⟩
theorem PM.p3 (hv : -2147483648 ≤ v ∧ v < 2147483648) : ∀ H, PM G b m ρ H → ∃ fs, oat G b 7 fs H ∧ 3 < fs.length ∧ ∀ H1, oat G b 7 (fs.set 3 (vi v)) H1 → H1.size = H.size → (∀ q, q ≠ b → H1[q]? = H[q]?) → PM G b m (ur ρ 5 (up (ρ 5) 0 v)) H1 := by
  intro H ⟨h0, h1, h2, h3, h4, h5, h6, h7, h8⟩
  exact ⟨_, h0, Nat.le_of_ble_eq_true rfl, fun H1 e _ hq => ⟨e, h1.kept (hq _ (by omega)), h2.kept (hq _ (by omega)), h3.kept (hq _ (by omega)), h4.kept (hq _ (by omega)), h5.kept (hq _ (by omega)), h6.kept (hq _ (by omega)), h7, ur_rg h8 (up_rg (h8 5) hv)⟩⟩
theorem PM.p5 (hv : -2147483648 ≤ v ∧ v < 2147483648) : ∀ H, PM G b m ρ H → ∃ fs, oat G b 7 fs H ∧ 5 < fs.length ∧ ∀ H1, oat G b 7 (fs.set 5 (vi v)) H1 → H1.size = H.size → (∀ q, q ≠ b → H1[q]? = H[q]?) → PM G b m (ur ρ 5 (up (ρ 5) 1 v)) H1 := by
  intro H ⟨h0, h1, h2, h3, h4, h5, h6, h7, h8⟩
  exact ⟨_, h0, Nat.le_of_ble_eq_true rfl, fun H1 e _ hq => ⟨e, h1.kept (hq _ (by omega)), h2.kept (hq _ (by omega)), h3.kept (hq _ (by omega)), h4.kept (hq _ (by omega)), h5.kept (hq _ (by omega)), h6.kept (hq _ (by omega)), h7, ur_rg h8 (up_rg (h8 5) hv)⟩⟩
theorem PM.p6 (hv : -2147483648 ≤ v ∧ v < 2147483648) : ∀ H, PM G b m ρ H → ∃ fs, oat G b 7 fs H ∧ 6 < fs.length ∧ ∀ H1, oat G b 7 (fs.set 6 (vi v)) H1 → H1.size = H.size → (∀ q, q ≠ b → H1[q]? = H[q]?) → PM G b m (ur ρ 5 (up (ρ 5) 2 v)) H1 := by
  intro H ⟨h0, h1, h2, h3, h4, h5, h6, h7, h8⟩
  exact ⟨_, h0, Nat.le_of_ble_eq_true rfl, fun H1 e _ hq => ⟨e, h1.kept (hq _ (by omega)), h2.kept (hq _ (by omega)), h3.kept (hq _ (by omega)), h4.kept (hq _ (by omega)), h5.kept (hq _ (by omega)), h6.kept (hq _ (by omega)), h7, ur_rg h8 (up_rg (h8 5) hv)⟩⟩
theorem PM.p7 (hv : -2147483648 ≤ v ∧ v < 2147483648) : ∀ H, PM G b m ρ H → ∃ fs, oat G b 7 fs H ∧ 7 < fs.length ∧ ∀ H1, oat G b 7 (fs.set 7 (vi v)) H1 → H1.size = H.size → (∀ q, q ≠ b → H1[q]? = H[q]?) → PM G b m (ur ρ 5 (up (ρ 5) 3 v)) H1 := by
  intro H ⟨h0, h1, h2, h3, h4, h5, h6, h7, h8⟩
  exact ⟨_, h0, Nat.le_of_ble_eq_true rfl, fun H1 e _ hq => ⟨e, h1.kept (hq _ (by omega)), h2.kept (hq _ (by omega)), h3.kept (hq _ (by omega)), h4.kept (hq _ (by omega)), h5.kept (hq _ (by omega)), h6.kept (hq _ (by omega)), h7, ur_rg h8 (up_rg (h8 5) hv)⟩⟩
theorem PM.p8 (hv : -2147483648 ≤ v ∧ v < 2147483648) : ∀ H, PM G b m ρ H → ∃ fs, oat G b 7 fs H ∧ 8 < fs.length ∧ ∀ H1, oat G b 7 (fs.set 8 (vi v)) H1 → H1.size = H.size → (∀ q, q ≠ b → H1[q]? = H[q]?) → PM G b m (ur ρ 5 (up (ρ 5) 4 v)) H1 := by
  intro H ⟨h0, h1, h2, h3, h4, h5, h6, h7, h8⟩
  exact ⟨_, h0, Nat.le_of_ble_eq_true rfl, fun H1 e _ hq => ⟨e, h1.kept (hq _ (by omega)), h2.kept (hq _ (by omega)), h3.kept (hq _ (by omega)), h4.kept (hq _ (by omega)), h5.kept (hq _ (by omega)), h6.kept (hq _ (by omega)), h7, ur_rg h8 (up_rg (h8 5) hv)⟩⟩
theorem ur_self (ρ : Nat → Int → Int) (i : Nat) : ur ρ i (ρ i) = ρ := by
  funext j
  unfold ur
  split
  · next h => rw [h]
  · rfl
theorem ur_ur (ρ : Nat → Int → Int) (i : Nat) (f g : Int → Int) : ur (ur ρ i f) i g = ur ρ i g := by
  funext j
  unfold ur
  split <;> rfl
theorem PM.b0 {f : Int → Int} : ∀ H, PM G b m (ur ρ 0 f) H → aat G 0 (b + 2) 788 f H ∧ ∀ k, -2147483648 ≤ f k ∧ f k < 2147483648 := fun H h => by
  have := PM.a0 H h
  rwa [ur_eq] at this
theorem PM.t0 {f : Int → Int} (hv : -2147483648 ≤ v ∧ v < 2147483648) : ∀ H, PM G b m (ur ρ 0 f) H → aat G 0 (b + 2) 788 f H ∧ ∀ H1, aat G 0 (b + 2) 788 (up f z v) H1 → H1.size = H.size → (∀ q, q ≠ b + 2 → H1[q]? = H[q]?) → PM G b m (ur ρ 0 (up f z v)) H1 := fun H h => by
  have := PM.s0 (z := z) hv H h
  rwa [ur_eq, ur_ur] at this
theorem PM.b1 {f : Int → Int} : ∀ H, PM G b m (ur ρ 1 f) H → aat G 0 (b + 3) 3152 f H ∧ ∀ k, -2147483648 ≤ f k ∧ f k < 2147483648 := fun H h => by
  have := PM.a1 H h
  rwa [ur_eq] at this
theorem PM.t1 {f : Int → Int} (hv : -2147483648 ≤ v ∧ v < 2147483648) : ∀ H, PM G b m (ur ρ 1 f) H → aat G 0 (b + 3) 3152 f H ∧ ∀ H1, aat G 0 (b + 3) 3152 (up f z v) H1 → H1.size = H.size → (∀ q, q ≠ b + 3 → H1[q]? = H[q]?) → PM G b m (ur ρ 1 (up f z v)) H1 := fun H h => by
  have := PM.s1 (z := z) hv H h
  rwa [ur_eq, ur_ur] at this
theorem PM.b2 {f : Int → Int} : ∀ H, PM G b m (ur ρ 2 f) H → aat G 0 (b + 4) 100 f H ∧ ∀ k, -2147483648 ≤ f k ∧ f k < 2147483648 := fun H h => by
  have := PM.a2 H h
  rwa [ur_eq] at this
theorem PM.t2 {f : Int → Int} (hv : -2147483648 ≤ v ∧ v < 2147483648) : ∀ H, PM G b m (ur ρ 2 f) H → aat G 0 (b + 4) 100 f H ∧ ∀ H1, aat G 0 (b + 4) 100 (up f z v) H1 → H1.size = H.size → (∀ q, q ≠ b + 4 → H1[q]? = H[q]?) → PM G b m (ur ρ 2 (up f z v)) H1 := fun H h => by
  have := PM.s2 (z := z) hv H h
  rwa [ur_eq, ur_ur] at this
theorem PM.b3 {f : Int → Int} : ∀ H, PM G b m (ur ρ 3 f) H → aat G 0 (b + 5) 8 f H ∧ ∀ k, -2147483648 ≤ f k ∧ f k < 2147483648 := fun H h => by
  have := PM.a3 H h
  rwa [ur_eq] at this
theorem PM.t3 {f : Int → Int} (hv : -2147483648 ≤ v ∧ v < 2147483648) : ∀ H, PM G b m (ur ρ 3 f) H → aat G 0 (b + 5) 8 f H ∧ ∀ H1, aat G 0 (b + 5) 8 (up f z v) H1 → H1.size = H.size → (∀ q, q ≠ b + 5 → H1[q]? = H[q]?) → PM G b m (ur ρ 3 (up f z v)) H1 := fun H h => by
  have := PM.s3 (z := z) hv H h
  rwa [ur_eq, ur_ur] at this
theorem PM.b4 {f : Int → Int} : ∀ H, PM G b m (ur ρ 4 f) H → aat G 0 (b + 6) 12 f H ∧ ∀ k, -2147483648 ≤ f k ∧ f k < 2147483648 := fun H h => by
  have := PM.a4 H h
  rwa [ur_eq] at this
theorem PM.t4 {f : Int → Int} (hv : -2147483648 ≤ v ∧ v < 2147483648) : ∀ H, PM G b m (ur ρ 4 f) H → aat G 0 (b + 6) 12 f H ∧ ∀ H1, aat G 0 (b + 6) 12 (up f z v) H1 → H1.size = H.size → (∀ q, q ≠ b + 6 → H1[q]? = H[q]?) → PM G b m (ur ρ 4 (up f z v)) H1 := fun H h => by
  have := PM.s4 (z := z) hv H h
  rwa [ur_eq, ur_ur] at this
theorem PM.h3 {f : Int → Int} : ∀ H, PM G b m (ur ρ 5 f) H → ∃ fs, oat G b 7 fs H ∧ fs[3]? = some (vi (f 0)) ∧ (-2147483648 ≤ f 0 ∧ f 0 < 2147483648) := fun H h => by
  have := PM.g3 H h
  rwa [ur_eq] at this
theorem PM.q3 {f : Int → Int} (hv : -2147483648 ≤ v ∧ v < 2147483648) : ∀ H, PM G b m (ur ρ 5 f) H → ∃ fs, oat G b 7 fs H ∧ 3 < fs.length ∧ ∀ H1, oat G b 7 (fs.set 3 (vi v)) H1 → H1.size = H.size → (∀ q, q ≠ b → H1[q]? = H[q]?) → PM G b m (ur ρ 5 (up f 0 v)) H1 := fun H h => by
  have := PM.p3 hv H h
  rwa [ur_eq, ur_ur] at this
theorem PM.h5 {f : Int → Int} : ∀ H, PM G b m (ur ρ 5 f) H → ∃ fs, oat G b 7 fs H ∧ fs[5]? = some (vi (f 1)) ∧ (-2147483648 ≤ f 1 ∧ f 1 < 2147483648) := fun H h => by
  have := PM.g5 H h
  rwa [ur_eq] at this
theorem PM.q5 {f : Int → Int} (hv : -2147483648 ≤ v ∧ v < 2147483648) : ∀ H, PM G b m (ur ρ 5 f) H → ∃ fs, oat G b 7 fs H ∧ 5 < fs.length ∧ ∀ H1, oat G b 7 (fs.set 5 (vi v)) H1 → H1.size = H.size → (∀ q, q ≠ b → H1[q]? = H[q]?) → PM G b m (ur ρ 5 (up f 1 v)) H1 := fun H h => by
  have := PM.p5 hv H h
  rwa [ur_eq, ur_ur] at this
theorem PM.h6 {f : Int → Int} : ∀ H, PM G b m (ur ρ 5 f) H → ∃ fs, oat G b 7 fs H ∧ fs[6]? = some (vi (f 2)) ∧ (-2147483648 ≤ f 2 ∧ f 2 < 2147483648) := fun H h => by
  have := PM.g6 H h
  rwa [ur_eq] at this
theorem PM.q6 {f : Int → Int} (hv : -2147483648 ≤ v ∧ v < 2147483648) : ∀ H, PM G b m (ur ρ 5 f) H → ∃ fs, oat G b 7 fs H ∧ 6 < fs.length ∧ ∀ H1, oat G b 7 (fs.set 6 (vi v)) H1 → H1.size = H.size → (∀ q, q ≠ b → H1[q]? = H[q]?) → PM G b m (ur ρ 5 (up f 2 v)) H1 := fun H h => by
  have := PM.p6 hv H h
  rwa [ur_eq, ur_ur] at this
theorem PM.h7 {f : Int → Int} : ∀ H, PM G b m (ur ρ 5 f) H → ∃ fs, oat G b 7 fs H ∧ fs[7]? = some (vi (f 3)) ∧ (-2147483648 ≤ f 3 ∧ f 3 < 2147483648) := fun H h => by
  have := PM.g7 H h
  rwa [ur_eq] at this
theorem PM.q7 {f : Int → Int} (hv : -2147483648 ≤ v ∧ v < 2147483648) : ∀ H, PM G b m (ur ρ 5 f) H → ∃ fs, oat G b 7 fs H ∧ 7 < fs.length ∧ ∀ H1, oat G b 7 (fs.set 7 (vi v)) H1 → H1.size = H.size → (∀ q, q ≠ b → H1[q]? = H[q]?) → PM G b m (ur ρ 5 (up f 3 v)) H1 := fun H h => by
  have := PM.p7 hv H h
  rwa [ur_eq, ur_ur] at this
theorem PM.h8 {f : Int → Int} : ∀ H, PM G b m (ur ρ 5 f) H → ∃ fs, oat G b 7 fs H ∧ fs[8]? = some (vi (f 4)) ∧ (-2147483648 ≤ f 4 ∧ f 4 < 2147483648) := fun H h => by
  have := PM.g8 H h
  rwa [ur_eq] at this
theorem PM.q8 {f : Int → Int} (hv : -2147483648 ≤ v ∧ v < 2147483648) : ∀ H, PM G b m (ur ρ 5 f) H → ∃ fs, oat G b 7 fs H ∧ 8 < fs.length ∧ ∀ H1, oat G b 7 (fs.set 8 (vi v)) H1 → H1.size = H.size → (∀ q, q ≠ b → H1[q]? = H[q]?) → PM G b m (ur ρ 5 (up f 4 v)) H1 := fun H h => by
  have := PM.p8 hv H h
  rwa [ur_eq, ur_ur] at this
end PMS
theorem x_us {Γ : xE} {G : xG} {b : Nat} {m : Int → Int} {ρ : Nat → Int → Int} {kc ks pc : Nat} {L : List (Nat × Value)} {st : List Value} (i : Nat) (k : XJ Γ kc ks (PM G b m (ur ρ i (ρ i))) pc L st) : XJ Γ kc ks (PM G b m ρ) pc L st := by
  rwa [ur_self] at k
theorem x_retO {Γ : xE} {G : xG} {cc : ByteArray} {own : String} {nL : Nat} {rm : Room} {A : Nat → Prop} {kc ks pc b : Nat} {L : List (Nat × Value)} {nm : String} {o : Int × (Int → Int) × (Nat → Int → Int)} {z : Int} {m' : Int → Int} {ρ' : Nat → Int → Int} (B : XB Γ G cc own nL rm A) (R : XR Γ nm (some .int) kc ks (xQ (pI o.1 (PM G b o.2.1 o.2.2)) A)) (d : decode cc pc = .ok (.ireturn, 1)) (he : o = (z, m', ρ')) (hz : -2147483648 ≤ z ∧ z < 2147483648) : XJ Γ kc ks (PM G b m' ρ') pc L [vi z] := by
  subst he
  exact x_retI B R d rfl hz (fun H h => h)
-- the leaves
theorem c_X7_in {G : xG} {l : Launch} {P : Heap → Prop} {A : Nat → Prop} {v x y : Int} (h1 : -2147483648 ≤ v ∧ v < 2147483648) (h2 : -2147483648 ≤ x ∧ x < 2147483648) (h3 : -2147483648 ≤ y ∧ y < 2147483648) : CT G l yX7_in cX7_in 3 (some .boolean) ({ frames := 0, cells := 0, slots := 0, locals := 0 } : Room) 0 0 [vi v, vi x, vi y] P (pZ (x ≤ v ∧ v ≤ y) P) A := by
  refine x_met1 (own := RX7) (nm := "in") (L := [(0, vi v), (1, vi x), (2, vi y)]) (by decide) rfl rfl (fun _ => rfl) (Nat.le_of_ble_eq_true rfl) rfl rfl ?_
  intro Γ B R
  refine x_iload_n B dX7_in_0 rfl ?_
  refine x_iload_n B dX7_in_1 rfl ?_
  refine x_icmp_lt (tgt := 14) B dX7_in_2 (by decide) (by omega) (by omega) (fun c2 => ?_) (fun c2 => ?_)
  · refine x_iconst B dX7_in_14 ?_
    exact x_retZ B R dX7_in_15 ((bz_f (by omega)).symm) (fun H h => by exact h)
  · refine x_iload_n B dX7_in_5 rfl ?_
    refine x_iload_n B dX7_in_6 rfl ?_
    refine x_icmp_gt (tgt := 14) B dX7_in_7 (by decide) (by omega) (by omega) (fun c7 => ?_) (fun c7 => ?_)
    · refine x_iconst B dX7_in_14 ?_
      exact x_retZ B R dX7_in_15 ((bz_f (by omega)).symm) (fun H h => by exact h)
    · refine x_iconst B dX7_in_10 ?_
      refine x_goto (tgt := 15) B dX7_in_11 (by decide) ?_
      exact x_retZ B R dX7_in_15 ((bz_t (by omega)).symm) (fun H h => by exact h)
theorem c_X7_of {G : xG} {l : Launch} {b : Nat} {m : Int → Int} {ρ : Nat → Int → Int} {x w : Int} (h1 : 0 ≤ 548 + 10 * x + w ∧ 548 + 10 * x + w < 788) : CT G l yX7_of cX7_of 3 (some .int) ({ frames := 0, cells := 0, slots := 0, locals := 0 } : Room) 0 0 [.ref b, vi x, vi w] (PM G b m ρ) (pI (m (548 + 10 * x + w)) (PM G b m ρ)) (AM b) := by
  refine x_met1 (own := RX7) (nm := "of") (L := [(0, .ref b), (1, vi x), (2, vi w)]) (by decide) rfl rfl (fun _ => rfl) (Nat.le_of_ble_eq_true rfl) rfl rfl ?_
  intro Γ B R
  refine x_aload_n B dX7_of_0 rfl ?_
  refine x_get B fgX7_7 dX7_of_1 (fun _ h => ⟨_, PM.o h, rfl⟩) ?_
  refine x_sipush B dX7_of_4 (by decide) ?_
  refine x_bipush B dX7_of_7 (by decide) ?_
  refine x_iload_n B dX7_of_9 rfl ?_
  refine x_imul B dX7_of_10 ?_
  refine x_iadd B dX7_of_11 ?_
  refine x_iload_n B dX7_of_12 rfl ?_
  refine x_iadd B dX7_of_13 ?_
  refine x_ialdR B dX7_of_14 (by omega) (by decide) PM.am (fun r14 => ?_)
  exact x_retI B R dX7_of_15 (by first | rfl | omega) (by omega) (fun H h => by exact h)
theorem c_X7_ofUnit {G : xG} {l : Launch} {b : Nat} {m : Int → Int} {ρ : Nat → Int → Int} {x w : Int} (h1 : 0 ≤ 5 + 6 * x + w ∧ 5 + 6 * x + w < 788) : CT G l yX7_ofUnit cX7_ofUnit 3 (some .int) ({ frames := 0, cells := 0, slots := 0, locals := 0 } : Room) 0 0 [.ref b, vi x, vi w] (PM G b m ρ) (pI (m (5 + 6 * x + w)) (PM G b m ρ)) (AM b) := by
  refine x_met1 (own := RX7) (nm := "ofUnit") (L := [(0, .ref b), (1, vi x), (2, vi w)]) (by decide) rfl rfl (fun _ => rfl) (Nat.le_of_ble_eq_true rfl) rfl rfl ?_
  intro Γ B R
  refine x_aload_n B dX7_ofUnit_0 rfl ?_
  refine x_get B fgX7_7 dX7_ofUnit_1 (fun _ h => ⟨_, PM.o h, rfl⟩) ?_
  refine x_iconst B dX7_ofUnit_4 ?_
  refine x_bipush B dX7_ofUnit_5 (by decide) ?_
  refine x_iload_n B dX7_ofUnit_7 rfl ?_
  refine x_imul B dX7_ofUnit_8 ?_
  refine x_iadd B dX7_ofUnit_9 ?_
  refine x_iload_n B dX7_ofUnit_10 rfl ?_
  refine x_iadd B dX7_ofUnit_11 ?_
  refine x_ialdR B dX7_ofUnit_12 (by omega) (by decide) PM.am (fun r12 => ?_)
  exact x_retI B R dX7_ofUnit_13 (by first | rfl | omega) (by omega) (fun H h => by exact h)
theorem c_X7_put {G : xG} {l : Launch} {b : Nat} {m : Int → Int} {ρ : Nat → Int → Int} {x w v : Int} (h1 : 0 ≤ 548 + 10 * x + w ∧ 548 + 10 * x + w < 788) (h2 : -2147483648 ≤ v ∧ v < 2147483648) : CT G l yX7_put cX7_put 4 none ({ frames := 0, cells := 0, slots := 0, locals := 0 } : Room) 0 0 [.ref b, vi x, vi w, vi v] (PM G b m ρ) (pV (PM G b (up m (548 + 10 * x + w) v) ρ)) (AM b) := by
  refine x_met1 (own := RX7) (nm := "put") (L := [(0, .ref b), (1, vi x), (2, vi w), (3, vi v)]) (by decide) rfl rfl (fun _ => rfl) (Nat.le_of_ble_eq_true rfl) rfl rfl ?_
  intro Γ B R
  refine x_aload_n B dX7_put_0 rfl ?_
  refine x_get B fgX7_7 dX7_put_1 (fun _ h => ⟨_, PM.o h, rfl⟩) ?_
  refine x_sipush B dX7_put_4 (by decide) ?_
  refine x_bipush B dX7_put_7 (by decide) ?_
  refine x_iload_n B dX7_put_9 rfl ?_
  refine x_imul B dX7_put_10 ?_
  refine x_iadd B dX7_put_11 ?_
  refine x_iload_n B dX7_put_12 rfl ?_
  refine x_iadd B dX7_put_13 ?_
  refine x_iload_n B dX7_put_14 rfl ?_
  refine x_iast B dX7_put_15 (by omega) (by decide) (by unfold AM; omega) (PM.sm (by omega)) ?_
  exact x_retV B R dX7_put_16 (fun H h => by exact h)
theorem c_X7_putUnit {G : xG} {l : Launch} {b : Nat} {m : Int → Int} {ρ : Nat → Int → Int} {x w v : Int} (h1 : 0 ≤ 5 + 6 * x + w ∧ 5 + 6 * x + w < 788) (h2 : -2147483648 ≤ v ∧ v < 2147483648) : CT G l yX7_putUnit cX7_putUnit 4 none ({ frames := 0, cells := 0, slots := 0, locals := 0 } : Room) 0 0 [.ref b, vi x, vi w, vi v] (PM G b m ρ) (pV (PM G b (up m (5 + 6 * x + w) v) ρ)) (AM b) := by
  refine x_met1 (own := RX7) (nm := "putUnit") (L := [(0, .ref b), (1, vi x), (2, vi w), (3, vi v)]) (by decide) rfl rfl (fun _ => rfl) (Nat.le_of_ble_eq_true rfl) rfl rfl ?_
  intro Γ B R
  refine x_aload_n B dX7_putUnit_0 rfl ?_
  refine x_get B fgX7_7 dX7_putUnit_1 (fun _ h => ⟨_, PM.o h, rfl⟩) ?_
  refine x_iconst B dX7_putUnit_4 ?_
  refine x_bipush B dX7_putUnit_5 (by decide) ?_
  refine x_iload_n B dX7_putUnit_7 rfl ?_
  refine x_imul B dX7_putUnit_8 ?_
  refine x_iadd B dX7_putUnit_9 ?_
  refine x_iload_n B dX7_putUnit_10 rfl ?_
  refine x_iadd B dX7_putUnit_11 ?_
  refine x_iload_n B dX7_putUnit_12 rfl ?_
  refine x_iast B dX7_putUnit_13 (by omega) (by decide) (by unfold AM; omega) (PM.sm (by omega)) ?_
  exact x_retV B R dX7_putUnit_14 (fun H h => by exact h)
theorem c_X7_isUnit {G : xG} {l : Launch} {b : Nat} {m : Int → Int} {ρ : Nat → Int → Int} {x : Int} (h1 : 0 ≤ m 2 ∧ m 2 ≤ 8) (h2 : -2147483648 ≤ x ∧ x < 2147483648) : CT G l yX7_isUnit cX7_isUnit 2 (some .boolean) ({ frames := 1, cells := 0, slots := 0, locals := 22 } : Room) 0 0 [.ref b, vi x] (PM G b m ρ) (pZ (0 ≤ x ∧ x ≤ m 2 - 1) (PM G b m ρ)) (AM b) := by
  refine x_met1 (own := RX7) (nm := "isUnit") (L := [(0, .ref b), (1, vi x)]) (by decide) rfl rfl (fun _ => rfl) (Nat.le_of_ble_eq_true rfl) rfl rfl ?_
  intro Γ B R
  refine x_iload_n B dX7_isUnit_0 rfl ?_
  refine x_iconst B dX7_isUnit_1 ?_
  refine x_aload_n B dX7_isUnit_2 rfl ?_
  refine x_get B fgX7_7 dX7_isUnit_3 (fun _ h => ⟨_, PM.o h, rfl⟩) ?_
  refine x_iconst B dX7_isUnit_6 ?_
  refine x_ialdR B dX7_isUnit_7 (by omega) (by decide) PM.am (fun r7 => ?_)
  refine x_iconst B dX7_isUnit_8 ?_
  refine x_isub B dX7_isUnit_9 ?_
  refine x_sZ B msX7_36 (fun l => c_X7_in (by omega) (by omega) (by omega)) dX7_isUnit_10 rfl rfl (by decide) (by decide) (Nat.le_of_ble_eq_true rfl) ?_
  exact x_retZ B R dX7_isUnit_13 (by rfl) (fun H h => by exact h)
theorem c_X7_isBatch {G : xG} {l : Launch} {b : Nat} {m : Int → Int} {ρ : Nat → Int → Int} {x : Int} (h1 : 0 ≤ m 3 ∧ m 3 ≤ 12) (h2 : -2147483648 ≤ x ∧ x < 2147483648) : CT G l yX7_isBatch cX7_isBatch 2 (some .boolean) ({ frames := 1, cells := 0, slots := 0, locals := 22 } : Room) 0 0 [.ref b, vi x] (PM G b m ρ) (pZ (0 ≤ x ∧ x ≤ m 3 - 1) (PM G b m ρ)) (AM b) := by
  refine x_met1 (own := RX7) (nm := "isBatch") (L := [(0, .ref b), (1, vi x)]) (by decide) rfl rfl (fun _ => rfl) (Nat.le_of_ble_eq_true rfl) rfl rfl ?_
  intro Γ B R
  refine x_iload_n B dX7_isBatch_0 rfl ?_
  refine x_iconst B dX7_isBatch_1 ?_
  refine x_aload_n B dX7_isBatch_2 rfl ?_
  refine x_get B fgX7_7 dX7_isBatch_3 (fun _ h => ⟨_, PM.o h, rfl⟩) ?_
  refine x_iconst B dX7_isBatch_6 ?_
  refine x_ialdR B dX7_isBatch_7 (by omega) (by decide) PM.am (fun r7 => ?_)
  refine x_iconst B dX7_isBatch_8 ?_
  refine x_isub B dX7_isBatch_9 ?_
  refine x_sZ B msX7_36 (fun l => c_X7_in (by omega) (by omega) (by omega)) dX7_isBatch_10 rfl rfl (by decide) (by decide) (Nat.le_of_ble_eq_true rfl) ?_
  exact x_retZ B R dX7_isBatch_13 (by rfl) (fun H h => by exact h)
theorem c_X7_isRecipe {G : xG} {l : Launch} {P : Heap → Prop} {A : Nat → Prop} {x : Int} (h1 : -2147483648 ≤ x ∧ x < 2147483648) : CT G l yX7_isRecipe cX7_isRecipe 1 (some .boolean) ({ frames := 1, cells := 0, slots := 0, locals := 22 } : Room) 0 0 [vi x] P (pZ (0 ≤ x ∧ x ≤ 5) P) A := by
  refine x_met1 (own := RX7) (nm := "isRecipe") (L := [(0, vi x)]) (by decide) rfl rfl (fun _ => rfl) (Nat.le_of_ble_eq_true rfl) rfl rfl ?_
  intro Γ B R
  refine x_iload_n B dX7_isRecipe_0 rfl ?_
  refine x_iconst B dX7_isRecipe_1 ?_
  refine x_iconst B dX7_isRecipe_2 ?_
  refine x_sZ B msX7_36 (fun l => c_X7_in (by omega) (by omega) (by omega)) dX7_isRecipe_3 rfl rfl (by decide) (by decide) (Nat.le_of_ble_eq_true rfl) ?_
  exact x_retZ B R dX7_isRecipe_6 (by rfl) (fun H h => by exact h)
theorem c_X7_isFree {G : xG} {l : Launch} {b : Nat} {m : Int → Int} {ρ : Nat → Int → Int} {x : Int} (h1 : 0 ≤ x ∧ x < 8) : CT G l yX7_isFree cX7_isFree 2 (some .boolean) ({ frames := 1, cells := 0, slots := 0, locals := 22 } : Room) 0 0 [.ref b, vi x] (PM G b m ρ) (pZ (m (5 + 6 * x + 2) = -1 ∧ m (5 + 6 * x + 3) = 0 ∧ m (5 + 6 * x + 4) = 0) (PM G b m ρ)) (AM b) := by
  refine x_met1 (own := RX7) (nm := "isFree") (L := [(0, .ref b), (1, vi x)]) (by decide) rfl rfl (fun _ => rfl) (Nat.le_of_ble_eq_true rfl) rfl rfl ?_
  intro Γ B R
  refine x_aload_n B dX7_isFree_0 rfl ?_
  refine x_iload_n B dX7_isFree_1 rfl ?_
  refine x_iconst B dX7_isFree_2 ?_
  refine x_mV B mvX7_51 (fun l => c_X7_ofUnit (by omega)) dX7_isFree_3 rfl rfl (by decide) (by decide) (Nat.le_of_ble_eq_true rfl) PM.rv (fun r3 => ?_)
  refine x_iconst B dX7_isFree_6 ?_
  refine x_icmp_ne (tgt := 32) B dX7_isFree_7 (by decide) (by omega) (by omega) (fun c7 => ?_) (fun c7 => ?_)
  · refine x_iconst B dX7_isFree_32 ?_
    exact x_retZ B R dX7_isFree_33 ((bz_f (by omega)).symm) (fun H h => by exact h)
  · refine x_aload_n B dX7_isFree_10 rfl ?_
    refine x_iload_n B dX7_isFree_11 rfl ?_
    refine x_iconst B dX7_isFree_12 ?_
    refine x_mV B mvX7_51 (fun l => c_X7_ofUnit (by omega)) dX7_isFree_13 rfl rfl (by decide) (by decide) (Nat.le_of_ble_eq_true rfl) PM.rv (fun r13 => ?_)
    refine x_if_ne (tgt := 32) B dX7_isFree_16 (by decide) (by omega) (fun c16 => ?_) (fun c16 => ?_)
    · refine x_iconst B dX7_isFree_32 ?_
      exact x_retZ B R dX7_isFree_33 ((bz_f (by omega)).symm) (fun H h => by exact h)
    · refine x_aload_n B dX7_isFree_19 rfl ?_
      refine x_iload_n B dX7_isFree_20 rfl ?_
      refine x_iconst B dX7_isFree_21 ?_
      refine x_mV B mvX7_51 (fun l => c_X7_ofUnit (by omega)) dX7_isFree_22 rfl rfl (by decide) (by decide) (Nat.le_of_ble_eq_true rfl) PM.rv (fun r22 => ?_)
      refine x_if_ne (tgt := 32) B dX7_isFree_25 (by decide) (by omega) (fun c25 => ?_) (fun c25 => ?_)
      · refine x_iconst B dX7_isFree_32 ?_
        exact x_retZ B R dX7_isFree_33 ((bz_f (by omega)).symm) (fun H h => by exact h)
      · refine x_iconst B dX7_isFree_28 ?_
        refine x_goto (tgt := 33) B dX7_isFree_29 (by decide) ?_
        exact x_retZ B R dX7_isFree_33 ((bz_t (by omega)).symm) (fun H h => by exact h)
theorem c_X7_isActive {G : xG} {l : Launch} {b : Nat} {m : Int → Int} {ρ : Nat → Int → Int} {x : Int} (h1 : 0 ≤ x ∧ x < 12) : CT G l yX7_isActive cX7_isActive 2 (some .boolean) ({ frames := 1, cells := 0, slots := 0, locals := 22 } : Room) 0 0 [.ref b, vi x] (PM G b m ρ) (pZ (m (548 + 10 * x + 5) = 1 ∨ m (548 + 10 * x + 5) = 3) (PM G b m ρ)) (AM b) := by
  refine x_met1 (own := RX7) (nm := "isActive") (L := [(0, .ref b), (1, vi x)]) (by decide) rfl rfl (fun _ => rfl) (Nat.le_of_ble_eq_true rfl) rfl rfl ?_
  intro Γ B R
  refine x_aload_n B dX7_isActive_0 rfl ?_
  refine x_iload_n B dX7_isActive_1 rfl ?_
  refine x_iconst B dX7_isActive_2 ?_
  refine x_mV B mvX7_40 (fun l => c_X7_of (by omega)) dX7_isActive_3 rfl rfl (by decide) (by decide) (Nat.le_of_ble_eq_true rfl) PM.rv (fun r3 => ?_)
  refine x_iconst B dX7_isActive_6 ?_
  refine x_icmp_eq (tgt := 20) B dX7_isActive_7 (by decide) (by omega) (by omega) (fun c7 => ?_) (fun c7 => ?_)
  · refine x_iconst B dX7_isActive_20 ?_
    refine x_goto (tgt := 25) B dX7_isActive_21 (by decide) ?_
    exact x_retZ B R dX7_isActive_25 ((bz_t (by omega)).symm) (fun H h => by exact h)
  · refine x_aload_n B dX7_isActive_10 rfl ?_
    refine x_iload_n B dX7_isActive_11 rfl ?_
    refine x_iconst B dX7_isActive_12 ?_
    refine x_mV B mvX7_40 (fun l => c_X7_of (by omega)) dX7_isActive_13 rfl rfl (by decide) (by decide) (Nat.le_of_ble_eq_true rfl) PM.rv (fun r13 => ?_)
    refine x_iconst B dX7_isActive_16 ?_
    refine x_icmp_ne (tgt := 24) B dX7_isActive_17 (by decide) (by omega) (by omega) (fun c17 => ?_) (fun c17 => ?_)
    · refine x_iconst B dX7_isActive_24 ?_
      exact x_retZ B R dX7_isActive_25 ((bz_f (by omega)).symm) (fun H h => by exact h)
    · refine x_iconst B dX7_isActive_20 ?_
      refine x_goto (tgt := 25) B dX7_isActive_21 (by decide) ?_
      exact x_retZ B R dX7_isActive_25 ((bz_t (by omega)).symm) (fun H h => by exact h)
theorem c_X7_phasesOf {G : xG} {l : Launch} {b : Nat} {m : Int → Int} {ρ : Nat → Int → Int} {r v : Int} (h1 : 0 ≤ r ∧ r < 6) (h2 : 1 ≤ v ∧ v ≤ 9) : CT G l yX7_phasesOf cX7_phasesOf 3 (some .int) ({ frames := 0, cells := 0, slots := 0, locals := 0 } : Room) 0 0 [.ref b, vi r, vi v] (PM G b m ρ) (pI (m (62 + 9 * r + v - 1)) (PM G b m ρ)) (AM b) := by
  refine x_met1 (own := RX7) (nm := "phasesOf") (L := [(0, .ref b), (1, vi r), (2, vi v)]) (by decide) rfl rfl (fun _ => rfl) (Nat.le_of_ble_eq_true rfl) rfl rfl ?_
  intro Γ B R
  refine x_aload_n B dX7_phasesOf_0 rfl ?_
  refine x_get B fgX7_7 dX7_phasesOf_1 (fun _ h => ⟨_, PM.o h, rfl⟩) ?_
  refine x_bipush B dX7_phasesOf_4 (by decide) ?_
  refine x_bipush B dX7_phasesOf_6 (by decide) ?_
  refine x_iload_n B dX7_phasesOf_8 rfl ?_
  refine x_imul B dX7_phasesOf_9 ?_
  refine x_iadd B dX7_phasesOf_10 ?_
  refine x_iload_n B dX7_phasesOf_11 rfl ?_
  refine x_iadd B dX7_phasesOf_12 ?_
  refine x_iconst B dX7_phasesOf_13 ?_
  refine x_isub B dX7_phasesOf_14 ?_
  refine x_ialdR B dX7_phasesOf_15 (by omega) (by decide) PM.am (fun r15 => ?_)
  exact x_retI B R dX7_phasesOf_16 (by first | rfl | omega) (by omega) (fun H h => by exact h)
theorem c_X7_phaseIn {G : xG} {l : Launch} {b : Nat} {m : Int → Int} {ρ : Nat → Int → Int} {r v k : Int} (h1 : 0 ≤ r ∧ r < 6) (h2 : 1 ≤ v ∧ v ≤ 9) (h3 : 0 ≤ k ∧ k < 8) : CT G l yX7_phaseIn cX7_phaseIn 4 (some .int) ({ frames := 0, cells := 0, slots := 0, locals := 0 } : Room) 0 0 [.ref b, vi r, vi v, vi k] (PM G b m ρ) (pI (m (116 + 8 * (9 * r + v - 1) + k)) (PM G b m ρ)) (AM b) := by
  refine x_met1 (own := RX7) (nm := "phaseIn") (L := [(0, .ref b), (1, vi r), (2, vi v), (3, vi k)]) (by decide) rfl rfl (fun _ => rfl) (Nat.le_of_ble_eq_true rfl) rfl rfl ?_
  intro Γ B R
  refine x_aload_n B dX7_phaseIn_0 rfl ?_
  refine x_get B fgX7_7 dX7_phaseIn_1 (fun _ h => ⟨_, PM.o h, rfl⟩) ?_
  refine x_bipush B dX7_phaseIn_4 (by decide) ?_
  refine x_bipush B dX7_phaseIn_6 (by decide) ?_
  refine x_bipush B dX7_phaseIn_8 (by decide) ?_
  refine x_iload_n B dX7_phaseIn_10 rfl ?_
  refine x_imul B dX7_phaseIn_11 ?_
  refine x_iload_n B dX7_phaseIn_12 rfl ?_
  refine x_iadd B dX7_phaseIn_13 ?_
  refine x_iconst B dX7_phaseIn_14 ?_
  refine x_isub B dX7_phaseIn_15 ?_
  refine x_imul B dX7_phaseIn_16 ?_
  refine x_iadd B dX7_phaseIn_17 ?_
  refine x_iload_n B dX7_phaseIn_18 rfl ?_
  refine x_iadd B dX7_phaseIn_19 ?_
  refine x_ialdR B dX7_phaseIn_20 (by omega) (by decide) PM.am (fun r20 => ?_)
  exact x_retI B R dX7_phaseIn_21 (by first | rfl | omega) (by omega) (fun H h => by exact h)

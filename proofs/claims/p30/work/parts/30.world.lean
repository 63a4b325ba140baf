/-! ===== the class's State: what of the heap holds the memory m ===== -/
def uA (a : Nat) (u : Int) : Nat := a + 10 + u.toNat
def bA (a : Nat) (x : Int) : Nat := a + 18 + x.toNat
def AS (a : Nat) : Nat → Prop := fun q => a ≤ q ∧ q < a + 30
def fU (m : Int → Int) (u : Int) : List Value := [vi (m (5 + 6 * u + 0)), vi (m (5 + 6 * u + 1)), vi (m (5 + 6 * u + 2)), vi (m (5 + 6 * u + 4)), vi (m (5 + 6 * u + 5)), vi (m (5 + 6 * u + 3))]
def fBt (m : Int → Int) (x : Int) : List Value := [vi (m (548 + 10 * x + 0)), vi (m (548 + 10 * x + 1)), vi (m (548 + 10 * x + 2)), vi (m (548 + 10 * x + 3)), vi (m (548 + 10 * x + 4)), vi (m (548 + 10 * x + 5)), vi (m (548 + 10 * x + 6)), vi (m (548 + 10 * x + 7)), vi (m (548 + 10 * x + 8)), .float (fB (m (548 + 10 * x + 9)))]
def sU (G : xG) (a : Nat) (m : Int → Int) (n : Int) (H : Heap) : Prop := ∀ u : Int, 0 ≤ u → u < 8 → ∃ fs, oat G (uA a u) 5 fs H ∧ fs.length = 6 ∧ (u < n → fs = fU m u)
def sB (G : xG) (a : Nat) (m : Int → Int) (n : Int) (H : Heap) : Prop := ∀ x : Int, 0 ≤ x → x < 12 → ∃ fs, oat G (bA a x) 0 fs H ∧ fs.length = 10 ∧ (x < n → fs = fBt m x)
/-- a journal's cells -/
def JR (G : xG) (j : Nat) (nx ln : Int) (j0 j1 j2 : Int → Int) (H : Heap) : Prop := oat G j 2 [.ref (j + 1), .ref (j + 2), .ref (j + 3), vi ln, vi nx] H ∧ aat G 0 (j + 1) 40 j0 H ∧ aat G 0 (j + 2) 40 j1 H ∧ aat G 0 (j + 3) 40 j2 H ∧ (0 ≤ nx ∧ nx < 40) ∧ (0 ≤ ln ∧ ln ≤ 40) ∧ ∀ k, (-2147483648 ≤ j0 k ∧ j0 k < 2147483648) ∧ (-2147483648 ≤ j1 k ∧ j1 k < 2147483648) ∧ (-2147483648 ≤ j2 k ∧ j2 k < 2147483648)
/-- the ring's entry i, counted back, is the memory's -/
def jOK (m : Int → Int) (nx : Int) (j0 j1 j2 : Int → Int) : Prop := ∀ i, 0 ≤ i → i < m 4 → j0 ((nx + 39 - i) % 40) = m (668 + 3 * i + 0) ∧ j1 ((nx + 39 - i) % 40) = m (668 + 3 * i + 1) ∧ j2 ((nx + 39 - i) % 40) = m (668 + 3 * i + 2)
def sJ (G : xG) (a : Nat) (m : Int → Int) (H : Heap) : Prop := ∃ nx j0 j1 j2, JR G (a + 5) nx (m 4) j0 j1 j2 H ∧ jOK m nx j0 j1 j2
/-- the book's cells; what it holds of the memory -/
def bkH (G : xG) (κ : Nat) (β : Nat → Int → Int) (H : Heap) : Prop := oat G κ 1 [.ref (κ + 1), .ref (κ + 2)] H ∧ aat G 0 (κ + 1) 54 (β 5) H ∧ rat G 2 (κ + 2) 5 (fun k => some (κ + 3 + k)) H ∧ (∀ w : Nat, w < 5 → aat G 0 (κ + 3 + w) 432 (β w) H) ∧ ∀ w k, -2147483648 ≤ β w k ∧ β w k < 2147483648
/-- a part of a packed phase, as the book has it -/
def pt (p w : Int) : Int := if w = 0 then p % 4 else if w = 1 then p / 4 % 128 else if w = 2 then p / 512 % 4 - 1 else if w = 3 then p / 2048 % 128 else p / 262144 % 2
def bkOK (β : Nat → Int → Int) (m : Int → Int) : Prop := ∀ r v, 0 ≤ r → r < 6 → 1 ≤ v → v ≤ 9 → v ≤ m (56 + r) → β 5 (9 * r + v - 1) = m (62 + (9 * r + v - 1)) ∧ ∀ k, 0 ≤ k → k < 8 → k < m (62 + (9 * r + v - 1)) → ∀ w : Int, 0 ≤ w → w < 5 → β w.toNat (8 * (9 * r + v - 1) + k) = pt (m (116 + 8 * (9 * r + v - 1) + k)) w
def hdS (κ a : Nat) (c2 c3 oc c1 c0 : Int) : List Value := [.ref κ, .ref (a + 1), .ref (a + 2), .ref (a + 3), .ref (a + 4), .ref (a + 5), .ref (a + 9), vi c2, vi c3, vi oc, vi c1, vi c0]
/-- a State's cells, its parts one by one -/
def SG (G : xG) (a κ : Nat) (c2 c3 oc c1 c0 : Int) (hf vf : Int → Int) (J : Heap → Prop) (od : Int → Int) (m : Int → Int) (nu nb : Int) (H : Heap) : Prop :=
  oat G a 3 (hdS κ a c2 c3 oc c1 c0) H ∧ rat G 3 (a + 1) 8 (fun k => some (a + 10 + k)) H ∧ rat G 4 (a + 2) 12 (fun k => some (a + 18 + k)) H ∧ aat G 0 (a + 3) 3 hf H ∧ aat G 0 (a + 4) 6 vf H ∧ J H ∧ aat G 0 (a + 9) 12 od H ∧ sU G a m nu H ∧ sB G a m nb H
/-- what the memory's numbers keep to, for the cells of a State -/
def mOK (m : Int → Int) : Prop := (0 ≤ m 2 ∧ m 2 ≤ 8) ∧ (0 ≤ m 3 ∧ m 3 ≤ 12) ∧ (0 ≤ m 4 ∧ m 4 ≤ 40) ∧ ∀ k, -2147483648 ≤ m k ∧ m k < 2147483648
def SP (G : xG) (a κ : Nat) (m : Int → Int) (od : Int → Int) (oc : Int) (H : Heap) : Prop := SG G a κ (m 2) (m 3) oc (m 1) (m 0) (fun k => m (53 + k)) (fun k => m (56 + k)) (sJ G a m) od m (m 2) (m 3) H ∧ mOK m ∧ (∀ k, -2147483648 ≤ od k ∧ od k < 2147483648) ∧ (0 ≤ oc ∧ oc ≤ 12)
def PS (G : xG) (a κ : Nat) (β : Nat → Int → Int) (m : Int → Int) (od : Int → Int) (oc : Int) (H : Heap) : Prop := SP G a κ m od oc H ∧ bkH G κ β H ∧ bkOK β m ∧ κ + 8 ≤ a
theorem fU_eq {m m' : Int → Int} {u : Int} (e : ∀ w, 0 ≤ w → w < 6 → m' (5 + 6 * u + w) = m (5 + 6 * u + w)) : fU m' u = fU m u := by
  unfold fU
  rw [e 0 (by omega) (by omega), e 1 (by omega) (by omega), e 2 (by omega) (by omega), e 3 (by omega) (by omega), e 4 (by omega) (by omega), e 5 (by omega) (by omega)]
theorem fBt_eq {m m' : Int → Int} {x : Int} (e : ∀ w, 0 ≤ w → w < 10 → m' (548 + 10 * x + w) = m (548 + 10 * x + w)) : fBt m' x = fBt m x := by
  unfold fBt
  rw [e 0 (by omega) (by omega), e 1 (by omega) (by omega), e 2 (by omega) (by omega), e 3 (by omega) (by omega), e 4 (by omega) (by omega), e 5 (by omega) (by omega), e 6 (by omega) (by omega), e 7 (by omega) (by omega), e 8 (by omega) (by omega), e 9 (by omega) (by omega)]
section SPS
variable {G : xG} {a κ : Nat} {β : Nat → Int → Int} {m m' od : Int → Int} {oc u x v z n : Int} {H H1 : Heap}
theorem sU.kept (h : sU G a m n H) (hq : ∀ q : Nat, a + 10 ≤ q → q < a + 18 → H1[q]? = H[q]?) : sU G a m n H1 := fun u u0 u1 => by
  obtain ⟨fs, h1, h2⟩ := h u u0 u1
  exact ⟨fs, h1.kept (hq _ (by unfold uA; omega) (by unfold uA; omega)), h2⟩
theorem sU.congr (h : sU G a m n H) (e : ∀ u, 0 ≤ u → u < n → ∀ w, 0 ≤ w → w < 6 → m' (5 + 6 * u + w) = m (5 + 6 * u + w)) : sU G a m' n H := fun u u0 u1 => by
  obtain ⟨fs, h1, h2, h3⟩ := h u u0 u1
  exact ⟨fs, h1, h2, fun q => by rw [h3 q, fU_eq (e u u0 q)]⟩
theorem sB.kept (h : sB G a m n H) (hq : ∀ q : Nat, a + 18 ≤ q → q < a + 30 → H1[q]? = H[q]?) : sB G a m n H1 := fun u u0 u1 => by
  obtain ⟨fs, h1, h2⟩ := h u u0 u1
  exact ⟨fs, h1.kept (hq _ (by unfold bA; omega) (by unfold bA; omega)), h2⟩
theorem sB.congr (h : sB G a m n H) (e : ∀ x, 0 ≤ x → x < n → ∀ w, 0 ≤ w → w < 10 → m' (548 + 10 * x + w) = m (548 + 10 * x + w)) : sB G a m' n H := fun u u0 u1 => by
  obtain ⟨fs, h1, h2, h3⟩ := h u u0 u1
  exact ⟨fs, h1, h2, fun q => by rw [h3 q, fBt_eq (e u u0 q)]⟩
theorem JR.kept {j : Nat} {nx ln : Int} {j0 j1 j2 : Int → Int} (h : JR G j nx ln j0 j1 j2 H) (hq : ∀ q : Nat, j ≤ q → q < j + 4 → H1[q]? = H[q]?) : JR G j nx ln j0 j1 j2 H1 := by
  obtain ⟨h1, h2, h3, h4, h5⟩ := h
  exact ⟨h1.kept (hq _ (by omega) (by omega)), h2.kept (hq _ (by omega) (by omega)), h3.kept (hq _ (by omega) (by omega)), h4.kept (hq _ (by omega) (by omega)), h5⟩
theorem sJ.kept (h : sJ G a m H) (hq : ∀ q : Nat, a + 5 ≤ q → q < a + 9 → H1[q]? = H[q]?) : sJ G a m H1 := by
  obtain ⟨nx, j0, j1, j2, h1, h2⟩ := h
  exact ⟨nx, j0, j1, j2, h1.kept (fun q q0 q1 => hq q q0 (by omega)), h2⟩
theorem sJ.congr (h : sJ G a m H) (e4 : m' 4 = m 4) (e : ∀ k, 668 ≤ k → k < 788 → m' k = m k) : sJ G a m' H := by
  obtain ⟨nx, j0, j1, j2, h1, h2⟩ := h
  refine ⟨nx, j0, j1, j2, by rw [e4]; exact h1, fun i i0 i1 => ?_⟩
  have hl := h1.2.2.2.2.2.1
  rw [e4] at i1
  rw [e _ (by omega) (by omega), e _ (by omega) (by omega), e _ (by omega) (by omega)]
  exact h2 i i0 i1
theorem bkH.kept (h : bkH G κ β H) (hq : ∀ q : Nat, κ ≤ q → q < κ + 8 → H1[q]? = H[q]?) : bkH G κ β H1 := by
  obtain ⟨h1, h2, h3, h4, h5⟩ := h
  exact ⟨h1.kept (hq _ (by omega) (by omega)), h2.kept (hq _ (by omega) (by omega)), h3.kept (hq _ (by omega) (by omega)), fun w hw => (h4 w hw).kept (hq _ (by omega) (by omega)), h5⟩
theorem bkOK.congr (h : bkOK β m) (e : ∀ k, 56 ≤ k → k < 548 → m' k = m k) : bkOK β m' := fun r v r0 r1 v0 v9 v1 => by
  rw [e _ (by omega) (by omega)] at v1
  obtain ⟨g1, g2⟩ := h r v r0 r1 v0 v9 v1
  rw [e (62 + (9 * r + v - 1)) (by omega) (by omega)]
  refine ⟨g1, fun k k0 k8 k1 w w0 w1 => ?_⟩
  rw [e _ (by omega) (by omega)]
  exact g2 k k0 k8 k1 w w0 w1
theorem SG.kept {c2 c3 c1 c0 nu nb : Int} {hf vf : Int → Int} {J : Heap → Prop} (h : SG G a κ c2 c3 oc c1 c0 hf vf J od m nu nb H) (hJ : J H1) (hq : ∀ q : Nat, a ≤ q → q < a + 30 → H1[q]? = H[q]?) : SG G a κ c2 c3 oc c1 c0 hf vf J od m nu nb H1 := by
  obtain ⟨h0, hu, hb, hh, hv, hj, ho, hU, hB⟩ := h
  exact ⟨h0.kept (hq _ (by omega) (by omega)), hu.kept (hq _ (by omega) (by omega)), hb.kept (hq _ (by omega) (by omega)), hh.kept (hq _ (by omega) (by omega)), hv.kept (hq _ (by omega) (by omega)), hJ, ho.kept (hq _ (by omega) (by omega)), hU.kept (fun q q0 q1 => hq q (by omega) (by omega)), hB.kept (fun q q0 q1 => hq q (by omega) (by omega))⟩
theorem SP.kept (h : SP G a κ m od oc H) (hq : ∀ q : Nat, a ≤ q → q < a + 30 → H1[q]? = H[q]?) : SP G a κ m od oc H1 :=
  ⟨h.1.kept (h.1.2.2.2.2.2.1.kept (fun q q0 q1 => hq q (by omega) (by omega))) hq, h.2⟩
theorem PS.kept (h : PS G a κ β m od oc H) (hq : ∀ q : Nat, a ≤ q → q < a + 30 → H1[q]? = H[q]?) (hk : ∀ q : Nat, κ ≤ q → q < κ + 8 → H1[q]? = H[q]?) : PS G a κ β m od oc H1 :=
  ⟨h.1.kept hq, h.2.1.kept hk, h.2.2⟩
theorem PS.o (h : PS G a κ β m od oc H) : oat G a 3 (hdS κ a (m 2) (m 3) oc (m 1) (m 0)) H := h.1.1.1
theorem PS.rv : ∀ H, PS G a κ β m od oc H → ∃ fs, oat G a 3 fs H := fun _ h => ⟨_, PS.o h⟩
theorem PS.rvJ : ∀ H, PS G a κ β m od oc H → ∃ fs, oat G (a + 5) 2 fs H := fun _ h => by
  obtain ⟨nx, j0, j1, j2, h1, -⟩ := h.1.1.2.2.2.2.2.1
  exact ⟨_, h1.1⟩
theorem PS.rvK : ∀ H, PS G a κ β m od oc H → ∃ fs, oat G κ 1 fs H := fun _ h => ⟨_, h.2.1.1⟩
theorem PS.rvU (h : 0 ≤ u ∧ u < 8) : ∀ H, PS G a κ β m od oc H → ∃ fs, oat G (uA a u) 5 fs H := fun _ hp => by
  obtain ⟨fs, h1, -⟩ := hp.1.1.2.2.2.2.2.2.2.1 u h.1 h.2
  exact ⟨fs, h1⟩
theorem PS.rvB (h : 0 ≤ x ∧ x < 12) : ∀ H, PS G a κ β m od oc H → ∃ fs, oat G (bA a x) 0 fs H := fun _ hp => by
  obtain ⟨fs, h1, -⟩ := hp.1.1.2.2.2.2.2.2.2.2 x h.1 h.2
  exact ⟨fs, h1⟩
theorem PS.mok (h : PS G a κ β m od oc H) : mOK m := h.1.2.1
theorem PS.ou (h : 0 ≤ u ∧ u < m 2) : ∀ H, PS G a κ β m od oc H → oat G (uA a u) 5 (fU m u) H := fun _ hp => by
  have hm := hp.1.2.1
  unfold mOK at hm
  obtain ⟨fs, h1, h2, h3⟩ := hp.1.1.2.2.2.2.2.2.2.1 u h.1 (by omega)
  rw [← h3 h.2]
  exact h1
theorem PS.ob (h : 0 ≤ x ∧ x < m 3) : ∀ H, PS G a κ β m od oc H → oat G (bA a x) 0 (fBt m x) H := fun _ hp => by
  have hm := hp.1.2.1
  unfold mOK at hm
  obtain ⟨fs, h1, h2, h3⟩ := hp.1.1.2.2.2.2.2.2.2.2 x h.1 (by omega)
  rw [← h3 h.2]
  exact h1
theorem PS.bk : ∀ H, PS G a κ β m od oc H → bkH G κ β H := fun _ hp => hp.2.1
theorem PS.g7 : ∀ H, PS G a κ β m od oc H → ∃ fs, oat G a 3 fs H ∧ fs[7]? = some (vi (m 2)) ∧ (-2147483648 ≤ m 2 ∧ m 2 < 2147483648) := fun _ h => ⟨_, PS.o h, rfl, h.1.2.1.2.2.2 2⟩
theorem PS.g8 : ∀ H, PS G a κ β m od oc H → ∃ fs, oat G a 3 fs H ∧ fs[8]? = some (vi (m 3)) ∧ (-2147483648 ≤ m 3 ∧ m 3 < 2147483648) := fun _ h => ⟨_, PS.o h, rfl, h.1.2.1.2.2.2 3⟩
theorem PS.g9 : ∀ H, PS G a κ β m od oc H → ∃ fs, oat G a 3 fs H ∧ fs[9]? = some (vi oc) ∧ (-2147483648 ≤ oc ∧ oc < 2147483648) := fun _ h => ⟨_, PS.o h, rfl, by have := h.1.2.2.2; omega⟩
theorem PS.g10 : ∀ H, PS G a κ β m od oc H → ∃ fs, oat G a 3 fs H ∧ fs[10]? = some (vi (m 1)) ∧ (-2147483648 ≤ m 1 ∧ m 1 < 2147483648) := fun _ h => ⟨_, PS.o h, rfl, h.1.2.1.2.2.2 1⟩
theorem PS.g11 : ∀ H, PS G a κ β m od oc H → ∃ fs, oat G a 3 fs H ∧ fs[11]? = some (vi (m 0)) ∧ (-2147483648 ≤ m 0 ∧ m 0 < 2147483648) := fun _ h => ⟨_, PS.o h, rfl, h.1.2.1.2.2.2 0⟩
theorem PS.au (h : 0 ≤ u ∧ u < 8) : ∀ H, PS G a κ β m od oc H → rat G 3 (a + 1) 8 (fun k => some (a + 10 + k)) H ∧ (fun k => some (a + 10 + k)) u.toNat = some (uA a u) := fun _ hp => ⟨hp.1.1.2.1, rfl⟩
theorem PS.ab (h : 0 ≤ x ∧ x < 12) : ∀ H, PS G a κ β m od oc H → rat G 4 (a + 2) 12 (fun k => some (a + 18 + k)) H ∧ (fun k => some (a + 18 + k)) x.toNat = some (bA a x) := fun _ hp => ⟨hp.1.1.2.2.1, rfl⟩
theorem PS.ah : ∀ H, PS G a κ β m od oc H → aat G 0 (a + 3) 3 (fun k => m (53 + k)) H ∧ ∀ k, -2147483648 ≤ (fun k => m (53 + k)) k ∧ (fun k => m (53 + k)) k < 2147483648 := fun _ hp => ⟨hp.1.1.2.2.2.1, fun k => hp.1.2.1.2.2.2 (53 + k)⟩
theorem PS.av : ∀ H, PS G a κ β m od oc H → aat G 0 (a + 4) 6 (fun k => m (56 + k)) H ∧ ∀ k, -2147483648 ≤ (fun k => m (56 + k)) k ∧ (fun k => m (56 + k)) k < 2147483648 := fun _ hp => ⟨hp.1.1.2.2.2.2.1, fun k => hp.1.2.1.2.2.2 (56 + k)⟩
theorem PS.ao : ∀ H, PS G a κ β m od oc H → aat G 0 (a + 9) 12 od H ∧ ∀ k, -2147483648 ≤ od k ∧ od k < 2147483648 := fun _ hp => ⟨hp.1.1.2.2.2.2.2.2.1, hp.1.2.2.1⟩
/-- a write into a unit or a batch -/
theorem PS.updUB (h : PS G a κ β m od oc H) (hq : ∀ q : Nat, q < a + 10 → H1[q]? = H[q]?) (e : ∀ k, (k < 5 ∨ 53 ≤ k) → (k < 548 ∨ 668 ≤ k) → m' k = m k) (hr : ∀ k, -2147483648 ≤ m' k ∧ m' k < 2147483648) (hU : sU G a m' (m 2) H1) (hB : sB G a m' (m 3) H1) : PS G a κ β m' od oc H1 := by
  obtain ⟨⟨⟨h0, hu, hb, hh, hv, hj, ho, -, -⟩, hm, hod⟩, hk, hbk, hka⟩ := h
  have e0 := e 0 (by omega) (by omega)
  have e1 := e 1 (by omega) (by omega)
  have e2 := e 2 (by omega) (by omega)
  have e3 := e 3 (by omega) (by omega)
  have e4 := e 4 (by omega) (by omega)
  unfold mOK at hm
  refine ⟨⟨⟨?_, hu.kept (hq _ (by omega)), hb.kept (hq _ (by omega)), (hh.kept (hq _ (by omega))).congr (fun k k0 k1 => (e _ (by omega) (by omega)).symm), (hv.kept (hq _ (by omega))).congr (fun k k0 k1 => (e _ (by omega) (by omega)).symm), (hj.kept (fun q q0 q1 => hq q (by omega))).congr e4 (fun k k0 k1 => e _ (by omega) (by omega)), ho.kept (hq _ (by omega)), by rw [e2]; exact hU, by rw [e3]; exact hB⟩, ?_, hod⟩, hk.kept (fun q q0 q1 => hq q (by omega)), hbk.congr (fun k k0 k1 => e _ (by omega) (by omega)), hka⟩
  · rw [e0, e1, e2, e3]
    exact h0.kept (hq _ (by omega))
  · unfold mOK
    rw [e2, e3, e4]
    exact ⟨hm.1, hm.2.1, hm.2.2.1, hr⟩
theorem PS.pu (h : 0 ≤ u ∧ u < m 2) {k w : Int} {kn : Nat} (hw : 0 ≤ w ∧ w < 6) (hv : -2147483648 ≤ v ∧ v < 2147483648) (hkn : kn < 6) (eU : fU (up m (5 + 6 * u + w) v) u = (fU m u).set kn (vi v)) : ∀ H, PS G a κ β m od oc H → ∃ fs, oat G (uA a u) 5 fs H ∧ kn < fs.length ∧ ∀ H1, oat G (uA a u) 5 (fs.set kn (vi v)) H1 → H1.size = H.size → (∀ q, q ≠ uA a u → H1[q]? = H[q]?) → PS G a κ β (up m (5 + 6 * u + w) v) od oc H1 := by
  intro H hp
  have hm := hp.1.2.1
  unfold mOK at hm
  obtain ⟨fs, f1, f2, f3⟩ := hp.1.1.2.2.2.2.2.2.2.1 u h.1 (by omega)
  refine ⟨fs, f1, by omega, fun H1 e _ hq => hp.updUB (fun q q0 => hq q (by unfold uA; omega)) (fun k k0 k1 => up_ne (by omega)) (up_rg hm.2.2.2 hv) (fun u' u0 u1 => ?_) (((hp.1.1.2.2.2.2.2.2.2.2).kept (fun q q0 q1 => hq q (by unfold uA; omega))).congr (fun x x0 x1 w w0 w1 => up_ne (by omega)))⟩
  by_cases eu : u' = u
  · subst eu
    exact ⟨_, e, by rw [List.length_set]; exact f2, fun _ => by rw [eU, ← f3 h.2]⟩
  · obtain ⟨fs', g1, g2, g3⟩ := hp.1.1.2.2.2.2.2.2.2.1 u' u0 u1
    exact ⟨fs', g1.kept (hq _ (by unfold uA; omega)), g2, fun q => by rw [g3 q]; exact (fU_eq (fun w w0 w1 => up_ne (by omega))).symm⟩
theorem PS.pb (h : 0 ≤ x ∧ x < m 3) {w : Int} {kn : Nat} {vv : Value} (hw : 0 ≤ w ∧ w < 10) (hv : -2147483648 ≤ v ∧ v < 2147483648) (hkn : kn < 10) (eB : fBt (up m (548 + 10 * x + w) v) x = (fBt m x).set kn vv) : ∀ H, PS G a κ β m od oc H → ∃ fs, oat G (bA a x) 0 fs H ∧ kn < fs.length ∧ ∀ H1, oat G (bA a x) 0 (fs.set kn vv) H1 → H1.size = H.size → (∀ q, q ≠ bA a x → H1[q]? = H[q]?) → PS G a κ β (up m (548 + 10 * x + w) v) od oc H1 := by
  intro H hp
  have hm := hp.1.2.1
  unfold mOK at hm
  obtain ⟨fs, f1, f2, f3⟩ := hp.1.1.2.2.2.2.2.2.2.2 x h.1 (by omega)
  refine ⟨fs, f1, by omega, fun H1 e _ hq => hp.updUB (fun q q0 => hq q (by unfold bA; omega)) (fun k k0 k1 => up_ne (by omega)) (up_rg hm.2.2.2 hv) (((hp.1.1.2.2.2.2.2.2.2.1).kept (fun q q0 q1 => hq q (by unfold bA; omega))).congr (fun x x0 x1 w w0 w1 => up_ne (by omega))) (fun u' u0 u1 => ?_)⟩
  by_cases eu : u' = x
  · subst eu
    exact ⟨_, e, by rw [List.length_set]; exact f2, fun _ => by rw [eB, ← f3 h.2]⟩
  · obtain ⟨fs', g1, g2, g3⟩ := hp.1.1.2.2.2.2.2.2.2.2 u' u0 u1
    exact ⟨fs', g1.kept (hq _ (by unfold bA; omega)), g2, fun q => by rw [g3 q]; exact (fBt_eq (fun w w0 w1 => up_ne (by omega))).symm⟩
theorem PS.gu0 (h : 0 ≤ u ∧ u < m 2) : ∀ H, PS G a κ β m od oc H → ∃ fs, oat G (uA a u) 5 fs H ∧ fs[0]? = some (vi (m (5 + 6 * u + 0))) ∧ (-2147483648 ≤ m (5 + 6 * u + 0) ∧ m (5 + 6 * u + 0) < 2147483648) := fun H hp => ⟨_, PS.ou h H hp, rfl, hp.1.2.1.2.2.2 _⟩
theorem PS.pu0 (h : 0 ≤ u ∧ u < m 2) (hv : -2147483648 ≤ v ∧ v < 2147483648) : ∀ H, PS G a κ β m od oc H → ∃ fs, oat G (uA a u) 5 fs H ∧ 0 < fs.length ∧ ∀ H1, oat G (uA a u) 5 (fs.set 0 (vi v)) H1 → H1.size = H.size → (∀ q, q ≠ uA a u → H1[q]? = H[q]?) → PS G a κ β (up m (5 + 6 * u + 0) v) od oc H1 := PS.pu (k := 0) h (by omega) hv (by omega) (by
  unfold fU
  rw [up_eq (show 5 + 6 * u + 0 = 5 + 6 * u + 0 from rfl), up_ne (show 5 + 6 * u + 1 ≠ 5 + 6 * u + 0 by omega), up_ne (show 5 + 6 * u + 2 ≠ 5 + 6 * u + 0 by omega), up_ne (show 5 + 6 * u + 3 ≠ 5 + 6 * u + 0 by omega), up_ne (show 5 + 6 * u + 4 ≠ 5 + 6 * u + 0 by omega), up_ne (show 5 + 6 * u + 5 ≠ 5 + 6 * u + 0 by omega)]
  rfl)
theorem PS.gu1 (h : 0 ≤ u ∧ u < m 2) : ∀ H, PS G a κ β m od oc H → ∃ fs, oat G (uA a u) 5 fs H ∧ fs[1]? = some (vi (m (5 + 6 * u + 1))) ∧ (-2147483648 ≤ m (5 + 6 * u + 1) ∧ m (5 + 6 * u + 1) < 2147483648) := fun H hp => ⟨_, PS.ou h H hp, rfl, hp.1.2.1.2.2.2 _⟩
theorem PS.pu1 (h : 0 ≤ u ∧ u < m 2) (hv : -2147483648 ≤ v ∧ v < 2147483648) : ∀ H, PS G a κ β m od oc H → ∃ fs, oat G (uA a u) 5 fs H ∧ 1 < fs.length ∧ ∀ H1, oat G (uA a u) 5 (fs.set 1 (vi v)) H1 → H1.size = H.size → (∀ q, q ≠ uA a u → H1[q]? = H[q]?) → PS G a κ β (up m (5 + 6 * u + 1) v) od oc H1 := PS.pu (k := 0) h (by omega) hv (by omega) (by
  unfold fU
  rw [up_ne (show 5 + 6 * u + 0 ≠ 5 + 6 * u + 1 by omega), up_eq (show 5 + 6 * u + 1 = 5 + 6 * u + 1 from rfl), up_ne (show 5 + 6 * u + 2 ≠ 5 + 6 * u + 1 by omega), up_ne (show 5 + 6 * u + 3 ≠ 5 + 6 * u + 1 by omega), up_ne (show 5 + 6 * u + 4 ≠ 5 + 6 * u + 1 by omega), up_ne (show 5 + 6 * u + 5 ≠ 5 + 6 * u + 1 by omega)]
  rfl)
theorem PS.gu2 (h : 0 ≤ u ∧ u < m 2) : ∀ H, PS G a κ β m od oc H → ∃ fs, oat G (uA a u) 5 fs H ∧ fs[2]? = some (vi (m (5 + 6 * u + 2))) ∧ (-2147483648 ≤ m (5 + 6 * u + 2) ∧ m (5 + 6 * u + 2) < 2147483648) := fun H hp => ⟨_, PS.ou h H hp, rfl, hp.1.2.1.2.2.2 _⟩
theorem PS.pu2 (h : 0 ≤ u ∧ u < m 2) (hv : -2147483648 ≤ v ∧ v < 2147483648) : ∀ H, PS G a κ β m od oc H → ∃ fs, oat G (uA a u) 5 fs H ∧ 2 < fs.length ∧ ∀ H1, oat G (uA a u) 5 (fs.set 2 (vi v)) H1 → H1.size = H.size → (∀ q, q ≠ uA a u → H1[q]? = H[q]?) → PS G a κ β (up m (5 + 6 * u + 2) v) od oc H1 := PS.pu (k := 0) h (by omega) hv (by omega) (by
  unfold fU
  rw [up_ne (show 5 + 6 * u + 0 ≠ 5 + 6 * u + 2 by omega), up_ne (show 5 + 6 * u + 1 ≠ 5 + 6 * u + 2 by omega), up_eq (show 5 + 6 * u + 2 = 5 + 6 * u + 2 from rfl), up_ne (show 5 + 6 * u + 3 ≠ 5 + 6 * u + 2 by omega), up_ne (show 5 + 6 * u + 4 ≠ 5 + 6 * u + 2 by omega), up_ne (show 5 + 6 * u + 5 ≠ 5 + 6 * u + 2 by omega)]
  rfl)
theorem PS.gu3 (h : 0 ≤ u ∧ u < m 2) : ∀ H, PS G a κ β m od oc H → ∃ fs, oat G (uA a u) 5 fs H ∧ fs[3]? = some (vi (m (5 + 6 * u + 4))) ∧ (-2147483648 ≤ m (5 + 6 * u + 4) ∧ m (5 + 6 * u + 4) < 2147483648) := fun H hp => ⟨_, PS.ou h H hp, rfl, hp.1.2.1.2.2.2 _⟩
theorem PS.pu3 (h : 0 ≤ u ∧ u < m 2) (hv : -2147483648 ≤ v ∧ v < 2147483648) : ∀ H, PS G a κ β m od oc H → ∃ fs, oat G (uA a u) 5 fs H ∧ 3 < fs.length ∧ ∀ H1, oat G (uA a u) 5 (fs.set 3 (vi v)) H1 → H1.size = H.size → (∀ q, q ≠ uA a u → H1[q]? = H[q]?) → PS G a κ β (up m (5 + 6 * u + 4) v) od oc H1 := PS.pu (k := 0) h (by omega) hv (by omega) (by
  unfold fU
  rw [up_ne (show 5 + 6 * u + 0 ≠ 5 + 6 * u + 4 by omega), up_ne (show 5 + 6 * u + 1 ≠ 5 + 6 * u + 4 by omega), up_ne (show 5 + 6 * u + 2 ≠ 5 + 6 * u + 4 by omega), up_ne (show 5 + 6 * u + 3 ≠ 5 + 6 * u + 4 by omega), up_eq (show 5 + 6 * u + 4 = 5 + 6 * u + 4 from rfl), up_ne (show 5 + 6 * u + 5 ≠ 5 + 6 * u + 4 by omega)]
  rfl)
theorem PS.gu4 (h : 0 ≤ u ∧ u < m 2) : ∀ H, PS G a κ β m od oc H → ∃ fs, oat G (uA a u) 5 fs H ∧ fs[4]? = some (vi (m (5 + 6 * u + 5))) ∧ (-2147483648 ≤ m (5 + 6 * u + 5) ∧ m (5 + 6 * u + 5) < 2147483648) := fun H hp => ⟨_, PS.ou h H hp, rfl, hp.1.2.1.2.2.2 _⟩
theorem PS.pu4 (h : 0 ≤ u ∧ u < m 2) (hv : -2147483648 ≤ v ∧ v < 2147483648) : ∀ H, PS G a κ β m od oc H → ∃ fs, oat G (uA a u) 5 fs H ∧ 4 < fs.length ∧ ∀ H1, oat G (uA a u) 5 (fs.set 4 (vi v)) H1 → H1.size = H.size → (∀ q, q ≠ uA a u → H1[q]? = H[q]?) → PS G a κ β (up m (5 + 6 * u + 5) v) od oc H1 := PS.pu (k := 0) h (by omega) hv (by omega) (by
  unfold fU
  rw [up_ne (show 5 + 6 * u + 0 ≠ 5 + 6 * u + 5 by omega), up_ne (show 5 + 6 * u + 1 ≠ 5 + 6 * u + 5 by omega), up_ne (show 5 + 6 * u + 2 ≠ 5 + 6 * u + 5 by omega), up_ne (show 5 + 6 * u + 3 ≠ 5 + 6 * u + 5 by omega), up_ne (show 5 + 6 * u + 4 ≠ 5 + 6 * u + 5 by omega), up_eq (show 5 + 6 * u + 5 = 5 + 6 * u + 5 from rfl)]
  rfl)
theorem PS.gu5 (h : 0 ≤ u ∧ u < m 2) : ∀ H, PS G a κ β m od oc H → ∃ fs, oat G (uA a u) 5 fs H ∧ fs[5]? = some (vi (m (5 + 6 * u + 3))) ∧ (-2147483648 ≤ m (5 + 6 * u + 3) ∧ m (5 + 6 * u + 3) < 2147483648) := fun H hp => ⟨_, PS.ou h H hp, rfl, hp.1.2.1.2.2.2 _⟩
theorem PS.pu5 (h : 0 ≤ u ∧ u < m 2) (hv : -2147483648 ≤ v ∧ v < 2147483648) : ∀ H, PS G a κ β m od oc H → ∃ fs, oat G (uA a u) 5 fs H ∧ 5 < fs.length ∧ ∀ H1, oat G (uA a u) 5 (fs.set 5 (vi v)) H1 → H1.size = H.size → (∀ q, q ≠ uA a u → H1[q]? = H[q]?) → PS G a κ β (up m (5 + 6 * u + 3) v) od oc H1 := PS.pu (k := 0) h (by omega) hv (by omega) (by
  unfold fU
  rw [up_ne (show 5 + 6 * u + 0 ≠ 5 + 6 * u + 3 by omega), up_ne (show 5 + 6 * u + 1 ≠ 5 + 6 * u + 3 by omega), up_ne (show 5 + 6 * u + 2 ≠ 5 + 6 * u + 3 by omega), up_eq (show 5 + 6 * u + 3 = 5 + 6 * u + 3 from rfl), up_ne (show 5 + 6 * u + 4 ≠ 5 + 6 * u + 3 by omega), up_ne (show 5 + 6 * u + 5 ≠ 5 + 6 * u + 3 by omega)]
  rfl)
theorem PS.gb0 (h : 0 ≤ x ∧ x < m 3) : ∀ H, PS G a κ β m od oc H → ∃ fs, oat G (bA a x) 0 fs H ∧ fs[0]? = some (vi (m (548 + 10 * x + 0))) ∧ (-2147483648 ≤ m (548 + 10 * x + 0) ∧ m (548 + 10 * x + 0) < 2147483648) := fun H hp => ⟨_, PS.ob h H hp, rfl, hp.1.2.1.2.2.2 _⟩
theorem PS.pb0 (h : 0 ≤ x ∧ x < m 3) (hv : -2147483648 ≤ v ∧ v < 2147483648) : ∀ H, PS G a κ β m od oc H → ∃ fs, oat G (bA a x) 0 fs H ∧ 0 < fs.length ∧ ∀ H1, oat G (bA a x) 0 (fs.set 0 (vi v)) H1 → H1.size = H.size → (∀ q, q ≠ bA a x → H1[q]? = H[q]?) → PS G a κ β (up m (548 + 10 * x + 0) v) od oc H1 := PS.pb h (by omega) hv (by omega) (by
  unfold fBt
  rw [up_eq (show 548 + 10 * x + 0 = 548 + 10 * x + 0 from rfl), up_ne (show 548 + 10 * x + 1 ≠ 548 + 10 * x + 0 by omega), up_ne (show 548 + 10 * x + 2 ≠ 548 + 10 * x + 0 by omega), up_ne (show 548 + 10 * x + 3 ≠ 548 + 10 * x + 0 by omega), up_ne (show 548 + 10 * x + 4 ≠ 548 + 10 * x + 0 by omega), up_ne (show 548 + 10 * x + 5 ≠ 548 + 10 * x + 0 by omega), up_ne (show 548 + 10 * x + 6 ≠ 548 + 10 * x + 0 by omega), up_ne (show 548 + 10 * x + 7 ≠ 548 + 10 * x + 0 by omega), up_ne (show 548 + 10 * x + 8 ≠ 548 + 10 * x + 0 by omega), up_ne (show 548 + 10 * x + 9 ≠ 548 + 10 * x + 0 by omega)]
  rfl)
theorem PS.gb1 (h : 0 ≤ x ∧ x < m 3) : ∀ H, PS G a κ β m od oc H → ∃ fs, oat G (bA a x) 0 fs H ∧ fs[1]? = some (vi (m (548 + 10 * x + 1))) ∧ (-2147483648 ≤ m (548 + 10 * x + 1) ∧ m (548 + 10 * x + 1) < 2147483648) := fun H hp => ⟨_, PS.ob h H hp, rfl, hp.1.2.1.2.2.2 _⟩
theorem PS.pb1 (h : 0 ≤ x ∧ x < m 3) (hv : -2147483648 ≤ v ∧ v < 2147483648) : ∀ H, PS G a κ β m od oc H → ∃ fs, oat G (bA a x) 0 fs H ∧ 1 < fs.length ∧ ∀ H1, oat G (bA a x) 0 (fs.set 1 (vi v)) H1 → H1.size = H.size → (∀ q, q ≠ bA a x → H1[q]? = H[q]?) → PS G a κ β (up m (548 + 10 * x + 1) v) od oc H1 := PS.pb h (by omega) hv (by omega) (by
  unfold fBt
  rw [up_ne (show 548 + 10 * x + 0 ≠ 548 + 10 * x + 1 by omega), up_eq (show 548 + 10 * x + 1 = 548 + 10 * x + 1 from rfl), up_ne (show 548 + 10 * x + 2 ≠ 548 + 10 * x + 1 by omega), up_ne (show 548 + 10 * x + 3 ≠ 548 + 10 * x + 1 by omega), up_ne (show 548 + 10 * x + 4 ≠ 548 + 10 * x + 1 by omega), up_ne (show 548 + 10 * x + 5 ≠ 548 + 10 * x + 1 by omega), up_ne (show 548 + 10 * x + 6 ≠ 548 + 10 * x + 1 by omega), up_ne (show 548 + 10 * x + 7 ≠ 548 + 10 * x + 1 by omega), up_ne (show 548 + 10 * x + 8 ≠ 548 + 10 * x + 1 by omega), up_ne (show 548 + 10 * x + 9 ≠ 548 + 10 * x + 1 by omega)]
  rfl)
theorem PS.gb2 (h : 0 ≤ x ∧ x < m 3) : ∀ H, PS G a κ β m od oc H → ∃ fs, oat G (bA a x) 0 fs H ∧ fs[2]? = some (vi (m (548 + 10 * x + 2))) ∧ (-2147483648 ≤ m (548 + 10 * x + 2) ∧ m (548 + 10 * x + 2) < 2147483648) := fun H hp => ⟨_, PS.ob h H hp, rfl, hp.1.2.1.2.2.2 _⟩
theorem PS.pb2 (h : 0 ≤ x ∧ x < m 3) (hv : -2147483648 ≤ v ∧ v < 2147483648) : ∀ H, PS G a κ β m od oc H → ∃ fs, oat G (bA a x) 0 fs H ∧ 2 < fs.length ∧ ∀ H1, oat G (bA a x) 0 (fs.set 2 (vi v)) H1 → H1.size = H.size → (∀ q, q ≠ bA a x → H1[q]? = H[q]?) → PS G a κ β (up m (548 + 10 * x + 2) v) od oc H1 := PS.pb h (by omega) hv (by omega) (by
  unfold fBt
  rw [up_ne (show 548 + 10 * x + 0 ≠ 548 + 10 * x + 2 by omega), up_ne (show 548 + 10 * x + 1 ≠ 548 + 10 * x + 2 by omega), up_eq (show 548 + 10 * x + 2 = 548 + 10 * x + 2 from rfl), up_ne (show 548 + 10 * x + 3 ≠ 548 + 10 * x + 2 by omega), up_ne (show 548 + 10 * x + 4 ≠ 548 + 10 * x + 2 by omega), up_ne (show 548 + 10 * x + 5 ≠ 548 + 10 * x + 2 by omega), up_ne (show 548 + 10 * x + 6 ≠ 548 + 10 * x + 2 by omega), up_ne (show 548 + 10 * x + 7 ≠ 548 + 10 * x + 2 by omega), up_ne (show 548 + 10 * x + 8 ≠ 548 + 10 * x + 2 by omega), up_ne (show 548 + 10 * x + 9 ≠ 548 + 10 * x + 2 by omega)]
  rfl)
theorem PS.gb3 (h : 0 ≤ x ∧ x < m 3) : ∀ H, PS G a κ β m od oc H → ∃ fs, oat G (bA a x) 0 fs H ∧ fs[3]? = some (vi (m (548 + 10 * x + 3))) ∧ (-2147483648 ≤ m (548 + 10 * x + 3) ∧ m (548 + 10 * x + 3) < 2147483648) := fun H hp => ⟨_, PS.ob h H hp, rfl, hp.1.2.1.2.2.2 _⟩
theorem PS.pb3 (h : 0 ≤ x ∧ x < m 3) (hv : -2147483648 ≤ v ∧ v < 2147483648) : ∀ H, PS G a κ β m od oc H → ∃ fs, oat G (bA a x) 0 fs H ∧ 3 < fs.length ∧ ∀ H1, oat G (bA a x) 0 (fs.set 3 (vi v)) H1 → H1.size = H.size → (∀ q, q ≠ bA a x → H1[q]? = H[q]?) → PS G a κ β (up m (548 + 10 * x + 3) v) od oc H1 := PS.pb h (by omega) hv (by omega) (by
  unfold fBt
  rw [up_ne (show 548 + 10 * x + 0 ≠ 548 + 10 * x + 3 by omega), up_ne (show 548 + 10 * x + 1 ≠ 548 + 10 * x + 3 by omega), up_ne (show 548 + 10 * x + 2 ≠ 548 + 10 * x + 3 by omega), up_eq (show 548 + 10 * x + 3 = 548 + 10 * x + 3 from rfl), up_ne (show 548 + 10 * x + 4 ≠ 548 + 10 * x + 3 by omega), up_ne (show 548 + 10 * x + 5 ≠ 548 + 10 * x + 3 by omega), up_ne (show 548 + 10 * x + 6 ≠ 548 + 10 * x + 3 by omega), up_ne (show 548 + 10 * x + 7 ≠ 548 + 10 * x + 3 by omega), up_ne (show 548 + 10 * x + 8 ≠ 548 + 10 * x + 3 by omega), up_ne (show 548 + 10 * x + 9 ≠ 548 + 10 * x + 3 by omega)]
  rfl)
theorem PS.gb4 (h : 0 ≤ x ∧ x < m 3) : ∀ H, PS G a κ β m od oc H → ∃ fs, oat G (bA a x) 0 fs H ∧ fs[4]? = some (vi (m (548 + 10 * x + 4))) ∧ (-2147483648 ≤ m (548 + 10 * x + 4) ∧ m (548 + 10 * x + 4) < 2147483648) := fun H hp => ⟨_, PS.ob h H hp, rfl, hp.1.2.1.2.2.2 _⟩
theorem PS.pb4 (h : 0 ≤ x ∧ x < m 3) (hv : -2147483648 ≤ v ∧ v < 2147483648) : ∀ H, PS G a κ β m od oc H → ∃ fs, oat G (bA a x) 0 fs H ∧ 4 < fs.length ∧ ∀ H1, oat G (bA a x) 0 (fs.set 4 (vi v)) H1 → H1.size = H.size → (∀ q, q ≠ bA a x → H1[q]? = H[q]?) → PS G a κ β (up m (548 + 10 * x + 4) v) od oc H1 := PS.pb h (by omega) hv (by omega) (by
  unfold fBt
  rw [up_ne (show 548 + 10 * x + 0 ≠ 548 + 10 * x + 4 by omega), up_ne (show 548 + 10 * x + 1 ≠ 548 + 10 * x + 4 by omega), up_ne (show 548 + 10 * x + 2 ≠ 548 + 10 * x + 4 by omega), up_ne (show 548 + 10 * x + 3 ≠ 548 + 10 * x + 4 by omega), up_eq (show 548 + 10 * x + 4 = 548 + 10 * x + 4 from rfl), up_ne (show 548 + 10 * x + 5 ≠ 548 + 10 * x + 4 by omega), up_ne (show 548 + 10 * x + 6 ≠ 548 + 10 * x + 4 by omega), up_ne (show 548 + 10 * x + 7 ≠ 548 + 10 * x + 4 by omega), up_ne (show 548 + 10 * x + 8 ≠ 548 + 10 * x + 4 by omega), up_ne (show 548 + 10 * x + 9 ≠ 548 + 10 * x + 4 by omega)]
  rfl)
theorem PS.gb5 (h : 0 ≤ x ∧ x < m 3) : ∀ H, PS G a κ β m od oc H → ∃ fs, oat G (bA a x) 0 fs H ∧ fs[5]? = some (vi (m (548 + 10 * x + 5))) ∧ (-2147483648 ≤ m (548 + 10 * x + 5) ∧ m (548 + 10 * x + 5) < 2147483648) := fun H hp => ⟨_, PS.ob h H hp, rfl, hp.1.2.1.2.2.2 _⟩
theorem PS.pb5 (h : 0 ≤ x ∧ x < m 3) (hv : -2147483648 ≤ v ∧ v < 2147483648) : ∀ H, PS G a κ β m od oc H → ∃ fs, oat G (bA a x) 0 fs H ∧ 5 < fs.length ∧ ∀ H1, oat G (bA a x) 0 (fs.set 5 (vi v)) H1 → H1.size = H.size → (∀ q, q ≠ bA a x → H1[q]? = H[q]?) → PS G a κ β (up m (548 + 10 * x + 5) v) od oc H1 := PS.pb h (by omega) hv (by omega) (by
  unfold fBt
  rw [up_ne (show 548 + 10 * x + 0 ≠ 548 + 10 * x + 5 by omega), up_ne (show 548 + 10 * x + 1 ≠ 548 + 10 * x + 5 by omega), up_ne (show 548 + 10 * x + 2 ≠ 548 + 10 * x + 5 by omega), up_ne (show 548 + 10 * x + 3 ≠ 548 + 10 * x + 5 by omega), up_ne (show 548 + 10 * x + 4 ≠ 548 + 10 * x + 5 by omega), up_eq (show 548 + 10 * x + 5 = 548 + 10 * x + 5 from rfl), up_ne (show 548 + 10 * x + 6 ≠ 548 + 10 * x + 5 by omega), up_ne (show 548 + 10 * x + 7 ≠ 548 + 10 * x + 5 by omega), up_ne (show 548 + 10 * x + 8 ≠ 548 + 10 * x + 5 by omega), up_ne (show 548 + 10 * x + 9 ≠ 548 + 10 * x + 5 by omega)]
  rfl)
theorem PS.gb6 (h : 0 ≤ x ∧ x < m 3) : ∀ H, PS G a κ β m od oc H → ∃ fs, oat G (bA a x) 0 fs H ∧ fs[6]? = some (vi (m (548 + 10 * x + 6))) ∧ (-2147483648 ≤ m (548 + 10 * x + 6) ∧ m (548 + 10 * x + 6) < 2147483648) := fun H hp => ⟨_, PS.ob h H hp, rfl, hp.1.2.1.2.2.2 _⟩
theorem PS.pb6 (h : 0 ≤ x ∧ x < m 3) (hv : -2147483648 ≤ v ∧ v < 2147483648) : ∀ H, PS G a κ β m od oc H → ∃ fs, oat G (bA a x) 0 fs H ∧ 6 < fs.length ∧ ∀ H1, oat G (bA a x) 0 (fs.set 6 (vi v)) H1 → H1.size = H.size → (∀ q, q ≠ bA a x → H1[q]? = H[q]?) → PS G a κ β (up m (548 + 10 * x + 6) v) od oc H1 := PS.pb h (by omega) hv (by omega) (by
  unfold fBt
  rw [up_ne (show 548 + 10 * x + 0 ≠ 548 + 10 * x + 6 by omega), up_ne (show 548 + 10 * x + 1 ≠ 548 + 10 * x + 6 by omega), up_ne (show 548 + 10 * x + 2 ≠ 548 + 10 * x + 6 by omega), up_ne (show 548 + 10 * x + 3 ≠ 548 + 10 * x + 6 by omega), up_ne (show 548 + 10 * x + 4 ≠ 548 + 10 * x + 6 by omega), up_ne (show 548 + 10 * x + 5 ≠ 548 + 10 * x + 6 by omega), up_eq (show 548 + 10 * x + 6 = 548 + 10 * x + 6 from rfl), up_ne (show 548 + 10 * x + 7 ≠ 548 + 10 * x + 6 by omega), up_ne (show 548 + 10 * x + 8 ≠ 548 + 10 * x + 6 by omega), up_ne (show 548 + 10 * x + 9 ≠ 548 + 10 * x + 6 by omega)]
  rfl)
theorem PS.gb7 (h : 0 ≤ x ∧ x < m 3) : ∀ H, PS G a κ β m od oc H → ∃ fs, oat G (bA a x) 0 fs H ∧ fs[7]? = some (vi (m (548 + 10 * x + 7))) ∧ (-2147483648 ≤ m (548 + 10 * x + 7) ∧ m (548 + 10 * x + 7) < 2147483648) := fun H hp => ⟨_, PS.ob h H hp, rfl, hp.1.2.1.2.2.2 _⟩
theorem PS.pb7 (h : 0 ≤ x ∧ x < m 3) (hv : -2147483648 ≤ v ∧ v < 2147483648) : ∀ H, PS G a κ β m od oc H → ∃ fs, oat G (bA a x) 0 fs H ∧ 7 < fs.length ∧ ∀ H1, oat G (bA a x) 0 (fs.set 7 (vi v)) H1 → H1.size = H.size → (∀ q, q ≠ bA a x → H1[q]? = H[q]?) → PS G a κ β (up m (548 + 10 * x + 7) v) od oc H1 := PS.pb h (by omega) hv (by omega) (by
  unfold fBt
  rw [up_ne (show 548 + 10 * x + 0 ≠ 548 + 10 * x + 7 by omega), up_ne (show 548 + 10 * x + 1 ≠ 548 + 10 * x + 7 by omega), up_ne (show 548 + 10 * x + 2 ≠ 548 + 10 * x + 7 by omega), up_ne (show 548 + 10 * x + 3 ≠ 548 + 10 * x + 7 by omega), up_ne (show 548 + 10 * x + 4 ≠ 548 + 10 * x + 7 by omega), up_ne (show 548 + 10 * x + 5 ≠ 548 + 10 * x + 7 by omega), up_ne (show 548 + 10 * x + 6 ≠ 548 + 10 * x + 7 by omega), up_eq (show 548 + 10 * x + 7 = 548 + 10 * x + 7 from rfl), up_ne (show 548 + 10 * x + 8 ≠ 548 + 10 * x + 7 by omega), up_ne (show 548 + 10 * x + 9 ≠ 548 + 10 * x + 7 by omega)]
  rfl)
theorem PS.gb8 (h : 0 ≤ x ∧ x < m 3) : ∀ H, PS G a κ β m od oc H → ∃ fs, oat G (bA a x) 0 fs H ∧ fs[8]? = some (vi (m (548 + 10 * x + 8))) ∧ (-2147483648 ≤ m (548 + 10 * x + 8) ∧ m (548 + 10 * x + 8) < 2147483648) := fun H hp => ⟨_, PS.ob h H hp, rfl, hp.1.2.1.2.2.2 _⟩
theorem PS.pb8 (h : 0 ≤ x ∧ x < m 3) (hv : -2147483648 ≤ v ∧ v < 2147483648) : ∀ H, PS G a κ β m od oc H → ∃ fs, oat G (bA a x) 0 fs H ∧ 8 < fs.length ∧ ∀ H1, oat G (bA a x) 0 (fs.set 8 (vi v)) H1 → H1.size = H.size → (∀ q, q ≠ bA a x → H1[q]? = H[q]?) → PS G a κ β (up m (548 + 10 * x + 8) v) od oc H1 := PS.pb h (by omega) hv (by omega) (by
  unfold fBt
  rw [up_ne (show 548 + 10 * x + 0 ≠ 548 + 10 * x + 8 by omega), up_ne (show 548 + 10 * x + 1 ≠ 548 + 10 * x + 8 by omega), up_ne (show 548 + 10 * x + 2 ≠ 548 + 10 * x + 8 by omega), up_ne (show 548 + 10 * x + 3 ≠ 548 + 10 * x + 8 by omega), up_ne (show 548 + 10 * x + 4 ≠ 548 + 10 * x + 8 by omega), up_ne (show 548 + 10 * x + 5 ≠ 548 + 10 * x + 8 by omega), up_ne (show 548 + 10 * x + 6 ≠ 548 + 10 * x + 8 by omega), up_ne (show 548 + 10 * x + 7 ≠ 548 + 10 * x + 8 by omega), up_eq (show 548 + 10 * x + 8 = 548 + 10 * x + 8 from rfl), up_ne (show 548 + 10 * x + 9 ≠ 548 + 10 * x + 8 by omega)]
  rfl)
theorem PS.gb9 (h : 0 ≤ x ∧ x < m 3) : ∀ H, PS G a κ β m od oc H → ∃ fs, oat G (bA a x) 0 fs H ∧ fs[9]? = some (.float (fB (m (548 + 10 * x + 9)))) := fun H hp => ⟨_, PS.ob h H hp, rfl⟩
theorem PS.pb9 (h : 0 ≤ x ∧ x < m 3) {y : UInt32} : ∀ H, PS G a κ β m od oc H → ∃ fs, oat G (bA a x) 0 fs H ∧ 9 < fs.length ∧ ∀ H1, oat G (bA a x) 0 (fs.set 9 (.float y)) H1 → H1.size = H.size → (∀ q, q ≠ bA a x → H1[q]? = H[q]?) → PS G a κ β (up m (548 + 10 * x + 9) (fI y)) od oc H1 := PS.pb h (by omega) (fI_rg y) (by omega) (by
  unfold fBt
  rw [up_ne (show 548 + 10 * x + 0 ≠ 548 + 10 * x + 9 by omega), up_ne (show 548 + 10 * x + 1 ≠ 548 + 10 * x + 9 by omega), up_ne (show 548 + 10 * x + 2 ≠ 548 + 10 * x + 9 by omega), up_ne (show 548 + 10 * x + 3 ≠ 548 + 10 * x + 9 by omega), up_ne (show 548 + 10 * x + 4 ≠ 548 + 10 * x + 9 by omega), up_ne (show 548 + 10 * x + 5 ≠ 548 + 10 * x + 9 by omega), up_ne (show 548 + 10 * x + 6 ≠ 548 + 10 * x + 9 by omega), up_ne (show 548 + 10 * x + 7 ≠ 548 + 10 * x + 9 by omega), up_ne (show 548 + 10 * x + 8 ≠ 548 + 10 * x + 9 by omega), up_eq (show 548 + 10 * x + 9 = 548 + 10 * x + 9 from rfl), fB_fI]
  rfl)
/-- a write into the head, an array of numbers -/
theorem PS.p9 (hv : 0 ≤ v ∧ v ≤ 12) : ∀ H, PS G a κ β m od oc H → ∃ fs, oat G a 3 fs H ∧ 9 < fs.length ∧ ∀ H1, oat G a 3 (fs.set 9 (vi v)) H1 → H1.size = H.size → (∀ q, q ≠ a → H1[q]? = H[q]?) → PS G a κ β m od v H1 := by
  intro H ⟨⟨⟨h0, hu, hb, hh, hvv, hj, ho, hU, hB⟩, hm, hod, hoc⟩, hk, hbk, hka⟩
  exact ⟨_, h0, Nat.le_of_ble_eq_true rfl, fun H1 e _ hq => ⟨⟨⟨e, hu.kept (hq _ (by omega)), hb.kept (hq _ (by omega)), hh.kept (hq _ (by omega)), hvv.kept (hq _ (by omega)), hj.kept (fun q q0 q1 => hq q (by omega)), ho.kept (hq _ (by omega)), hU.kept (fun q q0 q1 => hq q (by omega)), hB.kept (fun q q0 q1 => hq q (by omega))⟩, hm, hod, hv⟩, hk.kept (fun q q0 q1 => hq q (by omega)), hbk, hka⟩⟩
theorem PS.hd {z : Int} (h : PS G a κ β m od oc H) (hz : z = 0 ∨ z = 1) (hv : -2147483648 ≤ v ∧ v < 2147483648) (hq : ∀ q : Nat, q ≠ a → H1[q]? = H[q]?) (e : oat G a 3 (hdS κ a (m 2) (m 3) oc (up m z v 1) (up m z v 0)) H1) : PS G a κ β (up m z v) od oc H1 := by
  obtain ⟨⟨⟨h0, hu, hb, hh, hvv, hj, ho, hU, hB⟩, hm, hod, hoc⟩, hk, hbk, hka⟩ := h
  unfold mOK at hm
  have e2 : up m z v 2 = m 2 := up_ne (by omega)
  have e3 : up m z v 3 = m 3 := up_ne (by omega)
  have e4 : up m z v 4 = m 4 := up_ne (by omega)
  refine ⟨⟨⟨by rw [e2, e3]; exact e, hu.kept (hq _ (by omega)), hb.kept (hq _ (by omega)), (hh.kept (hq _ (by omega))).congr (fun k k0 k1 => (up_ne (by omega)).symm), (hvv.kept (hq _ (by omega))).congr (fun k k0 k1 => (up_ne (by omega)).symm), (hj.kept (fun q q0 q1 => hq q (by omega))).congr e4 (fun k k0 k1 => up_ne (by omega)), ho.kept (hq _ (by omega)), ?_, ?_⟩, ?_, hod, hoc⟩, hk.kept (fun q q0 q1 => hq q (by omega)), hbk.congr (fun k k0 k1 => up_ne (by omega)), hka⟩
  · rw [e2]; exact (hU.kept (fun q q0 q1 => hq q (by omega))).congr (fun u u0 u1 w w0 w1 => up_ne (by omega))
  · rw [e3]; exact (hB.kept (fun q q0 q1 => hq q (by omega))).congr (fun u u0 u1 w w0 w1 => up_ne (by omega))
  · unfold mOK
    rw [e2, e3, e4]
    exact ⟨hm.1, hm.2.1, hm.2.2.1, up_rg hm.2.2.2 hv⟩
theorem PS.p10 (hv : -2147483648 ≤ v ∧ v < 2147483648) : ∀ H, PS G a κ β m od oc H → ∃ fs, oat G a 3 fs H ∧ 10 < fs.length ∧ ∀ H1, oat G a 3 (fs.set 10 (vi v)) H1 → H1.size = H.size → (∀ q, q ≠ a → H1[q]? = H[q]?) → PS G a κ β (up m 1 v) od oc H1 := fun H h =>
  ⟨_, PS.o h, Nat.le_of_ble_eq_true rfl, fun H1 e _ hq => h.hd (Or.inr rfl) hv hq (by rw [up_eq rfl, up_ne (by omega)]; exact e)⟩
theorem PS.p11 (hv : -2147483648 ≤ v ∧ v < 2147483648) : ∀ H, PS G a κ β m od oc H → ∃ fs, oat G a 3 fs H ∧ 11 < fs.length ∧ ∀ H1, oat G a 3 (fs.set 11 (vi v)) H1 → H1.size = H.size → (∀ q, q ≠ a → H1[q]? = H[q]?) → PS G a κ β (up m 0 v) od oc H1 := fun H h =>
  ⟨_, PS.o h, Nat.le_of_ble_eq_true rfl, fun H1 e _ hq => h.hd (Or.inl rfl) hv hq (by rw [up_eq rfl, up_ne (by omega)]; exact e)⟩
theorem PS.sh (hz : 0 ≤ z ∧ z < 3) (hv : -2147483648 ≤ v ∧ v < 2147483648) : ∀ H, PS G a κ β m od oc H → aat G 0 (a + 3) 3 (fun k => m (53 + k)) H ∧ ∀ H1, aat G 0 (a + 3) 3 (up (fun k => m (53 + k)) z v) H1 → H1.size = H.size → (∀ q, q ≠ a + 3 → H1[q]? = H[q]?) → PS G a κ β (up m (53 + z) v) od oc H1 := by
  intro H ⟨⟨⟨h0, hu, hb, hh, hvv, hj, ho, hU, hB⟩, hm, hod, hoc⟩, hk, hbk, hka⟩
  refine ⟨hh, fun H1 e _ hq => ?_⟩
  unfold mOK at hm
  have e0 : up m (53 + z) v 0 = m 0 := up_ne (by omega)
  have e1 : up m (53 + z) v 1 = m 1 := up_ne (by omega)
  have e2 : up m (53 + z) v 2 = m 2 := up_ne (by omega)
  have e3 : up m (53 + z) v 3 = m 3 := up_ne (by omega)
  have e4 : up m (53 + z) v 4 = m 4 := up_ne (by omega)
  refine ⟨⟨⟨by rw [e0, e1, e2, e3]; exact h0.kept (hq _ (by omega)), hu.kept (hq _ (by omega)), hb.kept (hq _ (by omega)), e.congr (fun k k0 k1 => ?_), (hvv.kept (hq _ (by omega))).congr (fun k k0 k1 => (up_ne (by omega)).symm), (hj.kept (fun q q0 q1 => hq q (by omega))).congr e4 (fun k k0 k1 => up_ne (by omega)), ho.kept (hq _ (by omega)), ?_, ?_⟩, ?_, hod, hoc⟩, hk.kept (fun q q0 q1 => hq q (by omega)), hbk.congr (fun k k0 k1 => up_ne (by omega)), hka⟩
  · unfold up
    by_cases ek : k = z
    · rw [if_pos ek, if_pos (by omega)]
    · rw [if_neg ek, if_neg (by omega)]
  · rw [e2]; exact (hU.kept (fun q q0 q1 => hq q (by omega))).congr (fun u u0 u1 w w0 w1 => up_ne (by omega))
  · rw [e3]; exact (hB.kept (fun q q0 q1 => hq q (by omega))).congr (fun u u0 u1 w w0 w1 => up_ne (by omega))
  · unfold mOK
    rw [e2, e3, e4]
    exact ⟨hm.1, hm.2.1, hm.2.2.1, up_rg hm.2.2.2 hv⟩
theorem PS.so (hv : -2147483648 ≤ v ∧ v < 2147483648) : ∀ H, PS G a κ β m od oc H → aat G 0 (a + 9) 12 od H ∧ ∀ H1, aat G 0 (a + 9) 12 (up od z v) H1 → H1.size = H.size → (∀ q, q ≠ a + 9 → H1[q]? = H[q]?) → PS G a κ β m (up od z v) oc H1 := by
  intro H ⟨⟨⟨h0, hu, hb, hh, hvv, hj, ho, hU, hB⟩, hm, hod, hoc⟩, hk, hbk, hka⟩
  exact ⟨ho, fun H1 e _ hq => ⟨⟨⟨h0.kept (hq _ (by omega)), hu.kept (hq _ (by omega)), hb.kept (hq _ (by omega)), hh.kept (hq _ (by omega)), hvv.kept (hq _ (by omega)), hj.kept (fun q q0 q1 => hq q (by omega)), e, hU.kept (fun q q0 q1 => hq q (by omega)), hB.kept (fun q q0 q1 => hq q (by omega))⟩, hm, up_rg hod hv, hoc⟩, hk.kept (fun q q0 q1 => hq q (by omega)), hbk, hka⟩⟩
/-- a new event of the journal -/
theorem jOK_note {m : Int → Int} {nx b w : Int} {j0 j1 j2 : Int → Int} (h : jOK m nx j0 j1 j2) (hn : 0 ≤ nx ∧ nx < 40) (h4 : 0 ≤ m 4 ∧ m 4 ≤ 40) : jOK (s_note m b w) ((nx + 1) % 40) (up j0 nx (m 1)) (up j1 nx b) (up j2 nx w) := by
  intro i i0 i1
  have e4 : s_note m b w 4 = if m 4 = 40 then 40 else m 4 + 1 := by unfold s_note; rw [if_neg (by omega), if_pos rfl]
  have hi : i < 40 := by rw [e4] at i1; split at i1 <;> omega
  by_cases h0 : i = 0
  · subst h0
    have ei : ((nx + 1) % 40 + 39 - 0) % 40 = nx := by omega
    rw [ei, up_eq rfl, up_eq rfl, up_eq rfl]
    unfold s_note
    exact ⟨by rw [if_pos (by omega), if_pos (by omega)], by rw [if_pos (by omega), if_neg (by omega), if_pos (by omega)], by rw [if_pos (by omega), if_neg (by omega), if_neg (by omega), if_pos (by omega)]⟩
  · have ei : ((nx + 1) % 40 + 39 - i) % 40 = (nx + 39 - (i - 1)) % 40 := by omega
    have hne : (nx + 39 - (i - 1)) % 40 ≠ nx := by omega
    have him : i - 1 < m 4 := by rw [e4] at i1; split at i1 <;> omega
    obtain ⟨g0, g1, g2⟩ := h (i - 1) (by omega) him
    rw [ei, up_ne hne, up_ne hne, up_ne hne, g0, g1, g2]
    unfold s_note
    refine ⟨?_, ?_, ?_⟩
    · rw [if_pos (by omega), if_neg (by omega), if_neg (by omega), if_neg (by omega)]; congr 1; omega
    · rw [if_pos (by omega), if_neg (by omega), if_neg (by omega), if_neg (by omega)]; congr 1; omega
    · rw [if_pos (by omega), if_neg (by omega), if_neg (by omega), if_neg (by omega)]; congr 1; omega
theorem PS.note {nx b w : Int} {j0 j1 j2 : Int → Int} (h : PS G a κ β m od oc H) (hj : jOK m nx j0 j1 j2) (hn : 0 ≤ nx ∧ nx < 40) (hb : -2147483648 ≤ b ∧ b < 2147483648) (hw : -2147483648 ≤ w ∧ w < 2147483648) (hJ : JR G (a + 5) ((nx + 1) % 40) (if m 4 < 40 then m 4 + 1 else m 4) (up j0 nx (m 1)) (up j1 nx b) (up j2 nx w) H1) (hq : ∀ q : Nat, q < a + 30 → ¬ (a + 5 ≤ q ∧ q < a + 9) → H1[q]? = H[q]?) : PS G a κ β (s_note m b w) od oc H1 := by
  obtain ⟨⟨⟨h0, hu, hb', hh, hvv, hj', ho, hU, hB⟩, hm, hod, hoc⟩, hk, hbk, hka⟩ := h
  unfold mOK at hm
  have e : ∀ k, (k < 668 ∨ 788 ≤ k) → k ≠ 4 → s_note m b w k = m k := fun k k0 k1 => s_note_ne k0 k1
  have e4 : s_note m b w 4 = if m 4 = 40 then 40 else m 4 + 1 := by unfold s_note; rw [if_neg (by omega), if_pos rfl]
  have e0 := e 0 (by omega) (by omega)
  have e1 := e 1 (by omega) (by omega)
  have e2 := e 2 (by omega) (by omega)
  have e3 := e 3 (by omega) (by omega)
  refine ⟨⟨⟨by rw [e0, e1, e2, e3]; exact h0.kept (hq _ (by omega) (by omega)), hu.kept (hq _ (by omega) (by omega)), hb'.kept (hq _ (by omega) (by omega)), (hh.kept (hq _ (by omega) (by omega))).congr (fun k k0 k1 => (e _ (by omega) (by omega)).symm), (hvv.kept (hq _ (by omega) (by omega))).congr (fun k k0 k1 => (e _ (by omega) (by omega)).symm), ⟨_, _, _, _, ?_, jOK_note hj hn hm.2.2.1⟩, ho.kept (hq _ (by omega) (by omega)), ?_, ?_⟩, ?_, hod, hoc⟩, hk.kept (fun q q0 q1 => hq q (by omega) (by omega)), hbk.congr (fun k k0 k1 => e _ (by omega) (by omega)), hka⟩
  · rw [e4, show (if m 4 = 40 then 40 else m 4 + 1) = if m 4 < 40 then m 4 + 1 else m 4 by split <;> split <;> omega]
    exact hJ
  · rw [e2]; exact (hU.kept (fun q q0 q1 => hq q (by omega) (by omega))).congr (fun u u0 u1 w w0 w1 => e _ (by omega) (by omega))
  · rw [e3]; exact (hB.kept (fun q q0 q1 => hq q (by omega) (by omega))).congr (fun u u0 u1 w w0 w1 => e _ (by omega) (by omega))
  · unfold mOK
    rw [e2, e3, e4]
    refine ⟨hm.1, hm.2.1, by split <;> omega, fun k => ?_⟩
    have h1 := hm.2.2.2 k
    have h2 := hm.2.2.2 (k - 3)
    have h3 := hm.2.2.2 1
    unfold s_note
    (repeat' split) <;> omega
theorem PS.size (h : PS G a κ β m od oc H) : a + 30 ≤ H.size ∧ κ + 8 ≤ a := by
  obtain ⟨fs, h1, -⟩ := h.1.1.2.2.2.2.2.2.2.2 11 (by omega) (by omega)
  have h2 := h1.lt
  unfold bA at h2
  exact ⟨by omega, h.2.2.2⟩
end SPS

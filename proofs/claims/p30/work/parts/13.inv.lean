/-! ===== the memory's invariant: how it fares ===== -/
def okB0 (m : Int → Int) (b : Int) : Prop := (0 ≤ m (548 + 10 * b + 0) ∧ m (548 + 10 * b + 0) < 6) ∧ (1 ≤ m (548 + 10 * b + 1) ∧ m (548 + 10 * b + 1) ≤ m (56 + m (548 + 10 * b + 0))) ∧ (1 ≤ m (548 + 10 * b + 2) ∧ m (548 + 10 * b + 2) ≤ 10000) ∧ (0 ≤ m (548 + 10 * b + 3) ∧ m (548 + 10 * b + 3) ≤ 9) ∧ (-1 ≤ m (548 + 10 * b + 4) ∧ m (548 + 10 * b + 4) < b) ∧ (0 ≤ m (548 + 10 * b + 5) ∧ m (548 + 10 * b + 5) ≤ 6) ∧ (0 ≤ m (548 + 10 * b + 6) ∧ m (548 + 10 * b + 6) ≤ lnB m b) ∧ (0 ≤ m (548 + 10 * b + 7) ∧ m (548 + 10 * b + 7) ≤ 99) ∧ (-1 ≤ m (548 + 10 * b + 8) ∧ m (548 + 10 * b + 8) < m 2) ∧ okF (m (548 + 10 * b + 6)) (m (548 + 10 * b + 9))
def okB1 (m : Int → Int) (b : Int) : Prop := m (548 + 10 * b + 7) < 99 ∧ (m (548 + 10 * b + 5) ≠ 6 → m (548 + 10 * b + 6) < lnB m b ∧ m (548 + 10 * b + 7) < phB m b (m (548 + 10 * b + 6)) / 4 % 128)
def okB2 (m : Int → Int) (b : Int) : Prop := m (548 + 10 * b + 4) ≠ -1 → m (548 + 10 * m (548 + 10 * b + 4) + 5) = 5 → 4 ≤ m (548 + 10 * b + 5)
theorem okB_iff {m : Int → Int} {b : Int} : okB m b ↔ okB0 m b ∧ okB1 m b ∧ okB2 m b := by
  unfold okB okB0 okB1 okB2
  constructor
  · rintro ⟨h1, h2, h3, h4, h5, h6, ⟨h7, h7', h7''⟩, ⟨h8, h8', h8''⟩, h9, h10, h11⟩
    exact ⟨⟨h1, h2, h3, h4, h5, h6, ⟨h7, h7'⟩, ⟨h8, by omega⟩, h9, h10⟩, ⟨h8', fun q => ⟨h7'' q, h8'' q⟩⟩, h11⟩
  · rintro ⟨⟨h1, h2, h3, h4, h5, h6, ⟨h7, h7'⟩, ⟨h8, h8'⟩, h9, h10⟩, ⟨hd, hq⟩, h11⟩
    exact ⟨h1, h2, h3, h4, h5, h6, ⟨h7, h7', fun q => (hq q).1⟩, ⟨h8, hd, fun q => (hq q).2⟩, h9, h10, h11⟩
def Iv0 (m : Int → Int) (W : Int) : Prop :=
  (0 ≤ m 0 ∧ m 0 ≤ 30) ∧ (0 ≤ m 1 ∧ m 1 ≤ 60000) ∧ (0 ≤ m 2 ∧ m 2 ≤ 8) ∧ (0 ≤ m 3 ∧ m 3 ≤ 12) ∧ (0 ≤ m 4 ∧ m 4 ≤ 40) ∧ (∀ u, 0 ≤ u → u < m 2 → okU m W u) ∧ (∀ k, 0 ≤ k → k < 3 → -1 ≤ m (53 + k) ∧ m (53 + k) < m 3) ∧ (∀ r, 0 ≤ r → r < 6 → 0 ≤ m (56 + r) ∧ m (56 + r) ≤ 9) ∧
  (∀ r v, 0 ≤ r → r < 6 → 1 ≤ v → v ≤ m (56 + r) → okV m (9 * r + v - 1)) ∧ ∀ b, 0 ≤ b → b < m 3 → okB0 m b
def I1 (m : Int → Int) : Prop := ∀ b, 0 ≤ b → b < m 3 → okB1 m b
def I2 (m : Int → Int) : Prop := ∀ b, 0 ≤ b → b < m 3 → okB2 m b
theorem Iv_iff {m : Int → Int} {W : Int} : Iv m W ↔ Iv0 m W ∧ I1 m ∧ I2 m := by
  unfold Iv Iv0 I1 I2
  constructor
  · rintro ⟨h1, h2, h3, h4, h5, h6, h7, h8, h9, h10⟩
    exact ⟨⟨h1, h2, h3, h4, h5, h6, h7, h8, h9, fun b a c => (okB_iff.mp (h10 b a c)).1⟩, fun b a c => (okB_iff.mp (h10 b a c)).2.1, fun b a c => (okB_iff.mp (h10 b a c)).2.2⟩
  · rintro ⟨⟨h1, h2, h3, h4, h5, h6, h7, h8, h9, h10⟩, q1, q2⟩
    exact ⟨h1, h2, h3, h4, h5, h6, h7, h8, h9, fun b a c => okB_iff.mpr ⟨h10 b a c, q1 b a c, q2 b a c⟩⟩
section IV0
variable {m m' : Int → Int} {W W' : Int}
theorem Iv0.n (h : Iv0 m W) : (0 ≤ m 0 ∧ m 0 ≤ 30) ∧ (0 ≤ m 1 ∧ m 1 ≤ 60000) ∧ (0 ≤ m 2 ∧ m 2 ≤ 8) ∧ (0 ≤ m 3 ∧ m 3 ≤ 12) ∧ (0 ≤ m 4 ∧ m 4 ≤ 40) := ⟨h.1, h.2.1, h.2.2.1, h.2.2.2.1, h.2.2.2.2.1⟩
theorem Iv0.u (h : Iv0 m W) {u : Int} (h0 : 0 ≤ u) (h1 : u < m 2) : okU m W u := h.2.2.2.2.2.1 u h0 h1
theorem Iv0.sh (h : Iv0 m W) {k : Int} (h0 : 0 ≤ k) (h1 : k < 3) : -1 ≤ m (53 + k) ∧ m (53 + k) < m 3 := h.2.2.2.2.2.2.1 k h0 h1
theorem Iv0.vs (h : Iv0 m W) {r : Int} (h0 : 0 ≤ r) (h1 : r < 6) : 0 ≤ m (56 + r) ∧ m (56 + r) ≤ 9 := h.2.2.2.2.2.2.2.1 r h0 h1
theorem Iv0.pg (h : Iv0 m W) {r v : Int} (h0 : 0 ≤ r) (h1 : r < 6) (h2 : 1 ≤ v) (h3 : v ≤ m (56 + r)) : okV m (9 * r + v - 1) := h.2.2.2.2.2.2.2.2.1 r v h0 h1 h2 h3
theorem Iv0.b (h : Iv0 m W) {b : Int} (h0 : 0 ≤ b) (h1 : b < m 3) : okB0 m b := h.2.2.2.2.2.2.2.2.2 b h0 h1
theorem Iv0.page (h : Iv0 m W) {b : Int} (h0 : 0 ≤ b) (h1 : b < m 3) : (0 ≤ pgB m b ∧ pgB m b < 54) ∧ (1 ≤ lnB m b ∧ lnB m b ≤ 8) ∧ ∀ k, 0 ≤ k → k < lnB m b → okP (phB m b k) := by
  have hb := h.b h0 h1
  unfold okB0 at hb
  have hv := h.vs (r := m (548 + 10 * b + 0)) (by omega) (by omega)
  have hp := h.pg (r := m (548 + 10 * b + 0)) (v := m (548 + 10 * b + 1)) (by omega) (by omega) (by omega) (by omega)
  have e : pgB m b = 9 * m (548 + 10 * b + 0) + m (548 + 10 * b + 1) - 1 := rfl
  refine ⟨by omega, ?_, ?_⟩
  · unfold lnB; rw [e]; exact hp.1
  · intro k k0 k1
    unfold lnB at k1
    unfold phB
    rw [e] at k1 ⊢
    exact hp.2 k k0 k1
theorem okU.fr {u : Int} (h : okU m W u) (e : ∀ w, 0 ≤ w → w < 6 → m' (5 + 6 * u + w) = m (5 + 6 * u + w)) (h3 : m' 3 = m 3) : okU m' W u := by
  unfold okU at *
  rw [e 0 (by omega) (by omega), e 1 (by omega) (by omega), e 2 (by omega) (by omega), e 3 (by omega) (by omega), e 4 (by omega) (by omega), e 5 (by omega) (by omega), h3]
  exact h
/-- the parts of a batch that hang on its version -/
theorem page_fr {b : Int} (hp : 0 ≤ pgB m b ∧ pgB m b < 54) (e0 : m' (548 + 10 * b + 0) = m (548 + 10 * b + 0)) (e1 : m' (548 + 10 * b + 1) = m (548 + 10 * b + 1)) (hV : ∀ k, 56 ≤ k → k < 548 → m' k = m k) : pgB m' b = pgB m b ∧ lnB m' b = lnB m b ∧ ∀ k, 0 ≤ k → k < 8 → phB m' b k = phB m b k := by
  have e := pgB_eq e0 e1
  refine ⟨e, ?_, fun k k0 k1 => ?_⟩
  · unfold lnB; rw [e]; exact hV _ (by omega) (by omega)
  · unfold phB; rw [e]; exact hV _ (by omega) (by omega)
theorem okB0.fr {b : Int} (h : okB0 m b) (hp : 0 ≤ pgB m b ∧ pgB m b < 54) (e : ∀ w, 0 ≤ w → w < 10 → m' (548 + 10 * b + w) = m (548 + 10 * b + w)) (h2 : m' 2 = m 2) (hV : ∀ k, 56 ≤ k → k < 548 → m' k = m k) : okB0 m' b := by
  obtain ⟨-, el, -⟩ := page_fr hp (e 0 (by omega) (by omega)) (e 1 (by omega) (by omega)) hV
  unfold okB0 at *
  rw [e 0 (by omega) (by omega), e 1 (by omega) (by omega), e 2 (by omega) (by omega), e 3 (by omega) (by omega), e 4 (by omega) (by omega), e 5 (by omega) (by omega), e 6 (by omega) (by omega), e 7 (by omega) (by omega), e 8 (by omega) (by omega), e 9 (by omega) (by omega), h2, el, hV (56 + m (548 + 10 * b + 0)) (by omega) (by omega)]
  exact h
theorem Iv0.fr (h : Iv0 m W) (h0 : 0 ≤ m' 0 ∧ m' 0 ≤ 30) (h1 : 0 ≤ m' 1 ∧ m' 1 ≤ 60000) (h4 : 0 ≤ m' 4 ∧ m' 4 ≤ 40) (h2 : m' 2 = m 2) (h3 : m' 3 = m 3) (hV : ∀ k, 56 ≤ k → k < 548 → m' k = m k)
    (hS : ∀ k, 0 ≤ k → k < 3 → -1 ≤ m' (53 + k) ∧ m' (53 + k) < m 3) (hU : ∀ u, 0 ≤ u → u < m 2 → okU m' W' u) (hB : ∀ b, 0 ≤ b → b < m 3 → okB0 m' b) : Iv0 m' W' := by
  have hn := h.n
  refine ⟨h0, h1, by omega, by omega, h4, by rw [h2]; exact hU, by rw [h3]; exact hS, fun r r0 r1 => by rw [hV _ (by omega) (by omega)]; exact h.vs r0 r1, fun r v r0 r1 v1 v2 => ?_, by rw [h3]; exact hB⟩
  rw [hV _ (by omega) (by omega)] at v2
  have hv := h.vs r0 r1
  obtain ⟨q1, q2⟩ := h.pg r0 r1 v1 v2
  have e := hV (62 + (9 * r + v - 1)) (by omega) (by omega)
  unfold okV
  rw [e]
  exact ⟨q1, fun k k0 k1 => by rw [hV _ (by omega) (by omega)]; exact q2 k k0 k1⟩
/-- one cell of a batch -/
theorem Iv0.upB (h : Iv0 m W) {x w v : Int} (x0 : 0 ≤ x) (x1 : x < m 3) (hw : 0 ≤ w ∧ w < 10) (hb : okB0 (up m (548 + 10 * x + w) v) x) : Iv0 (up m (548 + 10 * x + w) v) W := by
  have hn := h.n
  refine h.fr (by rw [up_ne (by omega)]; exact hn.1) (by rw [up_ne (by omega)]; exact hn.2.1) (by rw [up_ne (by omega)]; exact hn.2.2.2.2) (up_ne (by omega)) (up_ne (by omega)) (fun k k0 k1 => up_ne (by omega)) (fun k k0 k1 => by rw [up_ne (by omega)]; exact h.sh k0 k1) (fun u u0 u1 => (h.u u0 u1).fr (fun w w0 w1 => up_ne (by omega)) (up_ne (by omega))) (fun b b0 b1 => ?_)
  by_cases e : b = x
  · rw [e]; exact hb
  · exact (h.b b0 b1).fr (h.page b0 b1).1 (fun w w0 w1 => up_ne (by omega)) (up_ne (by omega)) (fun k k0 k1 => up_ne (by omega))
theorem Iv0.okx (h : Iv0 m W) {x : Int} (x0 : 0 ≤ x) (x1 : x < m 3) {w v : Int} (hw : w = 3 ∨ (5 ≤ w ∧ w < 10)) (h3 : w = 3 → 0 ≤ v ∧ v ≤ 9) (h5 : w = 5 → 0 ≤ v ∧ v ≤ 6) (h6 : w = 6 → 0 ≤ v ∧ v ≤ lnB m x ∧ okF v (m (548 + 10 * x + 9))) (h7 : w = 7 → 0 ≤ v ∧ v ≤ 99) (h8 : w = 8 → -1 ≤ v ∧ v < m 2) (h9 : w = 9 → okF (m (548 + 10 * x + 6)) v) : Iv0 (up m (548 + 10 * x + w) v) W := by
  refine h.upB x0 x1 (by omega) ?_
  have hn := h.n
  have hb := h.b x0 x1
  obtain ⟨hp, -⟩ := h.page x0 x1
  have e : ∀ z, z ≠ w → up m (548 + 10 * x + w) v (548 + 10 * x + z) = m (548 + 10 * x + z) := fun z hz => up_ne (by omega)
  have ew : up m (548 + 10 * x + w) v (548 + 10 * x + w) = v := up_eq rfl
  obtain ⟨-, el, -⟩ := page_fr (m' := up m (548 + 10 * x + w) v) hp (e 0 (by omega)) (e 1 (by omega)) (fun k k0 k1 => up_ne (by omega))
  unfold okB0 at *
  have ev := h.vs (r := m (548 + 10 * x + 0)) (by omega) (by omega)
  rw [e 0 (by omega), e 1 (by omega), e 2 (by omega), e 4 (by omega), el, up_ne (show 56 + m (548 + 10 * x + 0) ≠ 548 + 10 * x + w by omega), up_ne (show (2 : Int) ≠ 548 + 10 * x + w by omega)]
  have c : w = 3 ∨ w = 5 ∨ w = 6 ∨ w = 7 ∨ w = 8 ∨ w = 9 := by omega
  rcases c with c | c | c | c | c | c <;> subst c
  · rw [ew, e 5 (by omega), e 6 (by omega), e 7 (by omega), e 8 (by omega), e 9 (by omega)]
    exact ⟨hb.1, hb.2.1, hb.2.2.1, h3 rfl, hb.2.2.2.2⟩
  · rw [ew, e 3 (by omega), e 6 (by omega), e 7 (by omega), e 8 (by omega), e 9 (by omega)]
    exact ⟨hb.1, hb.2.1, hb.2.2.1, hb.2.2.2.1, hb.2.2.2.2.1, h5 rfl, hb.2.2.2.2.2.2⟩
  · rw [ew, e 3 (by omega), e 5 (by omega), e 7 (by omega), e 8 (by omega), e 9 (by omega)]
    obtain ⟨q1, q2, q3⟩ := h6 rfl
    exact ⟨hb.1, hb.2.1, hb.2.2.1, hb.2.2.2.1, hb.2.2.2.2.1, hb.2.2.2.2.2.1, ⟨q1, q2⟩, hb.2.2.2.2.2.2.2.1, hb.2.2.2.2.2.2.2.2.1, q3⟩
  · rw [ew, e 3 (by omega), e 5 (by omega), e 6 (by omega), e 8 (by omega), e 9 (by omega)]
    exact ⟨hb.1, hb.2.1, hb.2.2.1, hb.2.2.2.1, hb.2.2.2.2.1, hb.2.2.2.2.2.1, hb.2.2.2.2.2.2.1, h7 rfl, hb.2.2.2.2.2.2.2.2⟩
  · rw [ew, e 3 (by omega), e 5 (by omega), e 6 (by omega), e 7 (by omega), e 9 (by omega)]
    exact ⟨hb.1, hb.2.1, hb.2.2.1, hb.2.2.2.1, hb.2.2.2.2.1, hb.2.2.2.2.2.1, hb.2.2.2.2.2.2.1, hb.2.2.2.2.2.2.2.1, h8 rfl, hb.2.2.2.2.2.2.2.2.2⟩
  · rw [ew, e 3 (by omega), e 5 (by omega), e 6 (by omega), e 7 (by omega), e 8 (by omega)]
    exact ⟨hb.1, hb.2.1, hb.2.2.1, hb.2.2.2.1, hb.2.2.2.2.1, hb.2.2.2.2.2.1, hb.2.2.2.2.2.2.1, hb.2.2.2.2.2.2.2.1, hb.2.2.2.2.2.2.2.2.1, h9 rfl⟩
/-- one cell of a unit -/
theorem Iv0.upU (h : Iv0 m W) {x w v : Int} (x0 : 0 ≤ x) (x1 : x < m 2) (hw : 2 ≤ w ∧ w < 6) (h2 : w = 2 → -1 ≤ v ∧ v < m 3) (h3 : w = 3 → 0 ≤ v ∧ v ≤ 1) (h4 : w = 4 → 0 ≤ v ∧ v ≤ 30) (h5 : w = 5 → 0 ≤ v ∧ v ≤ W') (hW : W ≤ W') : Iv0 (up m (5 + 6 * x + w) v) W' := by
  have hn := h.n
  refine h.fr (by rw [up_ne (by omega)]; exact hn.1) (by rw [up_ne (by omega)]; exact hn.2.1) (by rw [up_ne (by omega)]; exact hn.2.2.2.2) (up_ne (by omega)) (up_ne (by omega)) (fun k k0 k1 => up_ne (by omega)) (fun k k0 k1 => by rw [up_ne (by omega)]; exact h.sh k0 k1) (fun u u0 u1 => ?_) (fun b b0 b1 => (h.b b0 b1).fr (h.page b0 b1).1 (fun w w0 w1 => up_ne (by omega)) (up_ne (by omega)) (fun k k0 k1 => up_ne (by omega)))
  have hu := h.u u0 u1
  by_cases e : u = x
  · subst e
    have ez : ∀ z, z ≠ w → up m (5 + 6 * u + w) v (5 + 6 * u + z) = m (5 + 6 * u + z) := fun z hz => up_ne (by omega)
    have ew : up m (5 + 6 * u + w) v (5 + 6 * u + w) = v := up_eq rfl
    unfold okU at *
    rw [ez 0 (by omega), ez 1 (by omega), up_ne (show (3 : Int) ≠ 5 + 6 * u + w by omega)]
    have c : w = 2 ∨ w = 3 ∨ w = 4 ∨ w = 5 := by omega
    rcases c with c | c | c | c <;> subst c
    · rw [ew, ez 3 (by omega), ez 4 (by omega), ez 5 (by omega)]; omega
    · rw [ew, ez 2 (by omega), ez 4 (by omega), ez 5 (by omega)]; omega
    · rw [ew, ez 2 (by omega), ez 3 (by omega), ez 5 (by omega)]; omega
    · rw [ew, ez 2 (by omega), ez 3 (by omega), ez 4 (by omega)]; omega
  · have := hu.fr (m' := up m (5 + 6 * x + w) v) (fun z w0 w1 => up_ne (by omega)) (up_ne (by omega))
    unfold okU at *
    omega
theorem Iv0.note (h : Iv0 m W) {b w : Int} : Iv0 (s_note m b w) W := by
  have hn := h.n
  have e : ∀ k, (k < 668 ∨ 788 ≤ k) → k ≠ 4 → s_note m b w k = m k := fun k h1 h2 => s_note_ne h1 h2
  refine h.fr (by rw [e _ (by omega) (by omega)]; exact hn.1) (by rw [e _ (by omega) (by omega)]; exact hn.2.1) ?_ (e _ (by omega) (by omega)) (e _ (by omega) (by omega)) (fun k k0 k1 => e _ (by omega) (by omega)) (fun k k0 k1 => by rw [e _ (by omega) (by omega)]; exact h.sh k0 k1) (fun u u0 u1 => (h.u u0 u1).fr (fun w w0 w1 => e _ (by omega) (by omega)) (e _ (by omega) (by omega))) (fun b b0 b1 => (h.b b0 b1).fr (h.page b0 b1).1 (fun w w0 w1 => e _ (by omega) (by omega)) (e _ (by omega) (by omega)) (fun k k0 k1 => e _ (by omega) (by omega)))
  unfold s_note
  rw [if_neg (by omega), if_pos rfl]
  split <;> omega
theorem Iv0.relS (h : Iv0 m W) {b : Int} : Iv0 (s_relS m b 3) W := by
  have hn := h.n
  have e : ∀ k, (k < 53 ∨ 56 ≤ k) → s_relS m b 3 k = m k := fun k h1 => s_relS_ne (by omega)
  refine h.fr (by rw [e _ (by omega)]; exact hn.1) (by rw [e _ (by omega)]; exact hn.2.1) (by rw [e _ (by omega)]; exact hn.2.2.2.2) (e _ (by omega)) (e _ (by omega)) (fun k k0 k1 => e _ (by omega)) (fun k k0 k1 => ?_) (fun u u0 u1 => (h.u u0 u1).fr (fun w w0 w1 => e _ (by omega)) (e _ (by omega))) (fun b b0 b1 => (h.b b0 b1).fr (h.page b0 b1).1 (fun w w0 w1 => e _ (by omega)) (e _ (by omega)) (fun k k0 k1 => e _ (by omega)))
  have := h.sh k0 k1
  unfold s_relS
  split <;> omega
/-- a piece of shared equipment -/
theorem Iv0.upS (h : Iv0 m W) {j v : Int} (j0 : 0 ≤ j) (j1 : j < 3) (hv : -1 ≤ v ∧ v < m 3) : Iv0 (up m (53 + j) v) W := by
  have hn := h.n
  refine h.fr (by rw [up_ne (by omega)]; exact hn.1) (by rw [up_ne (by omega)]; exact hn.2.1) (by rw [up_ne (by omega)]; exact hn.2.2.2.2) (up_ne (by omega)) (up_ne (by omega)) (fun k k0 k1 => up_ne (by omega)) (fun k k0 k1 => ?_) (fun u u0 u1 => (h.u u0 u1).fr (fun w w0 w1 => up_ne (by omega)) (up_ne (by omega))) (fun b b0 b1 => (h.b b0 b1).fr (h.page b0 b1).1 (fun w w0 w1 => up_ne (by omega)) (up_ne (by omega)) (fun k k0 k1 => up_ne (by omega)))
  have := h.sh k0 k1
  unfold up
  split <;> omega
theorem Iv0.relU (h : Iv0 m W) {b : Int} (b0 : 0 ≤ b) (b1 : b < m 3) : Iv0 (s_relU m b) W := by
  have hn := h.n
  have hb := h.b b0 b1
  unfold okB0 at hb
  simp only [s_relU]
  split
  · exact h
  · next hu =>
    have h1 := h.upU (W' := W) (x := m (548 + 10 * b + 8)) (w := 2) (v := -1) (by omega) (by omega) (by omega) (fun _ => by omega) (by omega) (by omega) (by omega) (Int.le_refl _)
    have h2 := h1.upU (W' := W) (x := m (548 + 10 * b + 8)) (w := 4) (v := up m (5 + 6 * m (548 + 10 * b + 8) + 2) (-1) 0) (by omega) (by rw [up_ne (by omega)]; omega) (by omega) (by omega) (by omega) (fun _ => by rw [up_ne (by omega)]; omega) (by omega) (Int.le_refl _)
    exact h2.okx b0 (by rw [up_ne (by omega), up_ne (by omega)]; exact b1) (by omega) (by omega) (by omega) (by omega) (by omega) (fun _ => by rw [up_ne (by omega), up_ne (by omega)]; omega) (by omega)
theorem Iv0.time (h : Iv0 m W) {v : Int} (hv : 0 ≤ v ∧ v ≤ 60000) : Iv0 (up m 1 v) W := by
  have hn := h.n
  exact h.fr (by rw [up_ne (by omega)]; exact hn.1) (by rw [up_eq rfl]; exact hv) (by rw [up_ne (by omega)]; exact hn.2.2.2.2) (up_ne (by omega)) (up_ne (by omega)) (fun k k0 k1 => up_ne (by omega)) (fun k k0 k1 => by rw [up_ne (by omega)]; exact h.sh k0 k1) (fun u u0 u1 => (h.u u0 u1).fr (fun w w0 w1 => up_ne (by omega)) (up_ne (by omega))) (fun b b0 b1 => (h.b b0 b1).fr (h.page b0 b1).1 (fun w w0 w1 => up_ne (by omega)) (up_ne (by omega)) (fun k k0 k1 => up_ne (by omega)))
theorem Iv0.cleaning (h : Iv0 m W) {v : Int} (hv : 0 ≤ v ∧ v ≤ 30) : Iv0 (up m 0 v) W := by
  have hn := h.n
  exact h.fr (by rw [up_eq rfl]; exact hv) (by rw [up_ne (by omega)]; exact hn.2.1) (by rw [up_ne (by omega)]; exact hn.2.2.2.2) (up_ne (by omega)) (up_ne (by omega)) (fun k k0 k1 => up_ne (by omega)) (fun k k0 k1 => by rw [up_ne (by omega)]; exact h.sh k0 k1) (fun u u0 u1 => (h.u u0 u1).fr (fun w w0 w1 => up_ne (by omega)) (up_ne (by omega))) (fun b b0 b1 => (h.b b0 b1).fr (h.page b0 b1).1 (fun w w0 w1 => up_ne (by omega)) (up_ne (by omega)) (fun k k0 k1 => up_ne (by omega)))
theorem Iv0.clean (h : Iv0 m W) : Iv0 (s_clean m (m 2)) W := by
  have hn := h.n
  have e : ∀ k, (k < 5 ∨ 53 ≤ k) → s_clean m (m 2) k = m k := fun k h1 => s_clean_ne (by omega)
  refine h.fr (by rw [e _ (by omega)]; exact hn.1) (by rw [e _ (by omega)]; exact hn.2.1) (by rw [e _ (by omega)]; exact hn.2.2.2.2) (e _ (by omega)) (e _ (by omega)) (fun k k0 k1 => e _ (by omega)) (fun k k0 k1 => by rw [e _ (by omega)]; exact h.sh k0 k1) (fun u u0 u1 => ?_) (fun b b0 b1 => (h.b b0 b1).fr (h.page b0 b1).1 (fun w w0 w1 => e _ (by omega)) (e _ (by omega)) (fun k k0 k1 => e _ (by omega)))
  have hu := h.u u0 u1
  have e6 : ∀ w, 0 ≤ w → w < 6 → w ≠ 4 → s_clean m (m 2) (5 + 6 * u + w) = m (5 + 6 * u + w) := fun w w0 w1 w4 => s_clean_ne (by omega)
  have e4 : s_clean m (m 2) (5 + 6 * u + 4) = if 0 < m (5 + 6 * u + 4) then m (5 + 6 * u + 4) - 1 else 0 := by
    unfold s_clean
    rw [if_pos (by omega)]
  unfold okU at *
  rw [e6 0 (by omega) (by omega) (by omega), e6 1 (by omega) (by omega) (by omega), e6 2 (by omega) (by omega) (by omega), e6 3 (by omega) (by omega) (by omega), e6 5 (by omega) (by omega) (by omega), e4, e 3 (by omega)]
  split <;> omega
theorem Iv0.mono (h : Iv0 m W) (hW : W ≤ W') : Iv0 m W' := by
  have hn := h.n
  refine h.fr hn.1 hn.2.1 hn.2.2.2.2 rfl rfl (fun _ _ _ => rfl) (fun k a b => h.sh a b) (fun u a b => ?_) (fun b c d => h.b c d)
  have := h.u a b
  unfold okU at *
  omega
theorem okB1.fr {b : Int} (h : okB1 m b) (h0 : okB0 m b) (hp : (0 ≤ pgB m b ∧ pgB m b < 54) ∧ (1 ≤ lnB m b ∧ lnB m b ≤ 8)) (e0 : m' (548 + 10 * b + 0) = m (548 + 10 * b + 0)) (e1 : m' (548 + 10 * b + 1) = m (548 + 10 * b + 1)) (e5 : m' (548 + 10 * b + 5) ≠ 6 → m (548 + 10 * b + 5) ≠ 6) (e6 : m' (548 + 10 * b + 6) = m (548 + 10 * b + 6)) (e7 : m' (548 + 10 * b + 7) ≤ m (548 + 10 * b + 7)) (hV : ∀ k, 56 ≤ k → k < 548 → m' k = m k) : okB1 m' b := by
  obtain ⟨-, el, ep⟩ := page_fr hp.1 e0 e1 hV
  unfold okB1 at *
  unfold okB0 at h0
  refine ⟨by omega, fun q => ?_⟩
  obtain ⟨q1, q2⟩ := h.2 (e5 q)
  rw [el, e6, ep _ (by omega) (by omega)]
  omega
/-- states alone: those of x change -/
theorem I2.fr (h : I2 m) {x : Int} (hb : ∀ b, 0 ≤ b → b < m 3 → -1 ≤ m (548 + 10 * b + 4) ∧ m (548 + 10 * b + 4) < b) (h3 : m' 3 = m 3) (e4 : ∀ b, 0 ≤ b → b < m 3 → m' (548 + 10 * b + 4) = m (548 + 10 * b + 4)) (e5 : ∀ b, 0 ≤ b → b < m 3 → b ≠ x → m' (548 + 10 * b + 5) = m (548 + 10 * b + 5))
    (hx : 0 ≤ x → x < m 3 → m' (548 + 10 * x + 5) = m (548 + 10 * x + 5) ∨ ((m (548 + 10 * x + 4) ≠ -1 → m (548 + 10 * m (548 + 10 * x + 4) + 5) = 5 → 4 ≤ m' (548 + 10 * x + 5)) ∧ m' (548 + 10 * x + 5) ≠ 5)) : I2 m' := by
  intro b b0 b1
  rw [h3] at b1
  have hbb := hb b b0 b1
  have h' := h b b0 b1
  unfold okB2 at *
  rw [e4 b b0 b1]
  intro hne h5
  by_cases ebx : b = x
  · subst ebx
    rw [e5 _ (by omega) (by omega) (by omega)] at h5
    rcases hx b0 b1 with q | q
    · rw [q]; exact h' hne h5
    · exact q.1 hne h5
  · rw [e5 b b0 b1 ebx]
    by_cases ebf : m (548 + 10 * b + 4) = x
    · rcases hx (by omega) (by omega) with q | q
      · rw [ebf, q, ← ebf] at h5
        exact h' hne h5
      · exfalso; rw [ebf] at h5; exact q.2 h5
    · rw [e5 _ (by omega) (by omega) ebf] at h5
      exact h' hne h5
end IV0
theorem Iv_congr {m m' : Int → Int} {W : Int} (h : Iv m W) (e : ∀ k, 0 ≤ k → k < 788 → m' k = m k) : Iv m' W := by
  rw [Iv_iff] at *
  obtain ⟨h0, h1, h2⟩ := h
  have hn := h0.n
  have e3 := e 3 (by omega) (by omega)
  refine ⟨h0.fr (by rw [e _ (by omega) (by omega)]; exact hn.1) (by rw [e _ (by omega) (by omega)]; exact hn.2.1) (by rw [e _ (by omega) (by omega)]; exact hn.2.2.2.2) (e _ (by omega) (by omega)) e3 (fun k k0 k1 => e _ (by omega) (by omega)) (fun k k0 k1 => by rw [e _ (by omega) (by omega)]; exact h0.sh k0 k1) (fun u u0 u1 => (h0.u u0 u1).fr (fun w w0 w1 => e _ (by omega) (by omega)) e3) (fun b b0 b1 => (h0.b b0 b1).fr (h0.page b0 b1).1 (fun w w0 w1 => e _ (by omega) (by omega)) (e _ (by omega) (by omega)) (fun k k0 k1 => e _ (by omega) (by omega))), fun b b0 b1 => ?_, ?_⟩
  · rw [e3] at b1
    exact (h1 b b0 b1).fr (h0.b b0 b1) ⟨(h0.page b0 b1).1, (h0.page b0 b1).2.1⟩ (e _ (by omega) (by omega)) (e _ (by omega) (by omega)) (fun q => by rw [← e _ (by omega) (by omega)]; exact q) (e _ (by omega) (by omega)) (by rw [e _ (by omega) (by omega)]; omega) (fun k k0 k1 => e _ (by omega) (by omega))
  · exact h2.fr (x := -1) (fun b b0 b1 => by have := h0.b b0 b1; unfold okB0 at this; omega) e3 (fun b b0 b1 => e _ (by omega) (by omega)) (fun b b0 b1 _ => e _ (by omega) (by omega)) (by omega)

/-! ===== the calls keep the invariant ===== -/
/-- a change about one batch -/
def wG (m m' : Int → Int) (b W : Int) : Prop := (∀ k, (k < 4 ∨ 56 ≤ k) → (k < 668 ∨ 788 ≤ k) → (k < 548 + 10 * b + 5 ∨ 548 + 10 * b + 10 ≤ k) → m' k = m k) ∧ Iv0 m' W ∧ okB1 m' b ∧ (m' (548 + 10 * b + 5) = m (548 + 10 * b + 5) ∨ (m' (548 + 10 * b + 5) ≠ 5 ∧ (m (548 + 10 * b + 5) < 4 ∨ 4 ≤ m' (548 + 10 * b + 5))))
theorem wG_Iv {m m' : Int → Int} {b W W' : Int} (h : wG m m' b W') (hI : Iv m W) (b0 : 0 ≤ b) (b1 : b < m 3) : Iv m' W' := by
  rw [Iv_iff] at hI ⊢
  obtain ⟨h0, h1, h2⟩ := hI
  obtain ⟨e, g0, g1, g5⟩ := h
  have hn := h0.n
  have e3 : m' 3 = m 3 := e 3 (by omega) (by omega) (by omega)
  refine ⟨g0, fun y y0 y1 => ?_, ?_⟩
  · rw [e3] at y1
    by_cases ey : y = b
    · rw [ey]; exact g1
    · exact (h1 y y0 y1).fr (h0.b y0 y1) ⟨(h0.page y0 y1).1, (h0.page y0 y1).2.1⟩ (e _ (by omega) (by omega) (by omega)) (e _ (by omega) (by omega) (by omega)) (fun q => by rw [← e _ (by omega) (by omega) (by omega)]; exact q) (e _ (by omega) (by omega) (by omega)) (by rw [e _ (by omega) (by omega) (by omega)]; omega) (fun k k0 k1 => e _ (by omega) (by omega) (by omega))
  · refine h2.fr (x := b) (fun y y0 y1 => by have := h0.b y0 y1; unfold okB0 at this; omega) e3 (fun y y0 y1 => e _ (by omega) (by omega) (by omega)) (fun y y0 y1 hy => e _ (by omega) (by omega) (by omega)) (fun _ _ => ?_)
    have h5 := h2 b b0 b1
    unfold okB2 at h5
    rcases g5 with g5 | g5
    · exact Or.inl g5
    · right; omega
section OPS
variable {m : Int → Int} {W : Int}
/-- another state -/
theorem st_wG (h : Iv m W) {x v : Int} (x0 : 0 ≤ x) (x1 : x < m 3) (hv : 0 ≤ v ∧ v < 5) (h5 : m (548 + 10 * x + 5) < 4) : wG m (up m (548 + 10 * x + 5) v) x W := by
  rw [Iv_iff] at h
  obtain ⟨h0, h1, h2⟩ := h
  have hn := h0.n
  refine ⟨fun k a b c => up_ne (by omega), h0.okx x0 x1 (by omega) (by omega) (fun _ => by omega) (by omega) (by omega) (by omega) (by omega), (h1 x x0 x1).fr (h0.b x0 x1) ⟨(h0.page x0 x1).1, (h0.page x0 x1).2.1⟩ (up_ne (by omega)) (up_ne (by omega)) (fun _ => by omega) (up_ne (by omega)) (by rw [up_ne (by omega)]; omega) (fun k k0 k1 => up_ne (by omega)), Or.inr ?_⟩
  rw [up_eq rfl]
  omega
theorem wG_of {m1 m2 m3 : Int → Int} {b : Int} (h : wG m1 m2 b W) (e : ∀ k, (k < 4 ∨ 56 ≤ k) → (k < 668 ∨ 788 ≤ k) → m3 k = m2 k) (h3 : Iv0 m3 W) (hb : 0 ≤ b ∧ b < m1 3) (hI : Iv0 m1 W) : wG m1 m3 b W := by
  obtain ⟨g1, g2, g3, g4⟩ := h
  have hn := hI.n
  have e3 : m2 3 = m1 3 := g1 3 (by omega) (by omega) (by omega)
  have hpg := g2.page hb.1 (by omega)
  have ee : ∀ w, 0 ≤ w → w < 10 → m3 (548 + 10 * b + w) = m2 (548 + 10 * b + w) := fun w _ _ => e _ (by omega) (by omega)
  refine ⟨fun k a c d => by rw [e k a c, g1 k a c d], h3, g3.fr (g2.b hb.1 (by omega)) ⟨hpg.1, hpg.2.1⟩ (ee _ (by omega) (by omega)) (ee _ (by omega) (by omega)) (fun q => by rw [← ee 5 (by omega) (by omega)]; exact q) (ee _ (by omega) (by omega)) (by rw [ee _ (by omega) (by omega)]; omega) (fun k k0 k1 => e _ (by omega) (by omega)), by rw [ee 5 (by omega) (by omega)]; exact g4⟩
theorem holds_eq (m : Int → Int) (x : Int) (hx : 0 ≤ x) : s_holds m x = s_note (s_relS (up m (548 + 10 * x + 5) 2) x 3) x 2 := by
  unfold s_holds
  congr 1
  funext k
  by_cases h : k = 548 + 10 * x + 5
  · subst h
    rw [up_eq rfl, s_relS_ne (by omega), up_eq rfl]
  · rw [up_ne h]
    unfold s_relS
    rw [up_ne h]
theorem holds_wG (h : Iv m W) {x : Int} (x0 : 0 ≤ x) (x1 : x < m 3) (h5 : m (548 + 10 * x + 5) < 4) : wG m (s_holds m x) x W := by
  have hs := st_wG h x0 x1 (v := 2) (by omega) h5
  have hI := Iv_iff.mp h
  have hn := hI.1.n
  rw [holds_eq m x x0]
  exact wG_of hs (fun k a c => by rw [s_note_ne (by omega) (by omega), s_relS_ne (by omega)]) ((hs.2.1.relS).note) ⟨x0, x1⟩ hI.1
theorem Iv_unit (h : Iv m W) (hm : m 2 < 8) {kd cp : Int} (h1 : 0 ≤ kd ∧ kd ≤ 3) (h2 : 1 ≤ cp ∧ cp ≤ 10000) (hW : 0 ≤ W) : Iv (s_unit m kd cp) W := by
  rw [Iv_iff] at h ⊢
  obtain ⟨h0, hI1, hI2⟩ := h
  have hn := h0.n
  have e : ∀ k, k ≠ 2 → (k < 5 + 6 * m 2 ∨ 5 + 6 * m 2 + 6 ≤ k) → s_unit m kd cp k = m k := fun k k2 kk => by
    unfold s_unit
    try dsimp only
    rw [up_ne (by omega), up_ne (by omega), up_ne (by omega), up_ne (by omega), up_ne (by omega), up_ne (by omega), up_ne (by omega)]
  have e2 : s_unit m kd cp 2 = m 2 + 1 := by
    unfold s_unit
    try dsimp only
    rw [up_ne (by omega), up_ne (by omega), up_ne (by omega), up_ne (by omega), up_ne (by omega), up_ne (by omega), up_eq rfl]
  have f : ∀ w, 0 ≤ w → w < 6 → s_unit m kd cp (5 + 6 * m 2 + w) = if w = 0 then kd else if w = 1 then cp else if w = 2 then -1 else 0 := fun w w0 w1 => by
    unfold s_unit up
    try dsimp only
    (repeat' split) <;> first | rfl | omega
  refine ⟨⟨?_, ?_, ?_, ?_, ?_, ?_, ?_, ?_, ?_, ?_⟩, fun b b0 b1 => ?_, ?_⟩
  · rw [e 0 (by omega) (by omega)]; exact hn.1
  · rw [e 1 (by omega) (by omega)]; exact hn.2.1
  · rw [e2]; omega
  · rw [e 3 (by omega) (by omega)]; exact hn.2.2.2.1
  · rw [e 4 (by omega) (by omega)]; exact hn.2.2.2.2
  · intro u u0 u1
    rw [e2] at u1
    by_cases eu : u = m 2
    · subst eu
      unfold okU
      rw [f 0 (by omega) (by omega), f 1 (by omega) (by omega), f 2 (by omega) (by omega), f 3 (by omega) (by omega), f 4 (by omega) (by omega), f 5 (by omega) (by omega), e 3 (by omega) (by omega)]
      simp only [show (1 : Int) ≠ 0 by decide, show (2 : Int) ≠ 0 by decide, show (2 : Int) ≠ 1 by decide, show (3 : Int) ≠ 0 by decide, show (3 : Int) ≠ 1 by decide, show (3 : Int) ≠ 2 by decide, show (4 : Int) ≠ 0 by decide, show (4 : Int) ≠ 1 by decide, show (4 : Int) ≠ 2 by decide, show (5 : Int) ≠ 0 by decide, show (5 : Int) ≠ 1 by decide, show (5 : Int) ≠ 2 by decide, if_false, if_true]
      omega
    · exact (h0.u u0 (by omega)).fr (fun w w0 w1 => e _ (by omega) (by omega)) (e 3 (by omega) (by omega))
  · intro k k0 k1
    rw [e _ (by omega) (by omega), e 3 (by omega) (by omega)]; exact h0.sh k0 k1
  · intro r r0 r1
    rw [e _ (by omega) (by omega)]; exact h0.vs r0 r1
  · intro r v r0 r1 v0 v1
    rw [e _ (by omega) (by omega)] at v1
    have hv := h0.vs r0 r1
    obtain ⟨q1, q2⟩ := h0.pg r0 r1 v0 v1
    unfold okV
    rw [e (62 + (9 * r + v - 1)) (by omega) (by omega)]
    exact ⟨q1, fun k k0 k1 => by rw [e _ (by omega) (by omega)]; exact q2 k k0 k1⟩
  · intro b b0 b1
    rw [e 3 (by omega) (by omega)] at b1
    have hb := h0.b b0 b1
    have hpg := h0.page b0 b1
    obtain ⟨-, el, -⟩ := page_fr (m' := s_unit m kd cp) hpg.1 (e _ (by omega) (by omega)) (e _ (by omega) (by omega)) (fun k k0 k1 => e _ (by omega) (by omega))
    have ee : ∀ w, 0 ≤ w → w < 10 → s_unit m kd cp (548 + 10 * b + w) = m (548 + 10 * b + w) := fun w _ _ => e _ (by omega) (by omega)
    unfold okB0 at *
    rw [ee 0 (by omega) (by omega), ee 1 (by omega) (by omega), ee 2 (by omega) (by omega), ee 3 (by omega) (by omega), ee 4 (by omega) (by omega), ee 5 (by omega) (by omega), ee 6 (by omega) (by omega), ee 7 (by omega) (by omega), ee 8 (by omega) (by omega), ee 9 (by omega) (by omega), el, e2, e (56 + m (548 + 10 * b + 0)) (by omega) (by omega)]
    exact ⟨hb.1, hb.2.1, hb.2.2.1, hb.2.2.2.1, hb.2.2.2.2.1, hb.2.2.2.2.2.1, hb.2.2.2.2.2.2.1, hb.2.2.2.2.2.2.2.1, by omega, hb.2.2.2.2.2.2.2.2.2⟩
  · rw [e 3 (by omega) (by omega)] at b1
    exact (hI1 b b0 b1).fr (h0.b b0 b1) ⟨(h0.page b0 b1).1, (h0.page b0 b1).2.1⟩ (e _ (by omega) (by omega)) (e _ (by omega) (by omega)) (fun q => by rw [← e _ (by omega) (by omega)]; exact q) (e _ (by omega) (by omega)) (by rw [e _ (by omega) (by omega)]; omega) (fun k k0 k1 => e _ (by omega) (by omega))
  · exact hI2.fr (x := -1) (fun b b0 b1 => by have := h0.b b0 b1; unfold okB0 at this; omega) (e _ (by omega) (by omega)) (fun b b0 b1 => e _ (by omega) (by omega)) (fun b b0 b1 _ => e _ (by omega) (by omega)) (by omega)
/-- where batches' states, phases and books are as they were -/
theorem Iv_of0 {m' : Int → Int} {W' : Int} (h : Iv m W) (h0 : Iv0 m' W') (h3 : m' 3 = m 3) (e : ∀ b w, 0 ≤ b → b < m 3 → 0 ≤ w → w < 8 → w ≠ 3 → m' (548 + 10 * b + w) = m (548 + 10 * b + w)) (hV : ∀ k, 56 ≤ k → k < 548 → m' k = m k) : Iv m' W' := by
  rw [Iv_iff] at h ⊢
  obtain ⟨g0, g1, g2⟩ := h
  refine ⟨h0, fun b b0 b1 => ?_, ?_⟩
  · rw [h3] at b1
    exact (g1 b b0 b1).fr (g0.b b0 b1) ⟨(g0.page b0 b1).1, (g0.page b0 b1).2.1⟩ (e b 0 b0 b1 (by omega) (by omega) (by omega)) (e b 1 b0 b1 (by omega) (by omega) (by omega)) (fun q => by rw [← e b 5 b0 b1 (by omega) (by omega) (by omega)]; exact q) (e b 6 b0 b1 (by omega) (by omega) (by omega)) (by rw [e b 7 b0 b1 (by omega) (by omega) (by omega)]; omega) hV
  · exact g2.fr (x := -1) (fun b b0 b1 => by have := g0.b b0 b1; unfold okB0 at this; omega) h3 (fun b b0 b1 => e b 4 b0 b1 (by omega) (by omega) (by omega)) (fun b b0 b1 _ => e b 5 b0 b1 (by omega) (by omega) (by omega)) (by omega)
theorem Iv_brk (h : Iv m W) {u v : Int} (u0 : 0 ≤ u) (u1 : u < m 2) (hv : 0 ≤ v ∧ v ≤ 1) : Iv (up m (5 + 6 * u + 3) v) W := by
  have hI := Iv_iff.mp h
  have hn := hI.1.n
  exact Iv_of0 h (hI.1.upU u0 u1 (by omega) (by omega) (fun _ => hv) (by omega) (by omega) (Int.le_refl _)) (up_ne (by omega)) (fun b w b0 b1 w0 w1 _ => up_ne (by omega)) (fun k k0 k1 => up_ne (by omega))
theorem Iv_cln (h : Iv m W) {v : Int} (hv : 0 ≤ v ∧ v ≤ 30) : Iv (up m 0 v) W :=
  Iv_of0 h ((Iv_iff.mp h).1.cleaning hv) (up_ne (by omega)) (fun b w b0 b1 w0 w1 _ => up_ne (by omega)) (fun k k0 k1 => up_ne (by omega))
theorem Iv_prio (h : Iv m W) {x v : Int} (x0 : 0 ≤ x) (x1 : x < m 3) (hv : 0 ≤ v ∧ v ≤ 9) : Iv (up m (548 + 10 * x + 3) v) W := by
  have hI := Iv_iff.mp h
  exact Iv_of0 h (hI.1.okx x0 x1 (by omega) (fun _ => hv) (by omega) (by omega) (by omega) (by omega) (by omega)) (up_ne (by omega)) (fun b w b0 b1 w0 w1 w3 => up_ne (by omega)) (fun k k0 k1 => up_ne (by omega))
theorem endsBy_Iv0 (h : Iv0 m W) {x st w : Int} (x0 : 0 ≤ x) (x1 : x < m 3) (hs : 0 ≤ st ∧ st ≤ 6) : Iv0 (s_endsBy m x st w) W := by
  have hn := h.n
  have g1 := h.relS (b := x)
  have f3 : s_relS m x 3 3 = m 3 := s_relS_ne (by omega)
  have g2 := g1.relU x0 (by omega)
  have f4 : s_relU (s_relS m x 3) x 3 = m 3 := by
    have := g1.b x0 (by omega)
    have hn1 := g1.n
    unfold okB0 at this
    simp only [s_relU]
    split
    · exact f3
    · rw [up_ne (by omega), up_ne (by omega), up_ne (by omega), f3]
  exact (g2.okx (w := 5) (v := st) x0 (by omega) (by omega) (by omega) (fun _ => hs) (by omega) (by omega) (by omega) (by omega)).note
theorem endsBy_wG (h : Iv m W) {x : Int} {w : Int} (x0 : 0 ≤ x) (x1 : x < m 3) (h5 : m (548 + 10 * x + 5) < 4) : wG m (s_endsBy m x 4 w) x W := by
  have hI := Iv_iff.mp h
  have hn := hI.1.n
  have hb := hI.1.b x0 x1
  unfold okB0 at hb
  have e : ∀ k, (k < 4 ∨ 56 ≤ k) → (k < 668 ∨ 788 ≤ k) → k ≠ 548 + 10 * x + 5 → k ≠ 548 + 10 * x + 8 → s_endsBy m x 4 w k = m k := fun k a b c d => s_endsBy_ne (by omega) (by omega) a b c d
  have e5 : (s_endsBy m x 4 w) (548 + 10 * x + 5) = 4 := s_endsBy_st (by omega)
  refine ⟨fun k a b c => e k a b (by omega) (by omega), endsBy_Iv0 hI.1 x0 x1 (by omega), (hI.2.1 x x0 x1).fr (hI.1.b x0 x1) ⟨(hI.1.page x0 x1).1, (hI.1.page x0 x1).2.1⟩ (e _ (by omega) (by omega) (by omega) (by omega)) (e _ (by omega) (by omega) (by omega) (by omega)) (fun _ => by omega) (e _ (by omega) (by omega) (by omega) (by omega)) (by rw [e _ (by omega) (by omega) (by omega) (by omega)]; omega) (fun k k0 k1 => e _ (by omega) (by omega) (by omega) (by omega)), Or.inr ?_⟩
  rw [e5]
  omega
theorem restart_wG (h : Iv m W) {x : Int} (x0 : 0 ≤ x) (x1 : x < m 3) (h5 : m (548 + 10 * x + 5) = 2) : wG m (s_restart m x) x W := by
  have hs := st_wG h x0 x1 (v := 1) (by omega) (by omega)
  have hI := Iv_iff.mp h
  have hn := hI.1.n
  have hb1 := (hI.2.1 x x0 x1).1
  have hb := hI.1.b x0 x1
  unfold okB0 at hb
  obtain ⟨g1, g2, g3, g4⟩ := hs
  unfold s_restart
  try dsimp only
  generalize hv : (if phB (up m (548 + 10 * x + 5) 1) x ((up m (548 + 10 * x + 5) 1) (548 + 10 * x + 6)) / 262144 % 2 = 1 then 0 else up m (548 + 10 * x + 5) 1 (548 + 10 * x + 7)) = v
  have e7 : up m (548 + 10 * x + 5) 1 (548 + 10 * x + 7) = m (548 + 10 * x + 7) := up_ne (by omega)
  have hv7 : 0 ≤ v ∧ v ≤ m (548 + 10 * x + 7) := by rw [← hv]; split <;> omega
  generalize hm1 : up m (548 + 10 * x + 5) 1 = m1 at *
  have e3 : m1 3 = m 3 := g1 3 (by omega) (by omega) (by omega)
  have k2 := g2.okx (w := 7) (v := v) x0 (by omega) (by omega) (by omega) (by omega) (by omega) (fun _ => by omega) (by omega) (by omega)
  have ee : ∀ k, (k < 668 ∨ 788 ≤ k) → k ≠ 4 → k ≠ 548 + 10 * x + 7 → s_note (up m1 (548 + 10 * x + 7) v) x 3 k = m1 k := fun k a b c => by rw [s_note_ne a b, up_ne c]
  have hpg := g2.page x0 (by omega)
  refine ⟨fun k a b c => by rw [ee k b (by omega) (by omega), g1 k a b c], k2.note, g3.fr (g2.b x0 (by omega)) ⟨hpg.1, hpg.2.1⟩ (ee _ (by omega) (by omega) (by omega)) (ee _ (by omega) (by omega) (by omega)) (fun q => by rw [← ee _ (by omega) (by omega) (by omega)]; exact q) (ee _ (by omega) (by omega) (by omega)) ?_ (fun k k0 k1 => ee _ (by omega) (by omega) (by omega)), ?_⟩
  · rw [s_note_ne (by omega) (by omega), up_eq rfl, e7]
    omega
  · rw [ee _ (by omega) (by omega) (by omega)]
    exact g4
theorem Iv_batch (h : Iv m W) (hm : m 3 < 12) {r sz pr bf : Int} (hr : 0 ≤ r ∧ r ≤ 5) (hs : 1 ≤ sz ∧ sz ≤ 10000) (hp : 0 ≤ pr ∧ pr ≤ 9) (hb : bf = -1 ∨ (0 ≤ bf ∧ bf ≤ m 3 - 1)) (hv : m (56 + r) ≠ 0) (h5 : ¬ (bf ≠ -1 ∧ (m (548 + 10 * bf + 5) = 4 ∨ m (548 + 10 * bf + 5) = 5))) : Iv (s_batch m r sz pr bf) W := by
  rw [Iv_iff] at h ⊢
  obtain ⟨h0, hI1, hI2⟩ := h
  have hn := h0.n
  have hvs := h0.vs (r := r) (by omega) (by omega)
  obtain ⟨hF, -⟩ := f_size hs
  have e : ∀ k, k ≠ 3 → (k < 548 + 10 * m 3 ∨ 548 + 10 * m 3 + 10 ≤ k) → s_batch m r sz pr bf k = m k := fun k k2 kk => by
    unfold s_batch
    try dsimp only
    rw [up_ne (by omega), up_ne (by omega), up_ne (by omega), up_ne (by omega), up_ne (by omega), up_ne (by omega), up_ne (by omega), up_ne (by omega), up_ne (by omega), up_ne (by omega), up_ne (by omega)]
  have e3 : s_batch m r sz pr bf 3 = m 3 + 1 := by
    unfold s_batch
    try dsimp only
    rw [up_ne (by omega), up_ne (by omega), up_ne (by omega), up_ne (by omega), up_ne (by omega), up_ne (by omega), up_ne (by omega), up_ne (by omega), up_ne (by omega), up_ne (by omega), up_eq rfl]
  have ev : up (up m 3 (m 3 + 1)) (548 + 10 * m 3 + 0) r (56 + r) = m (56 + r) := by rw [up_ne (by omega), up_ne (by omega)]
  have f0 : s_batch m r sz pr bf (548 + 10 * m 3 + 0) = r := by
    unfold s_batch
    try dsimp only
    rw [up_ne (by omega), up_ne (by omega), up_ne (by omega), up_ne (by omega), up_ne (by omega), up_ne (by omega), up_ne (by omega), up_ne (by omega), up_ne (by omega), up_eq rfl]
  have f1 : s_batch m r sz pr bf (548 + 10 * m 3 + 1) = m (56 + r) := by
    unfold s_batch
    try dsimp only
    rw [up_ne (by omega), up_ne (by omega), up_ne (by omega), up_ne (by omega), up_ne (by omega), up_ne (by omega), up_ne (by omega), up_ne (by omega), up_eq rfl, ev]
  have f2 : s_batch m r sz pr bf (548 + 10 * m 3 + 2) = sz := by
    unfold s_batch
    try dsimp only
    rw [up_ne (by omega), up_ne (by omega), up_ne (by omega), up_ne (by omega), up_ne (by omega), up_ne (by omega), up_ne (by omega), up_eq rfl]
  have f3 : s_batch m r sz pr bf (548 + 10 * m 3 + 3) = pr := by
    unfold s_batch
    try dsimp only
    rw [up_ne (by omega), up_ne (by omega), up_ne (by omega), up_ne (by omega), up_ne (by omega), up_ne (by omega), up_eq rfl]
  have f4 : s_batch m r sz pr bf (548 + 10 * m 3 + 4) = bf := by
    unfold s_batch
    try dsimp only
    rw [up_ne (by omega), up_ne (by omega), up_ne (by omega), up_ne (by omega), up_ne (by omega), up_eq rfl]
  have f5 : s_batch m r sz pr bf (548 + 10 * m 3 + 5) = 0 := by
    unfold s_batch
    try dsimp only
    rw [up_ne (by omega), up_ne (by omega), up_ne (by omega), up_ne (by omega), up_eq rfl]
  have f6 : s_batch m r sz pr bf (548 + 10 * m 3 + 6) = 0 := by
    unfold s_batch
    try dsimp only
    rw [up_ne (by omega), up_ne (by omega), up_ne (by omega), up_eq rfl]
  have f7 : s_batch m r sz pr bf (548 + 10 * m 3 + 7) = 0 := by
    unfold s_batch
    try dsimp only
    rw [up_ne (by omega), up_ne (by omega), up_eq rfl]
  have f8 : s_batch m r sz pr bf (548 + 10 * m 3 + 8) = -1 := by
    unfold s_batch
    try dsimp only
    rw [up_ne (by omega), up_eq rfl]
  have f9 : s_batch m r sz pr bf (548 + 10 * m 3 + 9) = fI (FP.i2f (Int32.ofInt sz)) := by
    unfold s_batch
    try dsimp only
    rw [up_eq rfl]
  have hpg := h0.pg (r := r) (v := m (56 + r)) (by omega) (by omega) (by omega) (by omega)
  have eb : pgB (s_batch m r sz pr bf) (m 3) = 9 * r + m (56 + r) - 1 := by
    unfold pgB
    rw [f0, f1]
  have el : lnB (s_batch m r sz pr bf) (m 3) = m (62 + (9 * r + m (56 + r) - 1)) := by
    unfold lnB
    rw [eb]
    exact e _ (by omega) (by omega)
  have ep : phB (s_batch m r sz pr bf) (m 3) 0 = m (116 + 8 * (9 * r + m (56 + r) - 1) + 0) := by
    unfold phB
    rw [eb]
    exact e _ (by omega) (by omega)
  have hok := hpg.2 0 (by omega) (by have := hpg.1; omega)
  unfold okP at hok
  have hp1 := hpg.1
  refine ⟨⟨?_, ?_, ?_, ?_, ?_, ?_, ?_, ?_, ?_, ?_⟩, fun b b0 b1 => ?_, fun b b0 b1 => ?_⟩
  · rw [e 0 (by omega) (by omega)]; exact hn.1
  · rw [e 1 (by omega) (by omega)]; exact hn.2.1
  · rw [e 2 (by omega) (by omega)]; exact hn.2.2.1
  · rw [e3]; omega
  · rw [e 4 (by omega) (by omega)]; exact hn.2.2.2.2
  · intro u u0 u1
    rw [e 2 (by omega) (by omega)] at u1
    have hu := h0.u u0 u1
    unfold okU at *
    rw [e (5 + 6 * u + 0) (by omega) (by omega), e (5 + 6 * u + 1) (by omega) (by omega), e (5 + 6 * u + 2) (by omega) (by omega), e (5 + 6 * u + 3) (by omega) (by omega), e (5 + 6 * u + 4) (by omega) (by omega), e (5 + 6 * u + 5) (by omega) (by omega), e3]
    omega
  · intro k k0 k1
    have := h0.sh k0 k1
    rw [e _ (by omega) (by omega), e3]; omega
  · intro r r0 r1
    rw [e _ (by omega) (by omega)]; exact h0.vs r0 r1
  · intro r v r0 r1 v0 v1
    rw [e _ (by omega) (by omega)] at v1
    have hv := h0.vs r0 r1
    obtain ⟨q1, q2⟩ := h0.pg r0 r1 v0 v1
    unfold okV
    rw [e (62 + (9 * r + v - 1)) (by omega) (by omega)]
    exact ⟨q1, fun k k0 k1 => by rw [e _ (by omega) (by omega)]; exact q2 k k0 k1⟩
  · intro b b0 b1
    rw [e3] at b1
    by_cases eb' : b = m 3
    · subst eb'
      unfold okB0
      rw [f0, f1, f2, f3, f4, f5, f6, f7, f8, f9, el, e (56 + r) (by omega) (by omega), e 2 (by omega) (by omega)]
      exact ⟨by omega, by omega, hs, hp, by omega, by omega, by omega, by omega, by omega, hF⟩
    · exact (h0.b b0 (by omega)).fr (h0.page b0 (by omega)).1 (fun w w0 w1 => e _ (by omega) (by omega)) (e 2 (by omega) (by omega)) (fun k k0 k1 => e _ (by omega) (by omega))
  · rw [e3] at b1
    by_cases eb' : b = m 3
    · subst eb'
      unfold okB1
      rw [f5, f6, f7, el, ep]
      exact ⟨by omega, fun _ => by omega⟩
    · exact (hI1 b b0 (by omega)).fr (h0.b b0 (by omega)) ⟨(h0.page b0 (by omega)).1, (h0.page b0 (by omega)).2.1⟩ (e _ (by omega) (by omega)) (e _ (by omega) (by omega)) (fun q => by rw [← e _ (by omega) (by omega)]; exact q) (e _ (by omega) (by omega)) (by rw [e _ (by omega) (by omega)]; omega) (fun k k0 k1 => e _ (by omega) (by omega))
  · rw [e3] at b1
    by_cases eb' : b = m 3
    · subst eb'
      unfold okB2
      rw [f4, f5]
      intro q1 q2
      rw [e _ (by omega) (by omega)] at q2
      omega
    · have hbb := h0.b b0 (by omega)
      have h2 := hI2 b b0 (by omega)
      unfold okB0 at hbb
      unfold okB2 at *
      rw [e (548 + 10 * b + 4) (by omega) (by omega), e (548 + 10 * b + 5) (by omega) (by omega)]
      intro q1 q2
      rw [e (548 + 10 * m (548 + 10 * b + 4) + 5) (by omega) (by omega)] at q2
      exact h2 q1 q2
end OPS

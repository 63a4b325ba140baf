/-! ===== a batch's tick: its invariant ===== -/
/-- what a batch's tick may change -/
def wE (m m' : Int → Int) (b W : Int) : Prop := (∀ k, (k < 4 ∨ 56 ≤ k) → (k < 668 ∨ 788 ≤ k) → (k < 548 + 10 * b + 5 ∨ 548 + 10 * b + 10 ≤ k) → m' k = m k) ∧ Iv0 m' W ∧ okB1 m' b ∧ (m' (548 + 10 * b + 5) = m (548 + 10 * b + 5) ∨ (m (548 + 10 * b + 5) = 3 ∧ m' (548 + 10 * b + 5) = 4) ∨ m' (548 + 10 * b + 5) = 6)
theorem wE_Iv {m m' : Int → Int} {b W W' : Int} (h : wE m m' b W') (hI : Iv m W) (b0 : 0 ≤ b) (b1 : b < m 3) (ha : m (548 + 10 * b + 5) = 1 ∨ m (548 + 10 * b + 5) = 3) : Iv m' W' := by
  rw [Iv_iff] at hI ⊢
  obtain ⟨h0, h1, h2⟩ := hI
  obtain ⟨e, g0, g1, g5⟩ := h
  have hn := h0.n
  have e3 : m' 3 = m 3 := e 3 (by omega) (by omega) (by omega)
  refine ⟨g0, fun y y0 y1 => ?_, ?_⟩
  · rw [e3] at y1
    by_cases ey : y = b
    · rw [ey]; exact g1
    · exact (h1 y y0 y1).fr (h0.b y0 y1) ⟨(h0.page y0 y1).1, (h0.page y0 y1).2.1⟩ (e _ (by omega) (by omega) (by omega)) (e _ (by omega) (by omega) (by omega)) (fun q => by rw [← e _ (by omega) (by omega) (by omega)]; exact q) (e _ (by omega) (by omega) (by omega)) (by rw [e _ (by omega) (by omega) (by omega)]; omega) (fun k k0 k1 => e _ (by omega) (by omega) (by omega))
  · refine h2.fr (x := b) (fun y y0 y1 => by have := h0.b y0 y1; unfold okB0 at this; omega) e3 (fun y y0 y1 => e _ (by omega) (by omega) (by omega)) (fun y y0 y1 hy => e _ (by omega) (by omega) (by omega)) (fun _ _ => ?_)
    have h5 := h2 b b0 b1
    unfold okB2 at h5
    rcases g5 with g5 | g5 | g5
    · exact Or.inl g5
    · right; omega
    · right; omega
theorem wE.rf {m : Int → Int} {b W : Int} (hI : Iv m W) (b0 : 0 ≤ b) (b1 : b < m 3) : wE m m b (W + 1) := by
  rw [Iv_iff] at hI
  exact ⟨fun _ _ _ _ => rfl, hI.1.mono (by omega), hI.2.1 b b0 b1, Or.inl rfl⟩
theorem take_ne {m : Int → Int} {b u k : Int} (hu : 0 ≤ u ∧ u < 8) (h1 : k < 4 ∨ 53 ≤ k) (h2 : k < 668 ∨ 788 ≤ k) (h8 : k ≠ 548 + 10 * b + 8) : s_take m b u k = m k := by
  unfold s_take
  rw [s_note_ne h2 (by omega), up_ne (by omega), up_ne h8]
theorem take_8 {m : Int → Int} {b u : Int} (hb : 0 ≤ b ∧ b < 12) (hu : 0 ≤ u ∧ u < 8) : s_take m b u (548 + 10 * b + 8) = u := by
  unfold s_take
  rw [s_note_ne (by omega) (by omega), up_ne (by omega), up_eq rfl]
theorem take_Iv0 {m : Int → Int} {b u W : Int} (h : Iv0 m W) (b0 : 0 ≤ b) (b1 : b < m 3) (u0 : 0 ≤ u) (u1 : u < m 2) : Iv0 (s_take m b u) W := by
  have hn := h.n
  have g1 := h.okx (w := 8) (v := u) b0 b1 (by omega) (by omega) (by omega) (by omega) (by omega) (fun _ => by omega) (by omega)
  have g2 := g1.upU (W' := W) (x := u) (w := 2) (v := b) u0 (by rw [up_ne (by omega)]; exact u1) (by omega) (fun _ => by rw [up_ne (by omega)]; omega) (by omega) (by omega) (by omega) (Int.le_refl _)
  exact g2.note
/-- the tick that a batch gets, from a memory of its own -/
theorem w3_wE {m : Int → Int} {b W : Int} (h : Iv0 m W) (h1 : okB1 m b) (b0 : 0 ≤ b) (b1 : b < m 3) (h5 : m (548 + 10 * b + 5) = 1 ∨ m (548 + 10 * b + 5) = 3) (h8 : m (548 + 10 * b + 8) ≠ -1) : wE m (s_w3 m b (phB m b (m (548 + 10 * b + 6)))) b (W + 1) := by
  have hn := h.n
  have hb := h.b b0 b1
  obtain ⟨hp, hl, hph⟩ := h.page b0 b1
  have hb' := hb
  unfold okB0 at hb
  obtain ⟨h1d, h1s⟩ := h1
  obtain ⟨q6, q7⟩ := h1s (by omega)
  have hpk := hph _ hb.2.2.2.2.2.2.1.1 q6
  generalize hpe : phB m b (m (548 + 10 * b + 6)) = p at *
  have hpk' := hpk
  unfold okP at hpk
  generalize hm1 : (if (p / 512 % 4 - 1) = -1 then m else up m (53 + (p / 512 % 4 - 1)) b) = m1
  have k1 : Iv0 m1 W := by
    rw [← hm1]
    split
    · exact h
    · exact h.upS (by omega) (by omega) (by omega)
  have e1 : ∀ k, (k < 53 ∨ 56 ≤ k) → m1 k = m k := fun k hk => by
    rw [← hm1]
    split
    · rfl
    · exact up_ne (by omega)
  have k2 := k1.okx (w := 7) (v := m1 (548 + 10 * b + 7) + 1) b0 (by rw [e1 3 (by omega)]; exact b1) (by omega) (by omega) (by omega) (by omega) (fun _ => by rw [e1 _ (by omega)]; omega) (by omega) (by omega)
  generalize hm2 : up m1 (548 + 10 * b + 7) (m1 (548 + 10 * b + 7) + 1) = m2 at k2
  have e2 : ∀ k, (k < 53 ∨ 56 ≤ k) → k ≠ 548 + 10 * b + 7 → m2 k = m k := fun k hk hk7 => by rw [← hm2, up_ne hk7, e1 k hk]
  have e27 : m2 (548 + 10 * b + 7) = m (548 + 10 * b + 7) + 1 := by rw [← hm2, up_eq rfl, e1 _ (by omega)]
  have u8 : m2 (548 + 10 * b + 8) = m (548 + 10 * b + 8) := e2 _ (by omega) (by omega)
  have hu := k2.u (u := m2 (548 + 10 * b + 8)) (by omega) (by rw [e2 2 (by omega) (by omega)]; omega)
  unfold okU at hu
  have k3 := k2.upU (W' := W + 1) (x := m2 (548 + 10 * b + 8)) (w := 5) (v := m2 (5 + 6 * m2 (548 + 10 * b + 8) + 5) + 1) (by omega) (by rw [e2 2 (by omega) (by omega)]; omega) (by omega) (by omega) (by omega) (by omega) (fun _ => by omega) (by omega)
  generalize hm3 : up m2 (5 + 6 * m2 (548 + 10 * b + 8) + 5) (m2 (5 + 6 * m2 (548 + 10 * b + 8) + 5) + 1) = m3 at k3
  have e3 : ∀ k, (k < 5 ∨ 56 ≤ k) → k ≠ 548 + 10 * b + 7 → m3 k = m k := fun k hk hk7 => by rw [← hm3, up_ne (by omega), e2 k (by omega) hk7]
  have e37 : m3 (548 + 10 * b + 7) = m (548 + 10 * b + 7) + 1 := by rw [← hm3, up_ne (by omega), e27]
  obtain ⟨pg3, ln3, ph3⟩ := page_fr (m' := m3) hp (e3 _ (by omega) (by omega)) (e3 _ (by omega) (by omega)) (fun k k0 k1 => e3 _ (by omega) (by omega))
  have e36 : m3 (548 + 10 * b + 6) = m (548 + 10 * b + 6) := e3 _ (by omega) (by omega)
  have e38 : m3 (548 + 10 * b + 8) = m (548 + 10 * b + 8) := e3 _ (by omega) (by omega)
  have e35 : m3 (548 + 10 * b + 5) = m (548 + 10 * b + 5) := e3 _ (by omega) (by omega)
  have ep : phB m3 b (m3 (548 + 10 * b + 6)) = p := by rw [e36, ph3 _ (by omega) (by omega), hpe]
  have eS : s_w3 m b p = if p / 4 % 128 - m3 (548 + 10 * b + 7) = 0 then s_ends m3 b p else m3 := by
    unfold s_w3
    try dsimp only
    rw [hm1, hm2, hm3, ep]
  rw [eS]
  split
  · have k4 := ends_Iv0 (p := p) k3 b0 (by rw [e3 3 (by omega) (by omega)]; exact b1) (by rw [e36, ln3]; exact q6) (by omega)
    obtain ⟨c6, c7⟩ := ends_B (m := m3) (p := p) (b := b) (by omega) (by omega)
    have c5 := ends_5 (m := m3) (p := p) (b := b) (by omega) (by omega) (by omega)
    have ee : ∀ k, (k < 4 ∨ 56 ≤ k) → (k < 668 ∨ 788 ≤ k) → (k < 548 + 10 * b + 5 ∨ 548 + 10 * b + 10 ≤ k) → s_ends m3 b p k = m k := fun k q1 q2 q3 => by rw [ends_ne (by omega) (by omega) q1 q2 q3, e3 k (by omega) (by omega)]
    obtain ⟨pg4, ln4, ph4⟩ := page_fr (m' := s_ends m3 b p) hp (ee _ (by omega) (by omega) (by omega)) (ee _ (by omega) (by omega) (by omega)) (fun k k0 k1 => ee _ (by omega) (by omega) (by omega))
    rw [e36, ln3, e35] at c5
    refine ⟨ee, k4, ⟨by omega, fun q => ?_⟩, ?_⟩
    · have c61 : m (548 + 10 * b + 6) + 1 ≠ lnB m b := fun z => by rw [if_pos z] at c5; exact q c5
      have hnx := hph (m (548 + 10 * b + 6) + 1) (by omega) (by omega)
      unfold okP at hnx
      rw [ln4, c6, c7, e36, ph4 _ (by omega) (by omega)]
      omega
    · rw [c5]
      split
      · right; right; rfl
      · split
        · right; left; exact ⟨by omega, rfl⟩
        · left; rfl
  · refine ⟨fun k q1 q2 q3 => e3 k (by omega) (by omega), k3, ⟨by omega, fun _ => ?_⟩, Or.inl e35⟩
    rw [ln3, e36, e37, ph3 _ (by omega) (by omega), hpe]
    omega
theorem wShr_eq {m m' : Int → Int} {b : Int} (hph : phB m' b (m' (548 + 10 * b + 6)) = phB m b (m (548 + 10 * b + 6))) (hr : 0 ≤ phB m b (m (548 + 10 * b + 6)) / 512 % 4 - 1 → m' (53 + (phB m b (m (548 + 10 * b + 6)) / 512 % 4 - 1)) = m (53 + (phB m b (m (548 + 10 * b + 6)) / 512 % 4 - 1))) : ((phB m' b (m' (548 + 10 * b + 6)) / 512 % 4 - 1) ≠ -1 ∧ m' (53 + (phB m' b (m' (548 + 10 * b + 6)) / 512 % 4 - 1)) ≠ -1 ∧ m' (53 + (phB m' b (m' (548 + 10 * b + 6)) / 512 % 4 - 1)) ≠ b) ↔ ((phB m b (m (548 + 10 * b + 6)) / 512 % 4 - 1) ≠ -1 ∧ m (53 + (phB m b (m (548 + 10 * b + 6)) / 512 % 4 - 1)) ≠ -1 ∧ m (53 + (phB m b (m (548 + 10 * b + 6)) / 512 % 4 - 1)) ≠ b) := by
  rw [hph]
  by_cases h : 0 ≤ phB m b (m (548 + 10 * b + 6)) / 512 % 4 - 1
  · rw [hr h]
  · constructor
    · intro q; exfalso; omega
    · intro q; exfalso; omega
theorem work_wE {m : Int → Int} {b W : Int} (hI : Iv m W) (b0 : 0 ≤ b) (b1 : b < m 3) (h5 : m (548 + 10 * b + 5) = 1 ∨ m (548 + 10 * b + 5) = 3) : wE m (s_work m b) b (W + 1) := by
  have hrf := wE.rf hI b0 b1
  rw [Iv_iff] at hI
  obtain ⟨h0, h1, h2⟩ := hI
  have hn := h0.n
  have hb := h0.b b0 b1
  obtain ⟨hp, hl, hph⟩ := h0.page b0 b1
  have hb1 := h1 b b0 b1
  have hb1' := hb1
  unfold okB0 at hb
  obtain ⟨h1d, h1s⟩ := hb1'
  obtain ⟨q6, q7⟩ := h1s (by omega)
  have w2 : ∀ m', wE m m' b W → m' (548 + 10 * b + 8) ≠ -1 → phB m' b (m' (548 + 10 * b + 6)) = phB m b (m (548 + 10 * b + 6)) → m' (548 + 10 * b + 5) = m (548 + 10 * b + 5) → wE m (s_w2 m' b (phB m b (m (548 + 10 * b + 6)))) b (W + 1) := by
    intro m' hE e8 ep e5
    obtain ⟨g1, g2, g3, g4⟩ := hE
    unfold s_w2
    split
    · exact ⟨g1, g2.mono (by omega), g3, g4⟩
    · rw [← ep]
      obtain ⟨f1, f2, f3, f4⟩ := w3_wE g2 g3 b0 (by rw [g1 3 (by omega) (by omega) (by omega)]; exact b1) (by omega) e8
      exact ⟨fun k a c d => by rw [f1 k a c d, g1 k a c d], f2, f3, by omega⟩
  unfold s_work
  try dsimp only
  split
  · exact hrf
  · split
    · next h8 =>
      split
      · exact hrf
      · next hu =>
        have hr := lowU_rg (fun u => ((m (5 + 6 * u + 2) = -1 ∧ m (5 + 6 * u + 3) = 0 ∧ m (5 + 6 * u + 4) ≤ 0) ∧ m (5 + 6 * u + 0) = (phB m b (m (548 + 10 * b + 6)) % 4) ∧ (m (548 + 10 * b + 2)) ≤ m (5 + 6 * u + 1))) (m 2).toNat 0 (by omega)
        have hr' : s_uFor m 0 b (phB m b (m (548 + 10 * b + 6)) % 4) = -1 ∨ (0 ≤ s_uFor m 0 b (phB m b (m (548 + 10 * b + 6)) % 4) ∧ s_uFor m 0 b (phB m b (m (548 + 10 * b + 6)) % 4) < m 2) := by
          unfold s_uFor
          rcases hr with hr | ⟨r1, r2, -⟩
          · exact Or.inl hr
          · right; omega
        generalize s_uFor m 0 b (phB m b (m (548 + 10 * b + 6)) % 4) = u at *
        have hu0 : 0 ≤ u ∧ u < m 2 := by omega
        have et : ∀ k, (k < 4 ∨ 53 ≤ k) → (k < 668 ∨ 788 ≤ k) → k ≠ 548 + 10 * b + 8 → s_take m b u k = m k := fun k a c d => take_ne (by omega) a c d
        obtain ⟨pg3, ln3, ph3⟩ := page_fr (m' := s_take m b u) hp (et _ (by omega) (by omega) (by omega)) (et _ (by omega) (by omega) (by omega)) (fun k k0 k1 => et _ (by omega) (by omega) (by omega))
        refine w2 _ ⟨fun k a c d => et k (by omega) c (by omega), take_Iv0 h0 b0 b1 hu0.1 hu0.2, ?_, Or.inl (et _ (by omega) (by omega) (by omega))⟩ ?_ ?_ (et _ (by omega) (by omega) (by omega))
        · exact hb1.fr (h0.b b0 b1) ⟨hp, hl⟩ (et _ (by omega) (by omega) (by omega)) (et _ (by omega) (by omega) (by omega)) (fun q => by rw [← et _ (by omega) (by omega) (by omega)]; exact q) (et _ (by omega) (by omega) (by omega)) (by rw [et _ (by omega) (by omega) (by omega)]; omega) (fun k k0 k1 => et _ (by omega) (by omega) (by omega))
        · rw [take_8 (by omega) (by omega)]; omega
        · rw [et (548 + 10 * b + 6) (by omega) (by omega) (by omega), ph3 _ (by omega) (by omega)]
    · next h8 => exact w2 m ⟨fun _ _ _ _ => rfl, h0, hb1, Or.inl rfl⟩ h8 rfl rfl

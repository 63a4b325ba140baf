/-! ===== the journal; sums over units; a batch's tick, a tick, many ticks, of plant and journal ===== -/
def JJ (m : Int → Int) : Prop := ∀ k, 0 ≤ k → k < m 4 → (0 ≤ m (668 + 3 * k + 1) ∧ m (668 + 3 * k + 1) < m 3) ∧ (0 ≤ m (668 + 3 * k + 2) ∧ m (668 + 3 * k + 2) ≤ 6) ∧ m (668 + 3 * k + 0) ≤ m 1 ∧ (0 < k → m (668 + 3 * k + 0) ≤ m (668 + 3 * (k - 1) + 0) ∧ (m (668 + 3 * (k - 1) + 2) = 6 → m (668 + 3 * k + 2) = 1 ∧ m (668 + 3 * k + 1) = m (668 + 3 * (k - 1) + 1)))
theorem JJ.fr {m m' : Int → Int} (h : JJ m) (hn : m 4 ≤ 40) (e4 : m' 4 = m 4) (e : ∀ k, 668 ≤ k → k < 788 → m' k = m k) (h3 : m 3 ≤ m' 3) (h1 : m 1 ≤ m' 1) : JJ m' := by
  intro k k0 k1
  rw [e4] at k1
  have hk := h k k0 k1
  rw [e _ (by omega) (by omega), e (668 + 3 * k + 2) (by omega) (by omega), e (668 + 3 * k + 0) (by omega) (by omega)]
  refine ⟨by omega, hk.2.1, by omega, fun q => ?_⟩
  rw [e _ (by omega) (by omega), e (668 + 3 * (k - 1) + 2) (by omega) (by omega), e (668 + 3 * (k - 1) + 1) (by omega) (by omega)]
  exact hk.2.2.2 q
theorem note_c {m : Int → Int} {b w j : Int} (h0 : 671 ≤ j) (h1 : j < 788) : s_note m b w j = m (j - 3) := by
  unfold s_note
  rw [if_pos (by omega), if_neg (by omega), if_neg (by omega), if_neg (by omega)]
theorem note_h {m : Int → Int} {b w : Int} : s_note m b w 668 = m 1 ∧ s_note m b w 669 = b ∧ s_note m b w 670 = w := ⟨rfl, rfl, rfl⟩
theorem note_4 {m : Int → Int} {b w : Int} : s_note m b w 4 = if m 4 = 40 then 40 else m 4 + 1 := rfl
theorem JJ.note {m : Int → Int} {b w : Int} (h : JJ m) (hn : 0 ≤ m 4 ∧ m 4 ≤ 40) (hb : 0 ≤ b ∧ b < m 3) (hw : 0 ≤ w ∧ w ≤ 6) (h6 : w = 6 → 0 < m 4 → m 670 = 1 ∧ m 669 = b) : JJ (s_note m b w) := by
  obtain ⟨n0, n1, n2⟩ := note_h (m := m) (b := b) (w := w)
  have n4 := note_4 (m := m) (b := b) (w := w)
  have e1 : s_note m b w 1 = m 1 := s_note_ne (by omega) (by omega)
  have e3 : s_note m b w 3 = m 3 := s_note_ne (by omega) (by omega)
  intro k k0 k1
  have k2 : k ≤ m 4 ∧ k < 40 := by
    rw [n4] at k1
    split at k1 <;> omega
  rw [e1, e3]
  by_cases e0 : k = 0
  · subst e0
    rw [show (668 : Int) + 3 * 0 + 1 = 669 by omega, show (668 : Int) + 3 * 0 + 2 = 670 by omega, show (668 : Int) + 3 * 0 + 0 = 668 by omega, n0, n1, n2]
    exact ⟨hb, hw, Int.le_refl _, fun q => by omega⟩
  · have hk := h (k - 1) (by omega) (by omega)
    have c : ∀ j, 0 ≤ j → j < 3 → s_note m b w (668 + 3 * k + j) = m (668 + 3 * (k - 1) + j) := fun j j0 j1 => by
      rw [note_c (by omega) (by omega)]
      congr 1
      omega
    rw [c 1 (by omega) (by omega), c 2 (by omega) (by omega), c 0 (by omega) (by omega)]
    refine ⟨hk.1, hk.2.1, hk.2.2.1, fun _ => ?_⟩
    by_cases e2 : k = 1
    · subst e2
      rw [show (668 : Int) + 3 * (1 - 1) + 0 = 668 by omega, show (668 : Int) + 3 * (1 - 1) + 1 = 669 by omega, show (668 : Int) + 3 * (1 - 1) + 2 = 670 by omega, n0, n1, n2]
      refine ⟨by have := hk.2.2.1; rw [show (668 : Int) + 3 * (1 - 1) + 0 = 668 by omega] at this; exact this, fun q => ?_⟩
      exact h6 q (by omega)
    · have c' : ∀ j, 0 ≤ j → j < 3 → s_note m b w (668 + 3 * (k - 1) + j) = m (668 + 3 * (k - 1 - 1) + j) := fun j j0 j1 => by
        rw [note_c (by omega) (by omega)]
        congr 1
        omega
      rw [c' 0 (by omega) (by omega), c' 1 (by omega) (by omega), c' 2 (by omega) (by omega)]
      exact hk.2.2.2 (by omega)
theorem p_sumU {m m' : Int → Int} {w : Int} : ∀ n : Nat, (∀ u : Int, 0 ≤ u → u < n → m' (5 + 6 * u + w) = m (5 + 6 * u + w)) → sumU m' w n = sumU m w n
  | 0, _ => rfl
  | n + 1, h => by
    unfold sumU
    rw [p_sumU n (fun u u0 u1 => h u u0 (by omega)), h n (by omega) (by omega)]
theorem p_sumU1 {m m' : Int → Int} {w x : Int} (hx : 0 ≤ x) (e : m' (5 + 6 * x + w) = m (5 + 6 * x + w) + 1) : ∀ n : Nat, x < n → (∀ u : Int, 0 ≤ u → u < n → u ≠ x → m' (5 + 6 * u + w) = m (5 + 6 * u + w)) → sumU m' w n = sumU m w n + 1
  | 0, h, _ => by omega
  | n + 1, hn, h => by
    unfold sumU
    by_cases c : x = n
    · rw [← c, e, p_sumU n (fun u u0 u1 => h u u0 (by omega) (by omega))]
      omega
    · rw [p_sumU1 hx e n (by omega) (fun u u0 u1 ux => h u u0 (by omega) ux), h n (by omega) (by omega) (by omega)]
      omega
section WRK
variable {m : Int → Int} {W b p : Int}
theorem pe_S {k : Int} (k0 : 0 ≤ k) (k1 : k < 3) (b0 : 0 ≤ b) : mS (s_pe m b p) k = mS (s_relS m b 3) k := by
  unfold mS s_pe
  try dsimp only
  rw [s_note_ne (by omega) (by omega), up_ne (by omega), up_ne (by omega), up_ne (by omega)]
theorem pe_j (hb : 0 ≤ b ∧ b < 12) : s_pe m b p 670 = 1 ∧ s_pe m b p 669 = b ∧ s_pe m b p 1 = m 1 ∧ s_pe m b p 3 = m 3 := ⟨rfl, rfl, pe_ne hb (by omega) (by omega) (by omega) (by omega) (by omega) (by omega), pe_ne hb (by omega) (by omega) (by omega) (by omega) (by omega) (by omega)⟩
theorem JJ.pe (h : JJ m) (hn : 0 ≤ m 4 ∧ m 4 ≤ 40) (hb : 0 ≤ b ∧ b < m 3) (h12 : m 3 ≤ 12) : JJ (s_pe m b p) := by
  unfold s_pe
  try dsimp only
  have e : ∀ k, (k < 5 ∨ 668 ≤ k) → up (up (up (s_relS m b 3) (548 + 10 * b + 9) (fA (m (548 + 10 * b + 9)) (p / 2048 % 128))) (548 + 10 * b + 6) (up (s_relS m b 3) (548 + 10 * b + 9) (fA (m (548 + 10 * b + 9)) (p / 2048 % 128)) (548 + 10 * b + 6) + 1)) (548 + 10 * b + 7) 0 k = m k := fun k hk => by
    rw [up_ne (by omega), up_ne (by omega), up_ne (by omega), s_relS_ne (by omega)]
  refine JJ.note (h.fr hn.2 (e 4 (by omega)) (fun k k0 k1 => e k (by omega)) (by rw [e 3 (by omega)]; exact Int.le_refl _) (by rw [e 1 (by omega)]; exact Int.le_refl _)) (by rw [e 4 (by omega)]; exact hn) (by rw [e 3 (by omega)]; exact hb) (by omega) (by omega)
theorem JJ.endsBy {st w : Int} (h : JJ m) (hR : RG m) (hn : 0 ≤ m 4 ∧ m 4 ≤ 40) (hb : 0 ≤ b ∧ b < m 3) (hw : 0 ≤ w ∧ w ≤ 6) (h6 : w = 6 → 0 < m 4 → m 670 = 1 ∧ m 669 = b) : JJ (s_endsBy m b st w) := by
  have hR2 := hR.2.1
  have hR1 := hR.relS (b := b)
  have e3 : s_relS m b 3 3 = m 3 := s_relS_ne (by omega)
  have e : ∀ k, (k < 5 ∨ 668 ≤ k) → up (s_relU (s_relS m b 3) b) (548 + 10 * b + 5) st k = m k := fun k hk => by
    rw [up_ne (by omega), relU_ne hR1 hb.1 (by rw [e3]; exact hb.2) (by omega) (by omega), s_relS_ne (by omega)]
  unfold s_endsBy
  exact JJ.note (h.fr hn.2 (e 4 (by omega)) (fun k k0 k1 => e k (by omega)) (by rw [e 3 (by omega)]; exact Int.le_refl _) (by rw [e 1 (by omega)]; exact Int.le_refl _)) (by rw [e 4 (by omega)]; exact hn) (by rw [e 3 (by omega)]; exact hb) hw (by rw [e 4 (by omega), e 670 (by omega), e 669 (by omega)]; exact h6)
theorem JQ.ends (h : JQ m (-1)) (hJ : JJ m) (hI : Iv0 m W) (b0 : 0 ≤ b) (b1 : b < m 3) (h5 : m (548 + 10 * b + 5) = 1 ∨ m (548 + 10 * b + 5) = 3) (h6 : m (548 + 10 * b + 6) < lnB m b) (hp : phB m b (m (548 + 10 * b + 6)) = p) (h4 : m (548 + 10 * b + 4) ≠ -1 → m (548 + 10 * m (548 + 10 * b + 4) + 5) = 6) : JQ (s_ends m b p) (-1) ∧ JJ (s_ends m b p) := by
  have hR := RG.of hI
  have hn := hI.n
  have hb := hI.b b0 b1
  have hpg := hI.page b0 b1
  have hok := hpg.2.2 _ (by unfold okB0 at hb; omega) h6
  rw [hp] at hok
  unfold okP at hok
  unfold okB0 at hb
  have hbf : m (548 + 10 * b + 4) ≠ -1 → (0 ≤ m (548 + 10 * b + 4) ∧ m (548 + 10 * b + 4) < b) ∧ m (548 + 10 * m (548 + 10 * b + 4) + 5) = 6 := fun q => ⟨by omega, h4 q⟩
  have hM : m (548 + 10 * b + 9) ≤ szF (m (548 + 10 * b + 2)) := h.2.2.2.2.2.1 b b0 b1
  have h5' := pe_Iv0 (p := p) hI b0 b1 h6 (by omega)
  have hQ := JQ.pe (p := p) h hR b0 b1 (by omega) hbf (fA_le (k := m (548 + 10 * b + 6)) (by omega) hb.2.2.2.2.2.2.2.2.2 (by omega) hb.2.2.1 hM) (by omega)
  have hj := JJ.pe (p := p) hJ (by omega) ⟨b0, b1⟩ (by omega)
  have f := pe_B (m := m) (b := b) (p := p) (by omega)
  have f4 := f 4 (by omega)
  have f5 := f 5 (by omega)
  have f8 := f 8 (by omega)
  simp only [show (8 : Int) ≠ 6 by decide, show (8 : Int) ≠ 7 by decide, show (8 : Int) ≠ 9 by decide, show (5 : Int) ≠ 6 by decide, show (5 : Int) ≠ 7 by decide, show (5 : Int) ≠ 9 by decide, show (4 : Int) ≠ 6 by decide, show (4 : Int) ≠ 7 by decide, show (4 : Int) ≠ 9 by decide, if_false] at f4 f5 f8
  obtain ⟨j1, j2, j3, j4⟩ := pe_j (m := m) (b := b) (p := p) (by omega)
  have hR5 := RG.of h5'
  have hn5 := h5'.n
  have hB : ∀ st w, 4 ≤ st → st ≤ 6 → 0 ≤ w → w ≤ 6 → JQ (s_endsBy (s_pe m b p) b st w) (-1) ∧ JJ (s_endsBy (s_pe m b p) b st w) := fun st w s0 s1 w0 w1 => by
    refine ⟨hQ.endsBy hR5 b0 (by omega) (Or.inr rfl) (by omega) ⟨s0, s1⟩ (fun _ q => ?_), hj.endsBy hR5 (by omega) (by omega) ⟨w0, w1⟩ (fun _ _ => ⟨j1, j2⟩)⟩
    rw [f4] at q ⊢
    obtain ⟨g1, g2⟩ := hbf q
    refine ⟨g1, ?_⟩
    rw [pe_ne (by omega) (by omega) (by omega) (by omega) (by omega) (by omega) (by omega)]
    exact g2
  unfold s_ends
  try dsimp only
  split
  · exact hB 6 6 (by omega) (by omega) (by omega) (by omega)
  · split
    · exact hB 4 4 (by omega) (by omega) (by omega) (by omega)
    · split
      · next hk =>
        refine ⟨JA.kind hQ (fun q => ?_), hj⟩
        show s_pe m b p (5 + 6 * s_pe m b p (548 + 10 * b + 8) + 0) = phB (s_pe m b p) b (s_pe m b p (548 + 10 * b + 6)) % 4
        have q' : m (548 + 10 * b + 8) ≠ -1 := by rw [← f8]; exact q
        rw [hk, f8, pe_ne (by omega) (by omega) (by omega) (by omega) (by omega) (by omega) (by omega)]
        have := h.2.2.1 b b0 b1 (by omega) q'
        unfold mU mP mB at this
        rw [hp] at this
        exact this
      · have hS : ∀ k, 0 ≤ k → k < 3 → mS (s_pe m b p) k ≠ b := fun k k0 k1 => by rw [pe_S k0 k1 b0]; exact relS_no k0 k1 b0
        have e : ∀ k, (k < 5 ∨ 668 ≤ k) → s_relU (s_pe m b p) b k = s_pe m b p k := fun k hk => relU_ne hR5 b0 (by omega) (by omega) (by omega)
        exact ⟨hQ.relU hR5 b0 (by omega) (Or.inr rfl) hS, hj.fr (by omega) (e 4 (by omega)) (fun k k0 k1 => e k (by omega)) (by rw [e 3 (by omega)]; exact Int.le_refl _) (by rw [e 1 (by omega)]; exact Int.le_refl _)⟩
theorem ends_U5 (hb : 0 ≤ b ∧ b < 12) (hu : -1 ≤ m (548 + 10 * b + 8) ∧ m (548 + 10 * b + 8) < 8) {u : Int} (u0 : 0 ≤ u) (u1 : u < 8) : s_ends m b p (5 + 6 * u + 5) = m (5 + 6 * u + 5) := by
  have e : s_pe m b p (5 + 6 * u + 5) = m (5 + 6 * u + 5) := pe_ne hb (by omega) (by omega) (by omega) (by omega) (by omega) (by omega)
  have e8 := pe_B (m := m) (p := p) hb 8 (by omega)
  simp only [show (8 : Int) ≠ 6 by decide, show (8 : Int) ≠ 7 by decide, show (8 : Int) ≠ 9 by decide, if_false] at e8
  have hr : ∀ M : Int → Int, M (548 + 10 * b + 8) = m (548 + 10 * b + 8) → s_relU M b (5 + 6 * u + 5) = M (5 + 6 * u + 5) := fun M hM => by
    simp only [s_relU]
    split
    · rfl
    · rw [up_ne (by omega), up_ne (by omega), up_ne (by omega)]
  have hE : ∀ st w, s_endsBy (s_pe m b p) b st w (5 + 6 * u + 5) = m (5 + 6 * u + 5) := fun st w => by
    unfold s_endsBy
    rw [s_note_ne (by omega) (by omega), up_ne (by omega), hr _ (by rw [s_relS_ne (by omega)]; exact e8), s_relS_ne (by omega)]
    exact e
  unfold s_ends
  try dsimp only
  split
  · exact hE _ _
  · split
    · exact hE _ _
    · split
      · exact e
      · rw [hr _ e8]; exact e
/-- the tick that a batch gets -/
theorem JQ.w3 (h : JQ m (-1)) (hJ : JJ m) (hI : Iv0 m W) (h1 : okB1 m b) (b0 : 0 ≤ b) (b1 : b < m 3) (h5 : m (548 + 10 * b + 5) = 1 ∨ m (548 + 10 * b + 5) = 3) (h8 : m (548 + 10 * b + 8) ≠ -1) (h4 : m (548 + 10 * b + 4) ≠ -1 → m (548 + 10 * m (548 + 10 * b + 4) + 5) = 6) : (JQ (s_w3 m b (phB m b (m (548 + 10 * b + 6)))) (-1) ∧ JJ (s_w3 m b (phB m b (m (548 + 10 * b + 6))))) ∧ sumU (s_w3 m b (phB m b (m (548 + 10 * b + 6)))) 5 (m 2).toNat = sumU m 5 (m 2).toNat + 1 := by
  have hn := hI.n
  have hR := RG.of hI
  have hb := hI.b b0 b1
  obtain ⟨hp, hl, hph⟩ := hI.page b0 b1
  unfold okB0 at hb
  obtain ⟨h1d, h1s⟩ := h1
  obtain ⟨q6, q7⟩ := h1s (by omega)
  have hpk := hph _ hb.2.2.2.2.2.2.1.1 q6
  have hpc : 0 ≤ phB m b (m (548 + 10 * b + 6)) / 512 % 4 - 1 → JQ (up m (53 + (phB m b (m (548 + 10 * b + 6)) / 512 % 4 - 1)) b) (-1) := fun q => h.piece hR b0 b1 (by omega) h5 h8 rfl
  generalize hpe : phB m b (m (548 + 10 * b + 6)) = p at *
  unfold okP at hpk
  generalize hm1 : (if (p / 512 % 4 - 1) = -1 then m else up m (53 + (p / 512 % 4 - 1)) b) = m1
  have k1 : Iv0 m1 W := by
    rw [← hm1]
    split
    · exact hI
    · exact hI.upS (by omega) (by omega) (by omega)
  have r1 : JQ m1 (-1) := by
    rw [← hm1]
    split
    · exact h
    · exact hpc (by omega)
  have e1 : ∀ k, (k < 53 ∨ 56 ≤ k) → m1 k = m k := fun k hk => by
    rw [← hm1]
    split
    · rfl
    · exact up_ne (by omega)
  have k2 := k1.okx (w := 7) (v := m1 (548 + 10 * b + 7) + 1) b0 (by rw [e1 3 (by omega)]; exact b1) (by omega) (by omega) (by omega) (by omega) (fun _ => by rw [e1 _ (by omega)]; omega) (by omega) (by omega)
  have r2 := r1.done (v := m1 (548 + 10 * b + 7) + 1) (RG.of k1) b0 (by rw [e1 3 (by omega)]; exact b1) (by rw [e1 _ (by omega)]; omega) (fun _ => by
    rw [e1 (548 + 10 * b + 4) (by omega)]
    intro q
    rw [e1 _ (by omega)]
    exact h4 q)
  generalize hm2 : up m1 (548 + 10 * b + 7) (m1 (548 + 10 * b + 7) + 1) = m2 at k2 r2
  have e2 : ∀ k, (k < 53 ∨ 56 ≤ k) → k ≠ 548 + 10 * b + 7 → m2 k = m k := fun k hk hk7 => by rw [← hm2, up_ne hk7, e1 k hk]
  have e27 : m2 (548 + 10 * b + 7) = m (548 + 10 * b + 7) + 1 := by rw [← hm2, up_eq rfl, e1 _ (by omega)]
  have u8 : m2 (548 + 10 * b + 8) = m (548 + 10 * b + 8) := e2 _ (by omega) (by omega)
  have hu := k2.u (u := m2 (548 + 10 * b + 8)) (by omega) (by rw [e2 2 (by omega) (by omega)]; omega)
  unfold okU at hu
  have k3 := k2.upU (W' := W + 1) (x := m2 (548 + 10 * b + 8)) (w := 5) (v := m2 (5 + 6 * m2 (548 + 10 * b + 8) + 5) + 1) (by omega) (by rw [e2 2 (by omega) (by omega)]; omega) (by omega) (by omega) (by omega) (by omega) (fun _ => by omega) (by omega)
  have r3 : JQ (up m2 (5 + 6 * m2 (548 + 10 * b + 8) + 5) (m2 (5 + 6 * m2 (548 + 10 * b + 8) + 5) + 1)) (-1) := r2.fr (RG.of k2) (fun k a0 a1 a2 a3 a4 => up_ne (by omega))
  have s3 : sumU (up m2 (5 + 6 * m2 (548 + 10 * b + 8) + 5) (m2 (5 + 6 * m2 (548 + 10 * b + 8) + 5) + 1)) 5 (m 2).toNat = sumU m 5 (m 2).toNat + 1 := by
    refine p_sumU1 (x := m2 (548 + 10 * b + 8)) (by omega) (by rw [up_eq rfl, e2 _ (by omega) (by omega)]) _ (by omega) (fun u u0 u1 ux => ?_)
    rw [up_ne (by omega), e2 _ (by omega) (by omega)]
  generalize hm3 : up m2 (5 + 6 * m2 (548 + 10 * b + 8) + 5) (m2 (5 + 6 * m2 (548 + 10 * b + 8) + 5) + 1) = m3 at k3 r3 s3
  have e3 : ∀ k, (k < 5 ∨ 56 ≤ k) → k ≠ 548 + 10 * b + 7 → m3 k = m k := fun k hk hk7 => by rw [← hm3, up_ne (by omega), e2 k (by omega) hk7]
  have e37 : m3 (548 + 10 * b + 7) = m (548 + 10 * b + 7) + 1 := by rw [← hm3, up_ne (by omega), e27]
  obtain ⟨pg3, ln3, ph3⟩ := page_fr (m' := m3) hp (e3 _ (by omega) (by omega)) (e3 _ (by omega) (by omega)) (fun k k0 k1 => e3 _ (by omega) (by omega))
  have e36 : m3 (548 + 10 * b + 6) = m (548 + 10 * b + 6) := e3 _ (by omega) (by omega)
  have e38 : m3 (548 + 10 * b + 8) = m (548 + 10 * b + 8) := e3 _ (by omega) (by omega)
  have e35 : m3 (548 + 10 * b + 5) = m (548 + 10 * b + 5) := e3 _ (by omega) (by omega)
  have e34 : m3 (548 + 10 * b + 4) = m (548 + 10 * b + 4) := e3 _ (by omega) (by omega)
  have ep : phB m3 b (m3 (548 + 10 * b + 6)) = p := by rw [e36, ph3 _ (by omega) (by omega), hpe]
  have j3 : JJ m3 := hJ.fr (by omega) (e3 4 (by omega) (by omega)) (fun k k0 k1 => e3 k (by omega) (by omega)) (by rw [e3 3 (by omega) (by omega)]; exact Int.le_refl _) (by rw [e3 1 (by omega) (by omega)]; exact Int.le_refl _)
  have eS : s_w3 m b p = if p / 4 % 128 - m3 (548 + 10 * b + 7) = 0 then s_ends m3 b p else m3 := by
    unfold s_w3
    try dsimp only
    rw [hm1, hm2, hm3, ep]
  rw [eS]
  split
  · refine ⟨r3.ends j3 k3 b0 (by rw [e3 3 (by omega) (by omega)]; exact b1) (by omega) (by rw [e36, ln3]; exact q6) ep (fun q => ?_), ?_⟩
    · rw [e34] at q ⊢
      rw [e3 _ (by omega) (by omega)]
      exact h4 q
    · rw [← s3]
      exact p_sumU _ (fun u u0 u1 => ends_U5 (by omega) (by omega) u0 (by omega))
  · exact ⟨⟨r3, j3⟩, s3⟩
theorem JQ.work (h : JQ m (-1)) (hJ : JJ m) (hI : Iv m W) (b0 : 0 ≤ b) (b1 : b < m 3) (h5 : m (548 + 10 * b + 5) = 1 ∨ m (548 + 10 * b + 5) = 3) : (JQ (s_work m b) (-1) ∧ JJ (s_work m b)) ∧ sumU (s_work m b) 5 (m 2).toNat = sumU m 5 (m 2).toNat + (if s_reason m 0 b = 0 then 1 else 0) := by
  obtain ⟨h0, h1, h2⟩ := Iv_iff.mp hI
  have hn := h0.n
  have hR := RG.of h0
  have hb := h0.b b0 b1
  obtain ⟨hp, hl, hph⟩ := h0.page b0 b1
  have hb1 := h1 b b0 b1
  have hb1' := hb1
  unfold okB0 at hb
  obtain ⟨h1d, h1s⟩ := hb1'
  obtain ⟨q6, q7⟩ := h1s (by omega)
  have hF : m (548 + 10 * b + 4) ≠ -1 → (0 ≤ m (548 + 10 * b + 4) ∧ m (548 + 10 * b + 4) < b) ∧ (0 < m (548 + 10 * b + 6) ∨ 0 < m (548 + 10 * b + 7) ∨ m (548 + 10 * b + 5) = 6 → m (548 + 10 * m (548 + 10 * b + 4) + 5) = 6) := h.2.2.2.2.1 b b0 b1
  by_cases hw : (m (548 + 10 * b + 6) = 0 ∧ m (548 + 10 * b + 7) = 0 ∧ m (548 + 10 * b + 4) ≠ -1 ∧ m (548 + 10 * m (548 + 10 * b + 4) + 5) ≠ 6)
  · have e1 : s_work m b = m := by
      unfold s_work
      try dsimp only
      rw [if_pos hw]
    have e2 : s_reason m 0 b = 1 := by
      unfold s_reason
      rw [if_pos hw]
    rw [e1, e2]
    exact ⟨⟨h, hJ⟩, by simp⟩
  · have h4 : m (548 + 10 * b + 4) ≠ -1 → m (548 + 10 * m (548 + 10 * b + 4) + 5) = 6 := fun q => by
      have := (hF q).2
      omega
    by_cases h8 : m (548 + 10 * b + 8) = -1
    · by_cases hu : s_uFor m 0 b (phB m b (m (548 + 10 * b + 6)) % 4) = -1
      · have e1 : s_work m b = m := by
          unfold s_work
          try dsimp only
          rw [if_neg hw, if_pos h8, if_pos hu]
        have e2 : s_reason m 0 b = 2 := by
          unfold s_reason
          rw [if_neg hw, if_pos ⟨h8, hu⟩]
        rw [e1, e2]
        exact ⟨⟨h, hJ⟩, by simp⟩
      · have e1 : s_work m b = s_w2 (s_take m b (s_uFor m 0 b (phB m b (m (548 + 10 * b + 6)) % 4))) b (phB m b (m (548 + 10 * b + 6))) := by
          unfold s_work
          try dsimp only
          rw [if_neg hw, if_pos h8, if_neg hu]
        have e2 : s_reason m 0 b = if ((phB m b (m (548 + 10 * b + 6)) / 512 % 4 - 1) ≠ -1 ∧ m (53 + (phB m b (m (548 + 10 * b + 6)) / 512 % 4 - 1)) ≠ -1 ∧ m (53 + (phB m b (m (548 + 10 * b + 6)) / 512 % 4 - 1)) ≠ b) then 3 else 0 := by
          unfold s_reason
          rw [if_neg hw, if_neg (fun q => hu q.2)]
        rw [e1, e2]
        clear e1 e2
        have hr := lowU_rg (fun u => ((m (5 + 6 * u + 2) = -1 ∧ m (5 + 6 * u + 3) = 0 ∧ m (5 + 6 * u + 4) ≤ 0) ∧ m (5 + 6 * u + 0) = (phB m b (m (548 + 10 * b + 6)) % 4) ∧ (m (548 + 10 * b + 2)) ≤ m (5 + 6 * u + 1))) (m 2).toNat 0 (by omega)
        have hr' : s_uFor m 0 b (phB m b (m (548 + 10 * b + 6)) % 4) = -1 ∨ ((0 ≤ s_uFor m 0 b (phB m b (m (548 + 10 * b + 6)) % 4) ∧ s_uFor m 0 b (phB m b (m (548 + 10 * b + 6)) % 4) < m 2) ∧ (m (5 + 6 * s_uFor m 0 b (phB m b (m (548 + 10 * b + 6)) % 4) + 2) = -1 ∧ m (5 + 6 * s_uFor m 0 b (phB m b (m (548 + 10 * b + 6)) % 4) + 3) = 0 ∧ m (5 + 6 * s_uFor m 0 b (phB m b (m (548 + 10 * b + 6)) % 4) + 4) ≤ 0) ∧ m (5 + 6 * s_uFor m 0 b (phB m b (m (548 + 10 * b + 6)) % 4) + 0) = (phB m b (m (548 + 10 * b + 6)) % 4) ∧ (m (548 + 10 * b + 2)) ≤ m (5 + 6 * s_uFor m 0 b (phB m b (m (548 + 10 * b + 6)) % 4) + 1)) := by
          unfold s_uFor
          rcases hr with hr | ⟨r1, r2, r3⟩
          · exact Or.inl hr
          · right; exact ⟨by omega, r3⟩
        clear hr
        generalize s_uFor m 0 b (phB m b (m (548 + 10 * b + 6)) % 4) = u at *
        rcases hr' with hr' | ⟨hu0, hf, hk, hc⟩
        · exact absurd hr' hu
        have huu := h0.u hu0.1 hu0.2
        unfold okU at huu
        have hT := h.take hR b0 b1 hu0.1 hu0.2 (by omega) h8 (by omega) hk hc
        have kT := take_Iv0 (u := u) h0 b0 b1 hu0.1 hu0.2
        have et : ∀ k, (k < 4 ∨ 53 ≤ k) → (k < 668 ∨ 788 ≤ k) → k ≠ 548 + 10 * b + 8 → s_take m b u k = m k := fun k a c d => take_ne (by omega) a c d
        have eU5 : ∀ y : Int, 0 ≤ y → y < ((m 2).toNat : Int) → s_take m b u (5 + 6 * y + 5) = m (5 + 6 * y + 5) := fun y y0 y1 => by
          unfold s_take
          rw [s_note_ne (by omega) (by omega), up_ne (by omega), up_ne (by omega)]
        have jT : JJ (s_take m b u) := by
          unfold s_take
          have e : ∀ k, (k < 5 ∨ 668 ≤ k) → up (up m (548 + 10 * b + 8) u) (5 + 6 * u + 2) b k = m k := fun k hk => by rw [up_ne (by omega), up_ne (by omega)]
          exact JJ.note (hJ.fr (by omega) (e 4 (by omega)) (fun k k0 k1 => e k (by omega)) (by rw [e 3 (by omega)]; exact Int.le_refl _) (by rw [e 1 (by omega)]; exact Int.le_refl _)) (by rw [e 4 (by omega)]; omega) (by rw [e 3 (by omega)]; omega) (by omega) (by omega)
        have sT : sumU (s_take m b u) 5 (m 2).toNat = sumU m 5 (m 2).toNat := p_sumU _ eU5
        have e8T : s_take m b u (548 + 10 * b + 8) = u := take_8 (by omega) (by omega)
        obtain ⟨pg3, ln3, ph3⟩ := page_fr (m' := s_take m b u) hp (et _ (by omega) (by omega) (by omega)) (et _ (by omega) (by omega) (by omega)) (fun k k0 k1 => et _ (by omega) (by omega) (by omega))
        have e6T : s_take m b u (548 + 10 * b + 6) = m (548 + 10 * b + 6) := et _ (by omega) (by omega) (by omega)
        have epT : phB (s_take m b u) b (s_take m b u (548 + 10 * b + 6)) = phB m b (m (548 + 10 * b + 6)) := by rw [e6T, ph3 _ (by omega) (by omega)]
        have hok := hph _ hb.2.2.2.2.2.2.1.1 q6
        unfold okP at hok
        have hs := wShr_eq (m := m) (m' := s_take m b u) (b := b) epT (fun q => et _ (by omega) (by omega) (by omega))
        unfold s_w2
        by_cases c : ((phB m b (m (548 + 10 * b + 6)) / 512 % 4 - 1) ≠ -1 ∧ m (53 + (phB m b (m (548 + 10 * b + 6)) / 512 % 4 - 1)) ≠ -1 ∧ m (53 + (phB m b (m (548 + 10 * b + 6)) / 512 % 4 - 1)) ≠ b)
        · rw [if_pos (hs.mpr c), sT]
          simp only [if_pos c]
          exact ⟨⟨hT, jT⟩, by simp⟩
        · rw [if_neg (fun q => c (hs.mp q))]
          simp only [if_neg c]
          have hw3 := JQ.w3 hT jT kT (hb1.fr (h0.b b0 b1) ⟨hp, hl⟩ (et _ (by omega) (by omega) (by omega)) (et _ (by omega) (by omega) (by omega)) (fun q => by rw [← et _ (by omega) (by omega) (by omega)]; exact q) (et _ (by omega) (by omega) (by omega)) (by rw [et _ (by omega) (by omega) (by omega)]; omega) (fun k k0 k1 => et _ (by omega) (by omega) (by omega))) b0 (by rw [et 3 (by omega) (by omega) (by omega)]; exact b1) (by rw [et _ (by omega) (by omega) (by omega)]; exact h5) (by rw [e8T]; omega) (fun q => by
            rw [et (548 + 10 * b + 4) (by omega) (by omega) (by omega)] at q ⊢
            rw [et _ (by omega) (by omega) (by omega)]
            exact h4 q)
          rw [epT, et 2 (by omega) (by omega) (by omega), sT] at hw3
          exact ⟨hw3.1, by rw [hw3.2]; simp⟩
    · have e1 : s_work m b = s_w2 m b (phB m b (m (548 + 10 * b + 6))) := by
        unfold s_work
        try dsimp only
        rw [if_neg hw, if_neg h8]
      have e2 : s_reason m 0 b = if ((phB m b (m (548 + 10 * b + 6)) / 512 % 4 - 1) ≠ -1 ∧ m (53 + (phB m b (m (548 + 10 * b + 6)) / 512 % 4 - 1)) ≠ -1 ∧ m (53 + (phB m b (m (548 + 10 * b + 6)) / 512 % 4 - 1)) ≠ b) then 3 else 0 := by
        unfold s_reason
        rw [if_neg hw, if_neg (fun q => h8 q.1)]
      rw [e1, e2]
      clear e1 e2
      unfold s_w2
      by_cases c : ((phB m b (m (548 + 10 * b + 6)) / 512 % 4 - 1) ≠ -1 ∧ m (53 + (phB m b (m (548 + 10 * b + 6)) / 512 % 4 - 1)) ≠ -1 ∧ m (53 + (phB m b (m (548 + 10 * b + 6)) / 512 % 4 - 1)) ≠ b)
      · simp only [if_pos c]
        exact ⟨⟨h, hJ⟩, by simp⟩
      · simp only [if_neg c]
        have hw3 := JQ.w3 h hJ h0 hb1 b0 b1 h5 h8 h4
        exact ⟨hw3.1, by rw [hw3.2]; simp⟩
end WRK
theorem JQ.fold : ∀ (L : List Int) (m : Int → Int) (W : Int), Iv m W → JQ m (-1) → JJ m → L.Nodup → (∀ c ∈ L, (0 ≤ c ∧ c < m 3) ∧ s_actv m c) → (JQ (L.foldl s_work m) (-1) ∧ JJ (L.foldl s_work m)) ∧ sumU m 5 (m 2).toNat ≤ sumU (L.foldl s_work m) 5 (m 2).toNat ∧ sumU (L.foldl s_work m) 5 (m 2).toNat ≤ sumU m 5 (m 2).toNat + L.length ∧ (∀ c l, L = c :: l → s_reason m 0 c = 0 → sumU m 5 (m 2).toNat + 1 ≤ sumU (L.foldl s_work m) 5 (m 2).toNat)
  | [], m, W, h, hQ, hJ, _, _ => ⟨⟨hQ, hJ⟩, Int.le_refl _, by simp, fun c l q => by cases q⟩
  | c :: L, m, W, h, hQ, hJ, hnd, hL => by
    obtain ⟨n1, n2⟩ := List.nodup_cons.mp hnd
    obtain ⟨hc, ha⟩ := hL c List.mem_cons_self
    have hE := work_wE h hc.1 hc.2 ha
    have hI := wE_Iv hE h hc.1 hc.2 ha
    obtain ⟨e1, -, -, e5⟩ := hE
    have hn := (Iv_iff.mp h).1.n
    obtain ⟨⟨hQ1, hJ1⟩, hS1⟩ := hQ.work hJ h hc.1 hc.2 ha
    have e2 : s_work m c 2 = m 2 := e1 2 (by omega) (by omega) (by omega)
    obtain ⟨g1, g2, g3, g4⟩ := JQ.fold L (s_work m c) (W + 1) hI hQ1 hJ1 n2 (fun d hd => by
      obtain ⟨d1, d2⟩ := hL d (List.mem_cons_of_mem _ hd)
      have hne : d ≠ c := fun q => n1 (by rw [← q]; exact hd)
      refine ⟨by rw [e1 3 (by omega) (by omega) (by omega)]; exact d1, ?_⟩
      unfold s_actv
      rw [e1 _ (by omega) (by omega) (by omega)]
      exact d2)
    rw [e2, hS1] at g2 g3
    have hlen : ((c :: L).length : Int) = L.length + 1 := by rw [List.length_cons]; omega
    refine ⟨g1, ?_, ?_, fun c' l' q hr => ?_⟩
    · show _ ≤ sumU (L.foldl s_work (s_work m c)) 5 (m 2).toNat
      split at g2 <;> omega
    · show sumU (L.foldl s_work (s_work m c)) 5 (m 2).toNat ≤ _
      rw [hlen]
      split at g3 <;> omega
    · show _ ≤ sumU (L.foldl s_work (s_work m c)) 5 (m 2).toNat
      have hcc : c = c' := (List.cons.inj q).1
      rw [if_pos (by rw [hcc]; exact hr)] at g2
      exact g2

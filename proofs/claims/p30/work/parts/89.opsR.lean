/-! ===== abort, fail, repair, run ===== -/
section OPH
variable {G : xG} {e : Nat} {m : Int → Int} {ρ : Nat → Int → Int} {b : Int}
/-- a loop of ends by abort -/
theorem ab_P (b0 : Int) (n3 : Int) (hlt : b0 < n3) : ∀ (k : Nat) (i z n : Int) (m : Int → Int), 0 ≤ i → i + k = n3 → m 3 = n3 → n3 ≤ 12 → (0 ≤ m 4 ∧ m 4 ≤ 40) → RG m → JQ m (-1) → JJ m → (i ≤ b0 → m (548 + 10 * b0 + 5) < 4) →
    (JQ (s_ab b0 k i z n m).2 (-1) ∧ JJ (s_ab b0 k i z n m).2) ∧ n ≤ (s_ab b0 k i z n m).1 ∧ cntB (s_ab b0 k i z n m).2 5 n3.toNat + n = cntB m 5 n3.toNat + (s_ab b0 k i z n m).1 ∧ (∀ y w, 0 ≤ y → y < i → 0 ≤ w → w < 10 → (s_ab b0 k i z n m).2 (548 + 10 * y + w) = m (548 + 10 * y + w)) ∧ (0 < m 4 → m 670 = 5 → 0 < (s_ab b0 k i z n m).2 4 ∧ (s_ab b0 k i z n m).2 670 = 5) ∧ (∀ j, j = 1 ∨ j = 2 ∨ j = 3 ∨ j = 61 → (s_ab b0 k i z n m).2 j = m j)
  | 0, i, z, n, m, _, _, _, _, _, _, hQ, hJ, _ => ⟨⟨hQ, hJ⟩, Int.le_refl _, by show cntB m 5 n3.toNat + n = cntB m 5 n3.toNat + n; rfl, fun _ _ _ _ _ _ => rfl, fun a c => ⟨a, c⟩, fun _ _ => rfl⟩
  | k + 1, i, z, n, m, i0, i1, h3, h12, h4, hR, hQ, hJ, hb0 => by
    unfold s_ab
    split
    · next hc =>
      have hi : 0 ≤ i ∧ i < m 3 := by omega
      have hs4 : m (548 + 10 * i + 5) < 4 := by
        rcases hc with hc | hc
        · rw [hc]; exact hb0 (by omega)
        · exact hc.2
      have hQ1 := hQ.endsBy (st := 5) (w := 5) hR hi.1 hi.2 (Or.inl rfl) (by omega) (by omega) (by omega)
      have hJ1 := hJ.endsBy (b := i) (st := 5) (w := 5) hR h4 hi (by omega) (by omega)
      have ec : ∀ j, (j < 4 ∨ 56 ≤ j) → (j < 668 ∨ 788 ≤ j) → j ≠ 548 + 10 * i + 5 → j ≠ 548 + 10 * i + 8 → s_endsBy m i 5 5 j = m j := fun j a c d f => ends_c hR hi ⟨a, c⟩ d f
      have e8 := ends_8 (st := 5) (w := 5) hR hi
      have ej := ends_j (st := 5) (w := 5) hR hi h4.1
      have e4 : s_endsBy m i 5 5 4 ≤ 40 := by
        have e3' : s_relS m i 3 3 = m 3 := s_relS_ne (by omega)
        unfold s_endsBy
        rw [note_4, up_ne (by omega), relU_ne hR.relS hi.1 (by rw [e3']; exact hi.2) (by omega) (by omega), s_relS_ne (by omega)]
        split <;> omega
      have hR1 : RG (s_endsBy m i 5 5) := by
        refine ⟨by rw [ec 2 (by omega) (by omega) (by omega) (by omega)]; exact hR.1, by rw [ec 3 (by omega) (by omega) (by omega) (by omega)]; exact hR.2.1, fun y y0 y1 => ?_⟩
        rw [ec 3 (by omega) (by omega) (by omega) (by omega)] at y1
        have hy := hR.2.2 y y0 y1
        rw [pgB_eq (m := m) (ec _ (by omega) (by omega) (by omega) (by omega)) (ec _ (by omega) (by omega) (by omega) (by omega)), ec (548 + 10 * y + 6) (by omega) (by omega) (by omega) (by omega)]
        refine ⟨hy.1, hy.2.1, ?_⟩
        by_cases ey : y = i
        · rw [ey, e8]; omega
        · rw [ec _ (by omega) (by omega) (by omega) (by omega)]; exact hy.2.2
      obtain ⟨g1, g2, g3, g4, g5, g6⟩ := ab_P b0 n3 hlt k (i + 1) (z + ((2 ^ i.toNat : Nat) : Int)) (n + 1) (s_endsBy m i 5 5) (by omega) (by omega) (by rw [ec 3 (by omega) (by omega) (by omega) (by omega)]; exact h3) h12 ⟨by omega, e4⟩ hR1 hQ1 hJ1 (fun q => by rw [ec _ (by omega) (by omega) (by omega) (by omega)]; exact hb0 (by omega))
      have hcnt : cntB (s_endsBy m i 5 5) 5 n3.toNat = cntB m 5 n3.toNat + 1 := p_cntB1 hi.1 (by omega) (s_endsBy_st (by omega)) _ (by omega) (fun y y0 y1 yi => ec _ (by omega) (by omega) (by omega) (by omega))
      refine ⟨g1, by omega, by omega, fun y w y0 y1 w0 w1 => ?_, fun _ _ => g5 ej.2 ej.1, fun j hj => ?_⟩
      · rw [g4 y w y0 (by omega) w0 w1, ec _ (by omega) (by omega) (by omega) (by omega)]
      · rw [g6 j hj, ec j (by omega) (by omega) (by omega) (by omega)]
    · obtain ⟨g1, g2, g3, g4, g5, g6⟩ := ab_P b0 n3 hlt k (i + 1) z n m (by omega) (by omega) h3 h12 h4 hR hQ hJ (fun q => hb0 (by omega))
      exact ⟨g1, g2, g3, fun y w y0 y1 w0 w1 => g4 y w y0 (by omega) w0 w1, g5, g6⟩
/-- what an abort makes -/
def abM (m : Int → Int) (b : Int) : Int → Int := (s_ab b (m 3 - b).toNat b 0 0 m).2
theorem q_abortS (h : IL m ρ) (b0 : 0 ≤ b ∧ b < m 3) (h5 : 3 < bi m b 5) : QD G e m ρ yX6_abort cX6_abort 2 ({ frames := 4, cells := 0, slots := 0, locals := 97 } : Room) [vi b] (-2) m ρ := by
  have hb := h.b
  rw [bi_w (by omega)] at h5
  refine QD.of (fun l => c_X6_abort h (by omega)) ?_
  unfold o_abort
  rw [if_neg (by omega), if_pos (by omega)]
theorem q_abort (h : IL m ρ) (b0 : 0 ≤ b ∧ b < m 3) (h5 : bi m b 5 ≤ 3) : QD G e m ρ yX6_abort cX6_abort 2 ({ frames := 4, cells := 0, slots := 0, locals := 97 } : Room) [vi b] (s_ab b (m 3 - b).toNat b 0 0 m).1 (abM m b) (s_keep m ρ) := by
  have hb := h.b
  rw [bi_w (by omega)] at h5
  refine QD.of (fun l => c_X6_abort h (by omega)) ?_
  unfold o_abort abM
  rw [if_neg (by omega), if_neg (by omega)]
theorem OK_abort (h : OK m ρ) (hm : ∀ k, -2147483648 ≤ m k ∧ m k < 2147483648) (b0 : 0 ≤ b ∧ b < m 3) (h5 : bi m b 5 ≤ 3) : OK (abM m b) (s_keep m ρ) ∧ (abM m b 1 = m 1 ∧ abM m b 2 = m 2 ∧ abM m b 3 = m 3) ∧ 0 < (s_ab b (m 3 - b).toNat b 0 0 m).1 ∧ cn (abM m b) 9 = cn m 9 + (s_ab b (m 3 - b).toNat b 0 0 m).1 ∧ bi (abM m b) b 5 = 5 ∧ bi (abM m b) b 8 = -4 ∧ ev (abM m b) 0 2 = 5 := by
  have hb := h.I.b
  have hR := h.G
  rw [bi_w (by omega)] at h5
  have hI := IL_abort h.I (x := b)
  unfold o_abort at hI
  rw [if_neg (by omega), if_neg (by omega)] at hI
  obtain ⟨k, hk⟩ : ∃ k : Nat, (m 3 - b).toNat = k + 1 := ⟨(m 3 - b).toNat - 1, by omega⟩
  have hQ1 := h.Q.endsBy (st := 5) (w := 5) hR b0.1 b0.2 (Or.inl rfl) (by omega) (by omega) (by omega)
  have e1 : s_ab b (k + 1) b 0 0 m = s_ab b k (b + 1) (0 + ((2 ^ b.toNat : Nat) : Int)) (0 + 1) (s_endsBy m b 5 5) := by
    rw [s_ab, if_pos (Or.inl rfl)]
  obtain ⟨f1, f2, f3, f4, f5, f6⟩ := ab_P b (m 3) b0.2 (k + 1) b 0 0 m b0.1 (by omega) rfl (by omega) (by omega) hR h.Q h.J (fun _ => by omega)
  have ec : ∀ j, (j < 4 ∨ 56 ≤ j) → (j < 668 ∨ 788 ≤ j) → j ≠ 548 + 10 * b + 5 → j ≠ 548 + 10 * b + 8 → s_endsBy m b 5 5 j = m j := fun j a c d f => ends_c hR b0 ⟨a, c⟩ d f
  have e8 := ends_8 (st := 5) (w := 5) hR b0
  have ej := ends_j (st := 5) (w := 5) hR b0 (by omega)
  have e4 : s_endsBy m b 5 5 4 ≤ 40 := by
    have e3' : s_relS m b 3 3 = m 3 := s_relS_ne (by omega)
    unfold s_endsBy
    rw [note_4, up_ne (by omega), relU_ne hR.relS b0.1 (by rw [e3']; exact b0.2) (by omega) (by omega), s_relS_ne (by omega)]
    split <;> omega
  have hR1 : RG (s_endsBy m b 5 5) := by
    refine ⟨by rw [ec 2 (by omega) (by omega) (by omega) (by omega)]; exact hR.1, by rw [ec 3 (by omega) (by omega) (by omega) (by omega)]; exact hR.2.1, fun y y0 y1 => ?_⟩
    rw [ec 3 (by omega) (by omega) (by omega) (by omega)] at y1
    have hy := hR.2.2 y y0 y1
    rw [pgB_eq (m := m) (ec _ (by omega) (by omega) (by omega) (by omega)) (ec _ (by omega) (by omega) (by omega) (by omega)), ec (548 + 10 * y + 6) (by omega) (by omega) (by omega) (by omega)]
    refine ⟨hy.1, hy.2.1, ?_⟩
    by_cases ey : y = b
    · rw [ey, e8]; omega
    · rw [ec _ (by omega) (by omega) (by omega) (by omega)]; exact hy.2.2
  obtain ⟨-, g2, -, g4, g5, -⟩ := ab_P b (m 3) b0.2 k (b + 1) (0 + ((2 ^ b.toNat : Nat) : Int)) (0 + 1) (s_endsBy m b 5 5) (by omega) (by omega) (ec 3 (by omega) (by omega) (by omega) (by omega)) (by omega) ⟨by omega, e4⟩ hR1 hQ1 (h.J.endsBy (b := b) (st := 5) (w := 5) hR (by omega) b0 (by omega) (by omega)) (fun q => by omega)
  have g5 := g5 ej.2 ej.1
  rw [← e1] at g2 g4 g5
  unfold abM
  rw [hk] at hI ⊢
  refine ⟨h.keep hm hI f1.1 f1.2 (by rw [f6 61 (by omega)]; exact h.2.2.2.2), ⟨f6 1 (by omega), f6 2 (by omega), f6 3 (by omega)⟩, by omega, ?_, ?_, ?_, ?_⟩
  · rw [cn_s (by omega), cn_s (by omega), f6 3 (by omega), show (9 : Int) - 4 = 5 by omega]
    omega
  · rw [bi_w (by omega), g4 b 5 b0.1 (by omega) (by omega) (by omega)]
    exact s_endsBy_st (by omega)
  · rw [bi_8, g4 b 8 b0.1 (by omega) (by omega) (by omega), e8, if_pos rfl]
  · unfold ev
    rw [if_pos g5.1]
    exact g5.2
/-- who follows an aborted batch is at an end -/
theorem OK.follow (h : OK m ρ) {k : Int} (k0 : 0 ≤ k) (k1 : k < m 3) : bi m k 4 = -4 ∨ (0 ≤ bi m k 4 ∧ bi m k 4 < k ∧ (bi m (bi m k 4) 5 ≠ 5 ∨ 4 ≤ bi m k 5)) := by
  have hB := (Iv_iff.mp h.I.1).1.b k0 k1
  have h2 := (Iv_iff.mp h.I.1).2.2 k k0 k1
  unfold okB2 at h2
  unfold okB0 at hB
  rw [bi_4]
  by_cases c : m (548 + 10 * k + 4) = -1
  · left; rw [if_pos c]
  · right
    simp only [if_neg c]
    rw [bi_w (by omega), bi_w (by omega)]
    have := h2 c
    omega
-- a unit fails, is repaired
theorem q_failS {u : Int} (h : IL m ρ) (u0 : 0 ≤ u ∧ u < m 2) (h3 : ui m u 3 = 1) : QD G e m ρ yX6_fail cX6_fail 2 ({ frames := 4, cells := 0, slots := 0, locals := 97 } : Room) [vi u] (-2) m ρ := by
  have hb := h.b
  rw [ui_w (by omega)] at h3
  refine QD.of (fun l => c_X6_fail h (by omega)) ?_
  unfold o_fail
  rw [if_neg (by omega), if_pos h3]
def flM (m : Int → Int) (u : Int) : Int → Int := if m (5 + 6 * u + 2) = -1 ∨ ¬ (m (548 + 10 * m (5 + 6 * u + 2) + 5) = 1 ∨ m (548 + 10 * m (5 + 6 * u + 2) + 5) = 3) then up m (5 + 6 * u + 3) 1 else s_holds (up m (5 + 6 * u + 3) 1) (m (5 + 6 * u + 2))
theorem q_fail {u : Int} (h : IL m ρ) (u0 : 0 ≤ u ∧ u < m 2) (h3 : ui m u 3 ≠ 1) : QD G e m ρ yX6_fail cX6_fail 2 ({ frames := 4, cells := 0, slots := 0, locals := 97 } : Room) [vi u] (if ui m u 2 = -4 ∨ ¬ (bi m (ui m u 2) 5 = 1 ∨ bi m (ui m u 2) 5 = 3) then -4 else ui m u 2) (flM m u) (s_keep m ρ) := by
  have hb := h.b
  have hu := (Iv_iff.mp h.1).1.u u0.1 u0.2
  unfold okU at hu
  rw [ui_w (by omega)] at h3
  refine QD.of (fun l => c_X6_fail h (by omega)) ?_
  unfold o_fail flM
  rw [if_neg (by omega), if_neg h3, ui_2, bi_w (by omega)]
  try dsimp only
  by_cases c : m (5 + 6 * u + 2) = -1
  · rw [if_pos (Or.inl c), if_pos (Or.inl c), if_pos c, if_pos (Or.inl rfl)]
  · simp only [if_neg c]
    by_cases d : m (548 + 10 * m (5 + 6 * u + 2) + 5) = 1 ∨ m (548 + 10 * m (5 + 6 * u + 2) + 5) = 3
    · rw [if_neg (by omega), if_neg (by omega), if_neg (by omega)]
    · rw [if_pos (Or.inr d), if_pos (Or.inr d), if_pos (Or.inr d)]
theorem OK_fail {u : Int} (h : OK m ρ) (hm : ∀ k, -2147483648 ≤ m k ∧ m k < 2147483648) (u0 : 0 ≤ u ∧ u < m 2) (h3 : ui m u 3 ≠ 1) : OK (flM m u) (s_keep m ρ) ∧ (flM m u 1 = m 1 ∧ flM m u 2 = m 2 ∧ flM m u 3 = m 3) ∧ cn (flM m u) 1 = cn m 1 + 1 ∧ ui (flM m u) u 3 = 1 ∧ ui (flM m u) u 6 = 0 ∧ ui (flM m u) u 2 = ui m u 2 ∧ (ui m u 2 = -4 ∨ ¬ (bi m (ui m u 2) 5 = 1 ∨ bi m (ui m u 2) 5 = 3) ∨ (bi (flM m u) (ui m u 2) 5 = 2 ∧ bi (flM m u) (ui m u 2) 8 = u)) := by
  have hb := h.I.b
  have hR := h.G
  have hu := (Iv_iff.mp h.I.1).1.u u0.1 u0.2
  unfold okU at hu
  rw [ui_w (by omega)] at h3
  have hI := IL_fail h.I (x := u)
  unfold o_fail at hI
  rw [if_neg (by omega), if_neg h3] at hI
  dsimp only at hI
  have hU := h.Q.1 u u0.1 u0.2
  unfold mU mB at hU
  unfold flM
  by_cases c : m (5 + 6 * u + 2) = -1 ∨ ¬ (m (548 + 10 * m (5 + 6 * u + 2) + 5) = 1 ∨ m (548 + 10 * m (5 + 6 * u + 2) + 5) = 3)
  · rw [if_pos c] at hI
    simp only [if_pos c]
    have e : ∀ k, k ≠ 5 + 6 * u + 3 → up m (5 + 6 * u + 3) 1 k = m k := fun k q => up_ne q
    refine ⟨h.keep hm hI (h.Q.brk hR u0.1 u0.2 (Or.inr c)) (h.J.fr (by omega) (e _ (by omega)) (fun k k0 k1 => e _ (by omega)) (by rw [e _ (by omega)]; exact Int.le_refl _) (by rw [e _ (by omega)]; exact Int.le_refl _)) (by rw [e _ (by omega)]; exact h.2.2.2.2), ⟨e _ (by omega), e _ (by omega), e _ (by omega)⟩, ?_, ?_, ?_, ?_, ?_⟩
    · rw [cn_1, cn_1, e 2 (by omega)]
      exact p_sumU1 u0.1 (by rw [up_eq rfl]; omega) _ (by omega) (fun y y0 y1 yu => e _ (by omega))
    · rw [ui_w (by omega)]; exact up_eq rfl
    · rw [ui_6, up_eq (j := 5 + 6 * u + 3) rfl, if_neg (by omega)]
    · rw [ui_2, ui_2, e _ (by omega)]
    · rw [ui_2, bi_w (by omega)]
      by_cases d : m (5 + 6 * u + 2) = -1
      · left; rw [if_pos d]
      · right; left
        rw [if_neg d]
        omega
  · rw [if_neg c] at hI
    simp only [if_neg c]
    have hx : 0 ≤ m (5 + 6 * u + 2) ∧ m (5 + 6 * u + 2) < m 3 := by omega
    have hu8 := hU (by omega)
    have e1 : ∀ k, k ≠ 5 + 6 * u + 3 → up m (5 + 6 * u + 3) 1 k = m k := fun k q => up_ne q
    have e : ∀ k, (k < 53 ∨ 56 ≤ k) ∧ (k < 668 ∨ 788 ≤ k) ∧ k ≠ 4 → k ≠ 548 + 10 * m (5 + 6 * u + 2) + 5 → k ≠ 5 + 6 * u + 3 → s_holds (up m (5 + 6 * u + 3) 1) (m (5 + 6 * u + 2)) k = m k := fun k a d f => by rw [holds_c hx.1 a d, e1 k f]
    have eU : s_holds (up m (5 + 6 * u + 3) 1) (m (5 + 6 * u + 2)) (5 + 6 * u + 3) = 1 := by rw [holds_c hx.1 (by omega) (by omega), up_eq rfl]
    have hJ1 := (h.J.fr (m' := up m (5 + 6 * u + 3) 1) (by omega) (e1 _ (by omega)) (fun k k0 k1 => e1 _ (by omega)) (by rw [e1 _ (by omega)]; exact Int.le_refl _) (by rw [e1 _ (by omega)]; exact Int.le_refl _)).holds (b := m (5 + 6 * u + 2)) (by rw [e1 _ (by omega)]; omega) (by rw [e1 _ (by omega)]; exact hx) (by rw [e1 _ (by omega)]; omega)
    -- the plant: first held, then broken
    have hQh := h.Q.holds hR hx.1 hx.2 (by omega)
    have hRh : RG (s_holds m (m (5 + 6 * u + 2))) := hR.fr (fun k hk => holds_c hx.1 (by omega) (by omega)) (fun y w y0 y1 hw => by have := hR.2.1; exact holds_c hx.1 (by omega) (by omega))
    have hQb := hQh.brk (u := u) (v := 1) hRh u0.1 (by rw [holds_c hx.1 (by omega) (by omega)]; exact u0.2) (by
      right; right
      rw [holds_c (k := 5 + 6 * u + 2) hx.1 (by omega) (by omega), holds_5 hx.1 (by omega)]
      omega)
    have hRb : RG (up (s_holds m (m (5 + 6 * u + 2))) (5 + 6 * u + 3) 1) := hRh.up (by omega) (by omega) (by omega)
    have hQ' : JQ (s_holds (up m (5 + 6 * u + 3) 1) (m (5 + 6 * u + 2))) (-1) := hQb.fr hRb (fun k k0 k1 k2 k3 k4 => by
      unfold s_holds
      rw [s_note_ne (by omega) (by omega)]
      by_cases q : k = 5 + 6 * u + 3
      · rw [q, up_eq rfl, up_ne (by omega), s_relS_ne (by omega), up_eq rfl]
      · rw [up_ne q, s_note_ne (by omega) (by omega)]
        by_cases q5 : k = 548 + 10 * m (5 + 6 * u + 2) + 5
        · rw [up_eq q5, up_eq q5]
        · rw [up_ne q5, up_ne q5]
          unfold s_relS
          rw [up_ne q])
    refine ⟨h.keep hm hI hQ' hJ1.1 (by rw [e _ (by omega) (by omega) (by omega)]; exact h.2.2.2.2), ⟨e _ (by omega) (by omega) (by omega), e _ (by omega) (by omega) (by omega), e _ (by omega) (by omega) (by omega)⟩, ?_, ?_, ?_, ?_, ?_⟩
    · rw [cn_1, cn_1, e 2 (by omega) (by omega) (by omega)]
      exact p_sumU1 u0.1 (by rw [eU]; omega) _ (by omega) (fun y y0 y1 yu => e _ (by omega) (by omega) (by omega))
    · rw [ui_w (by omega)]; exact eU
    · rw [ui_6, eU, if_neg (by omega)]
    · rw [ui_2, ui_2, e _ (by omega) (by omega) (by omega)]
    · right; right
      rw [ui_2, if_neg (by omega), bi_w (by omega), bi_8, holds_5 hx.1 (by omega), e (548 + 10 * m (5 + 6 * u + 2) + 8) (by omega) (by omega) (by omega), hu8.2.1, if_neg (by omega)]
      exact ⟨rfl, rfl⟩
theorem q_repairS {u : Int} (h : IL m ρ) (u0 : 0 ≤ u ∧ u < m 2) (h3 : ui m u 3 ≠ 1) : QD G e m ρ yX6_repair cX6_repair 2 ({ frames := 4, cells := 0, slots := 0, locals := 97 } : Room) [vi u] (-2) m ρ := by
  have hb := h.b
  have hu := (Iv_iff.mp h.1).1.u u0.1 u0.2
  unfold okU at hu
  rw [ui_w (by omega)] at h3
  refine QD.of (fun l => c_X6_repair h (by omega)) ?_
  unfold o_repair
  rw [if_neg (by omega), if_pos (by omega)]
theorem q_repair {u : Int} (h : IL m ρ) (u0 : 0 ≤ u ∧ u < m 2) (h3 : ui m u 3 = 1) : QD G e m ρ yX6_repair cX6_repair 2 ({ frames := 4, cells := 0, slots := 0, locals := 97 } : Room) [vi u] (cn m 1 - 1) (up m (5 + 6 * u + 3) 0) (s_keep m ρ) := by
  have hb := h.b
  rw [ui_w (by omega)] at h3
  refine QD.of (fun l => c_X6_repair h (by omega)) ?_
  unfold o_repair
  rw [if_neg (by omega), if_neg (by omega), cn_1]
  refine Prod.ext ?_ rfl
  show sumU (up m (5 + 6 * u + 3) 0) 3 (up m (5 + 6 * u + 3) 0 2).toNat = _
  rw [up_ne (show (2 : Int) ≠ 5 + 6 * u + 3 by omega)]
  have := p_sumU1 (m := up m (5 + 6 * u + 3) 0) (m' := m) (w := 3) u0.1 (by rw [up_eq rfl]; omega) (m 2).toNat (by omega) (fun y y0 y1 yu => (up_ne (by omega)).symm)
  omega
theorem OK_repair {u : Int} (h : OK m ρ) (hm : ∀ k, -2147483648 ≤ m k ∧ m k < 2147483648) (u0 : 0 ≤ u ∧ u < m 2) (h3 : ui m u 3 = 1) : OK (up m (5 + 6 * u + 3) 0) (s_keep m ρ) ∧ (up m (5 + 6 * u + 3) 0 1 = m 1 ∧ up m (5 + 6 * u + 3) 0 2 = m 2 ∧ up m (5 + 6 * u + 3) 0 3 = m 3) ∧ ui (up m (5 + 6 * u + 3) 0) u 3 = 0 := by
  have hb := h.I.b
  rw [ui_w (by omega)] at h3
  have hI := IL_repair h.I (x := u)
  unfold o_repair at hI
  rw [if_neg (by omega), if_neg (by omega)] at hI
  have e : ∀ k, k ≠ 5 + 6 * u + 3 → up m (5 + 6 * u + 3) 0 k = m k := fun k q => up_ne q
  exact ⟨h.keep hm hI (h.Q.brk h.G u0.1 u0.2 (Or.inl rfl)) (h.J.fr (by omega) (e _ (by omega)) (fun k k0 k1 => e _ (by omega)) (by rw [e _ (by omega)]; exact Int.le_refl _) (by rw [e _ (by omega)]; exact Int.le_refl _)) (by rw [e _ (by omega)]; exact h.2.2.2.2), ⟨e _ (by omega), e _ (by omega), e _ (by omega)⟩, by rw [ui_w (by omega)]; exact up_eq rfl⟩
-- run
theorem q_run {t : Int} (h : IL m ρ) (h1 : 1 ≤ t ∧ t ≤ 500) (h2 : m 1 + t ≤ 50000) : QD G e m ρ yX6_run cX6_run 4 ({ frames := 6, cells := 0, slots := 0, locals := 140 } : Room) [vi t] (cn (s_ticks t.toNat m) 10 - cn m 10) (s_ticks t.toNat m) (s_keep m ρ) := by
  have hb := h.b
  refine QD.of (fun l => c_X6_run h (by omega)) ?_
  unfold o_run
  rw [if_neg (by omega), if_neg (by omega), cn_s (by omega), cn_s (by omega)]
  rfl
theorem OK_run {t : Int} (h : OK m ρ) (hm : ∀ k, -2147483648 ≤ m k ∧ m k < 2147483648) (h1 : 1 ≤ t ∧ t ≤ 500) (h2 : m 1 + t ≤ 50000) : OK (s_ticks t.toNat m) (s_keep m ρ) ∧ (s_ticks t.toNat m 1 = m 1 + t ∧ s_ticks t.toNat m 2 = m 2 ∧ s_ticks t.toNat m 3 = m 3) ∧ cn m 10 ≤ cn (s_ticks t.toNat m) 10 ∧ cn (s_ticks t.toNat m) 16 ≤ cn m 16 + t * m 3 ∧ (oi m 0 = -4 ∨ ((0 ≤ oi m 0 ∧ oi m 0 < m 3) ∧ (wi m (oi m 0) = 0 → cn m 16 < cn (s_ticks t.toNat m) 16))) ∧ (∀ b, 0 ≤ b → b < m 3 → t ≤ 2000 → ((ti m b ≠ -4 ∧ ti m b ≤ t) ↔ bi (s_ticks t.toNat m) b 5 = 6)) := by
  have hb := h.I.b
  have hI := IL_run h.I (x := t)
  unfold o_run at hI
  rw [if_neg (by omega), if_neg (by omega)] at hI
  have hv := h.I.1
  obtain ⟨t0, t1, t2, t3, t4, t5⟩ := ticks_E hv t.toNat (by omega)
  obtain ⟨⟨q1, q2⟩, q3, q4, q5⟩ := ticks_P hv h.Q h.J t.toNat (by omega)
  have ht : ((t.toNat : Nat) : Int) = t := by omega
  rw [ht] at t1 q4
  refine ⟨h.keep hm hI q1 q2 (by rw [t2 61 (by omega)]; exact h.2.2.2.2), ⟨t1, t2 2 (by omega), t2 3 (by omega)⟩, ?_, ?_, ?_, fun b b0 b1 b2 => ?_⟩
  · rw [cn_s (by omega), cn_s (by omega), t2 3 (by omega)]
    refine p_cntB _ (fun y y0 y1 q => ?_)
    have := t5 y y0 (by omega)
    omega
  · rw [cn_16, cn_16, t2 2 (by omega), Int.mul_comm t (m 3)]
    exact q4
  · rcases fo_0 (m := m) with c | ⟨c, l, c1, c2, c3, c4⟩
    · exact Or.inl c
    · right
      rw [c1]
      refine ⟨c3, fun q => ?_⟩
      unfold wi at q
      rw [if_pos c4] at q
      have := q5 c l (by omega) c2 q
      rw [cn_16, cn_16, t2 2 (by omega)]
      omega
  · unfold ti
    rw [bi_w (by omega)]
    have := to_iff hv b0 b1 (t := t.toNat) (by omega) (by omega)
    rw [ht] at this
    exact this
end OPH

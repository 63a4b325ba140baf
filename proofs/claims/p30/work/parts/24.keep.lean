/-! ===== abort, a new version, the history: the invariant of the two objects' common value ===== -/
theorem bit_set {z i : Int} (hz : 0 ≤ z ∧ z < ((2 ^ i.toNat : Nat) : Int)) {p : Int} (h0 : 0 ≤ p) (h : p < i) : (z + ((2 ^ i.toNat : Nat) : Int)) / ((2 ^ p.toNat : Nat) : Int) % 2 = z / ((2 ^ p.toNat : Nat) : Int) % 2 := by
  obtain ⟨d, hd⟩ : ∃ d, i.toNat = p.toNat + (d + 1) := ⟨i.toNat - p.toNat - 1, by omega⟩
  have hp : (0 : Int) < ((2 ^ p.toNat : Nat) : Int) := by exact_mod_cast Nat.two_pow_pos _
  have e : ((2 ^ i.toNat : Nat) : Int) = ((2 ^ p.toNat : Nat) : Int) * (2 * ((2 ^ d : Nat) : Int)) := by
    rw [hd, Nat.pow_add, Nat.pow_succ]
    push_cast
    rw [Int.mul_comm 2 ((2 : Int) ^ d)]
  rw [e, Int.add_mul_ediv_left _ _ (by omega), Int.add_mul_emod_self_left]
theorem bit_new {z i : Int} (hz : 0 ≤ z ∧ z < ((2 ^ i.toNat : Nat) : Int)) : (z + ((2 ^ i.toNat : Nat) : Int)) / ((2 ^ i.toNat : Nat) : Int) % 2 = 1 := by
  have hp : (0 : Int) < ((2 ^ i.toNat : Nat) : Int) := by exact_mod_cast Nat.two_pow_pos _
  have e : z + ((2 ^ i.toNat : Nat) : Int) = z + ((2 ^ i.toNat : Nat) : Int) * 1 := by omega
  rw [e, Int.add_mul_ediv_left _ _ (by omega), Int.ediv_eq_zero_of_lt hz.1 hz.2]
  rfl
theorem bit_old {z i : Int} (hz : 0 ≤ z ∧ z < ((2 ^ i.toNat : Nat) : Int)) : z / ((2 ^ i.toNat : Nat) : Int) % 2 = 0 := by
  rw [Int.ediv_eq_zero_of_lt hz.1 hz.2]
  rfl
theorem endsBy5_I1 {m : Int → Int} {W x : Int} (h0 : Iv0 m W) (h1 : I1 m) (x0 : 0 ≤ x) (x1 : x < m 3) (h5 : m (548 + 10 * x + 5) ≠ 6) : I1 (s_endsBy m x 5 5) := by
  have hn := h0.n
  have hb := h0.b x0 x1
  unfold okB0 at hb
  have e : ∀ k, (k < 4 ∨ 56 ≤ k) → (k < 668 ∨ 788 ≤ k) → k ≠ 548 + 10 * x + 5 → k ≠ 548 + 10 * x + 8 → s_endsBy m x 5 5 k = m k := fun k a b c d => s_endsBy_ne (by omega) (by omega) a b c d
  intro y y0 y1
  rw [e 3 (by omega) (by omega) (by omega) (by omega)] at y1
  exact (h1 y y0 y1).fr (h0.b y0 y1) ⟨(h0.page y0 y1).1, (h0.page y0 y1).2.1⟩ (e _ (by omega) (by omega) (by omega) (by omega)) (e _ (by omega) (by omega) (by omega) (by omega)) (fun q => by
    by_cases ey : y = x
    · rw [ey]; exact h5
    · rw [← e _ (by omega) (by omega) (by omega) (by omega)]; exact q) (e _ (by omega) (by omega) (by omega) (by omega)) (by rw [e _ (by omega) (by omega) (by omega) (by omega)]; omega) (fun k k0 k1 => e _ (by omega) (by omega) (by omega) (by omega))
/-- the same abort, by the states alone, from batch i on -/
def s_abC : Nat → Int → Int → (Int → Int) → Int × (Int → Int)
  | 0, _, n, m => (n, m)
  | k + 1, i, n, m => if m (548 + 10 * i + 4) ≠ -1 ∧ m (548 + 10 * m (548 + 10 * i + 4) + 5) = 5 ∧ m (548 + 10 * i + 5) < 4 then s_abC k (i + 1) (n + 1) (s_endsBy m i 5 5) else s_abC k (i + 1) n m
/-- what an abort has come to, ahead of batch i: m0 is the memory before it -/
def abJ (m0 : Int → Int) (W b i z : Int) (m : Int → Int) : Prop := Iv0 m W ∧ I1 m ∧ m 3 = m0 3 ∧ (∀ y, 0 ≤ y → y < i → okB2 m y) ∧ (∀ y w, i ≤ y → y < m0 3 → 0 ≤ w → w < 10 → m (548 + 10 * y + w) = m0 (548 + 10 * y + w)) ∧ (∀ k, 56 ≤ k → k < 548 → m k = m0 k) ∧ (m 0 = m0 0 ∧ m 1 = m0 1 ∧ m 2 = m0 2) ∧ (0 ≤ z ∧ z < ((2 ^ i.toNat : Nat) : Int)) ∧ (∀ p, 0 ≤ p → p < i → (z / ((2 ^ p.toNat : Nat) : Int) % 2 = 1 → m (548 + 10 * p + 5) = 5) ∧ (m (548 + 10 * p + 5) = 5 → z / ((2 ^ p.toNat : Nat) : Int) % 2 = 1 ∨ m0 (548 + 10 * p + 5) = 5)) ∧ (∀ y w, 0 ≤ y → y < m0 3 → 0 ≤ w → w < 5 → m (548 + 10 * y + w) = m0 (548 + 10 * y + w)) ∧ (∀ y, 0 ≤ y → y < m0 3 → m0 (548 + 10 * y + 5) = 5 → m (548 + 10 * y + 5) = 5)
theorem abJ_step {m0 m : Int → Int} {W b i z : Int} (h0 : Iv m0 W) (hb : 0 ≤ b) (hi : b < i) (hi2 : i < m0 3) (hJ : abJ m0 W b i z m) : ((m (548 + 10 * i + 4) ≠ -1 ∧ z / ((2 ^ (m (548 + 10 * i + 4)).toNat : Nat) : Int) % 2 = 1) ∧ m (548 + 10 * i + 5) < 4 ↔ m (548 + 10 * i + 4) ≠ -1 ∧ m (548 + 10 * m (548 + 10 * i + 4) + 5) = 5 ∧ m (548 + 10 * i + 5) < 4) ∧
    (m (548 + 10 * i + 4) ≠ -1 ∧ m (548 + 10 * m (548 + 10 * i + 4) + 5) = 5 ∧ m (548 + 10 * i + 5) < 4 → abJ m0 W b (i + 1) (z + ((2 ^ i.toNat : Nat) : Int)) (s_endsBy m i 5 5)) ∧ (¬ (m (548 + 10 * i + 4) ≠ -1 ∧ m (548 + 10 * m (548 + 10 * i + 4) + 5) = 5 ∧ m (548 + 10 * i + 5) < 4) → abJ m0 W b (i + 1) z m) := by
  obtain ⟨j0, j1, j3, j2, jn, jV, jc, jz, jb, j4, j5⟩ := hJ
  have hI := Iv_iff.mp h0
  have hn := hI.1.n
  have hnm := j0.n
  have hbi := j0.b (b := i) (by omega) (by omega)
  have hbi' := hbi
  unfold okB0 at hbi
  have h2i := hI.2.2 i (by omega) hi2
  unfold okB2 at h2i
  have e4 := jn i 4 (by omega) hi2 (by omega) (by omega)
  have e5 := jn i 5 (by omega) hi2 (by omega) (by omega)
  have hpp : ((2 ^ (i + 1).toNat : Nat) : Int) = 2 * ((2 ^ i.toNat : Nat) : Int) := by
    rw [show (i + 1).toNat = i.toNat + 1 by omega, Nat.pow_succ]
    omega
  refine ⟨?_, fun hc => ?_, fun hc => ?_⟩
  · constructor
    · rintro ⟨⟨q1, q2⟩, q3⟩
      exact ⟨q1, (jb _ (by omega) (by omega)).1 q2, q3⟩
    · rintro ⟨q1, q2, q3⟩
      refine ⟨⟨q1, ?_⟩, q3⟩
      rcases (jb _ (by omega) (by omega)).2 q2 with q | q
      · exact q
      · exfalso
        rw [e4] at q1 q
        have := h2i q1 q
        omega
  · have e : ∀ k, (k < 4 ∨ 56 ≤ k) → (k < 668 ∨ 788 ≤ k) → k ≠ 548 + 10 * i + 5 → k ≠ 548 + 10 * i + 8 → s_endsBy m i 5 5 k = m k := fun k a b c d => s_endsBy_ne (by omega) (by omega) a b c d
    have est : (s_endsBy m i 5 5) (548 + 10 * i + 5) = 5 := s_endsBy_st (by omega)
    refine ⟨endsBy_Iv0 j0 (by omega) (by omega) (by omega), endsBy5_I1 j0 j1 (by omega) (by omega) (by omega), by rw [e 3 (by omega) (by omega) (by omega) (by omega)]; exact j3, fun y y0 y1 => ?_, fun y w y0 y1 w0 w1 => by rw [e _ (by omega) (by omega) (by omega) (by omega)]; exact jn y w (by omega) y1 w0 w1, fun k k0 k1 => by rw [e _ (by omega) (by omega) (by omega) (by omega)]; exact jV k k0 k1, ⟨by rw [e _ (by omega) (by omega) (by omega) (by omega)]; exact jc.1, by rw [e _ (by omega) (by omega) (by omega) (by omega)]; exact jc.2.1, by rw [e _ (by omega) (by omega) (by omega) (by omega)]; exact jc.2.2⟩, by omega, fun p p0 p1 => ?_, fun y w y0 y1 w0 w1 => by rw [e _ (by omega) (by omega) (by omega) (by omega)]; exact j4 y w y0 y1 w0 w1, fun y y0 y1 q => ?_⟩
    · by_cases ey : y = i
      · subst ey
        intro _ _
        rw [est]; omega
      · have hy := j2 y y0 (by omega)
        have hby := j0.b (b := y) y0 (by omega)
        unfold okB0 at hby
        unfold okB2 at *
        rw [e _ (by omega) (by omega) (by omega) (by omega), e (548 + 10 * y + 5) (by omega) (by omega) (by omega) (by omega)]
        intro q1 q2
        rw [e _ (by omega) (by omega) (by omega) (by omega)] at q2
        exact hy q1 q2
    · by_cases ep : p = i
      · subst ep
        rw [est, bit_new jz]
        omega
      · rw [bit_set jz p0 (by omega), e _ (by omega) (by omega) (by omega) (by omega)]
        exact jb p p0 (by omega)
    · by_cases ey : y = i
      · subst ey; exact est
      · rw [e _ (by omega) (by omega) (by omega) (by omega)]
        exact j5 y y0 y1 q
  · refine ⟨j0, j1, j3, fun y y0 y1 => ?_, fun y w y0 y1 w0 w1 => jn y w (by omega) y1 w0 w1, jV, jc, by omega, fun p p0 p1 => ?_, j4, j5⟩
    · by_cases ey : y = i
      · subst ey
        unfold okB2
        intro q1 q2
        omega
      · exact j2 y y0 (by omega)
    · by_cases ep : p = i
      · subst ep
        rw [bit_old jz, e5]
        omega
      · exact jb p p0 (by omega)
theorem ab_all {m0 : Int → Int} {W b : Int} (h0 : Iv m0 W) (hb : 0 ≤ b) : ∀ (k : Nat) (i z n : Int) (m : Int → Int), b < i → i + k = m0 3 → abJ m0 W b i z m → s_ab b k i z n m = s_abC k i n m ∧ ∃ z', abJ m0 W b (m0 3) z' (s_abC k i n m).2
  | 0, i, z, n, m, hi, hk, hJ => by
    have : i = m0 3 := by omega
    subst this
    exact ⟨rfl, z, hJ⟩
  | k + 1, i, z, n, m, hi, hk, hJ => by
    obtain ⟨s1, s2, s3⟩ := abJ_step h0 hb hi (by omega) hJ
    unfold s_ab s_abC
    by_cases hc : m (548 + 10 * i + 4) ≠ -1 ∧ m (548 + 10 * m (548 + 10 * i + 4) + 5) = 5 ∧ m (548 + 10 * i + 5) < 4
    · rw [if_pos (Or.inr (s1.mpr hc)), if_pos hc]
      exact ab_all h0 hb k _ _ _ _ (by omega) (by omega) (s2 hc)
    · rw [if_neg (by
        intro q
        rcases q with q | q
        · omega
        · exact hc (s1.mp q)), if_neg hc]
      exact ab_all h0 hb k _ _ _ _ (by omega) (by omega) (s3 hc)
/-- an abort keeps the invariant; by the states alone it is the same -/
theorem abort_E {m : Int → Int} {W b : Int} (h : Iv m W) (b0 : 0 ≤ b) (b1 : b < m 3) (h5 : m (548 + 10 * b + 5) < 4) : s_ab b (m 3 - b).toNat b 0 0 m = s_abC (m 3 - (b + 1)).toNat (b + 1) 1 (s_endsBy m b 5 5) ∧ Iv (s_ab b (m 3 - b).toNat b 0 0 m).2 W ∧ ((s_ab b (m 3 - b).toNat b 0 0 m).2 1 = m 1 ∧ ∀ k, 56 ≤ k → k < 548 → (s_ab b (m 3 - b).toNat b 0 0 m).2 k = m k) ∧ ∃ z, abJ m W b (b + 1) z (s_endsBy m b 5 5) := by
  have hI := Iv_iff.mp h
  have hn := hI.1.n
  have hbb := hI.1.b b0 b1
  unfold okB0 at hbb
  have e : ∀ k, (k < 4 ∨ 56 ≤ k) → (k < 668 ∨ 788 ≤ k) → k ≠ 548 + 10 * b + 5 → k ≠ 548 + 10 * b + 8 → s_endsBy m b 5 5 k = m k := fun k q1 q2 c d => s_endsBy_ne (by omega) (by omega) q1 q2 c d
  have est : (s_endsBy m b 5 5) (548 + 10 * b + 5) = 5 := s_endsBy_st (by omega)
  have hpp : ((2 ^ (b + 1).toNat : Nat) : Int) = 2 * ((2 ^ b.toNat : Nat) : Int) := by
    rw [show (b + 1).toNat = b.toNat + 1 by omega, Nat.pow_succ]
    omega
  have hp : (0 : Int) < ((2 ^ b.toNat : Nat) : Int) := by exact_mod_cast Nat.two_pow_pos _
  have hJ : abJ m W b (b + 1) ((2 ^ b.toNat : Nat) : Int) (s_endsBy m b 5 5) := by
    refine ⟨endsBy_Iv0 hI.1 b0 b1 (by omega), endsBy5_I1 hI.1 hI.2.1 b0 b1 (by omega), e _ (by omega) (by omega) (by omega) (by omega), fun y y0 y1 => ?_, fun y w y0 y1 w0 w1 => e _ (by omega) (by omega) (by omega) (by omega), fun k k0 k1 => e _ (by omega) (by omega) (by omega) (by omega), ⟨e _ (by omega) (by omega) (by omega) (by omega), e _ (by omega) (by omega) (by omega) (by omega), e _ (by omega) (by omega) (by omega) (by omega)⟩, by omega, fun p p0 p1 => ?_, fun y w y0 y1 w0 w1 => e _ (by omega) (by omega) (by omega) (by omega), fun y y0 y1 q => ?_⟩
    · by_cases ey : y = b
      · subst ey
        intro _ _
        rw [est]; omega
      · have hy := hI.2.2 y y0 (by omega)
        have hby := hI.1.b (b := y) y0 (by omega)
        unfold okB0 at hby
        unfold okB2 at *
        rw [e _ (by omega) (by omega) (by omega) (by omega), e (548 + 10 * y + 5) (by omega) (by omega) (by omega) (by omega)]
        intro q1 q2
        rw [e _ (by omega) (by omega) (by omega) (by omega)] at q2
        exact hy q1 q2
    · have hz0 : (0 : Int) ≤ 0 ∧ (0 : Int) < ((2 ^ b.toNat : Nat) : Int) := ⟨Int.le_refl 0, hp⟩
      by_cases ep : p = b
      · subst ep
        have := bit_new hz0
        rw [Int.zero_add] at this
        rw [est, this]
        omega
      · have := bit_set hz0 p0 (show p < b by omega)
        rw [Int.zero_add, Int.zero_ediv] at this
        rw [this, e _ (by omega) (by omega) (by omega) (by omega)]
        exact ⟨fun q => by simp at q, fun q => Or.inr q⟩
    · by_cases ey : y = b
      · subst ey; exact est
      · rw [e _ (by omega) (by omega) (by omega) (by omega)]; exact q
  have e1 : (m 3 - b).toNat = (m 3 - (b + 1)).toNat + 1 := by omega
  have e2 : s_ab b (m 3 - b).toNat b 0 0 m = s_ab b (m 3 - (b + 1)).toNat (b + 1) ((2 ^ b.toNat : Nat) : Int) 1 (s_endsBy m b 5 5) := by
    rw [e1, s_ab, if_pos (Or.inl rfl), Int.zero_add, Int.zero_add]
  obtain ⟨g1, z', k0, k1, k3, k2, kn, kV, kc, -⟩ := ab_all h b0 (m 3 - (b + 1)).toNat (b + 1) _ 1 _ (by omega) (by omega) hJ
  rw [e2, g1]
  exact ⟨rfl, Iv_iff.mpr ⟨k0, k1, fun y y0 y1 => k2 y y0 (by omega)⟩, ⟨kc.2.1, kV⟩, _, hJ⟩
theorem Iv_recipe {m : Int → Int} {W r : Int} {l : List Int} (h : Iv m W) (hr : 0 ≤ r ∧ r ≤ 5) (hv : m (56 + r) < 9) (hl : 1 ≤ l.length ∧ l.length ≤ 8) (hp : ∀ p ∈ l, okP p) : Iv (s_recipe m r l) W ∧ (∀ k, (k < 56 ∨ 548 ≤ k) → s_recipe m r l k = m k) ∧ s_recipe m r l (56 + r) = m (56 + r) + 1 ∧ (∀ q, 0 ≤ q → q < 6 → q ≠ r → s_recipe m r l (56 + q) = m (56 + q)) ∧ s_recipe m r l (62 + (9 * r + m (56 + r))) = l.length ∧ (∀ k : Int, 0 ≤ k → k < l.length → s_recipe m r l (116 + 8 * (9 * r + m (56 + r)) + k) = l.getD k.toNat 0) ∧ ∀ g, 0 ≤ g → g < 54 → g ≠ 9 * r + m (56 + r) → s_recipe m r l (62 + g) = m (62 + g) ∧ ∀ k, 0 ≤ k → k < 8 → s_recipe m r l (116 + 8 * g + k) = m (116 + 8 * g + k) := by
  rw [Iv_iff] at h
  obtain ⟨h0, hI1, hI2⟩ := h
  have hn := h0.n
  have hvs := h0.vs (r := r) (by omega) (by omega)
  have hdef : ∀ k, s_recipe m r l k = if k = 56 + r then m (56 + r) + 1 else if 116 + 8 * (9 * r + m (56 + r)) ≤ k ∧ k < 116 + 8 * (9 * r + m (56 + r)) + l.length then l.getD (k - (116 + 8 * (9 * r + m (56 + r)))).toNat 0 else if k = 62 + (9 * r + m (56 + r)) then (l.length : Int) else m k := fun k => by
    unfold s_recipe up
    try dsimp only
    by_cases e1 : k = 56 + r
    · rw [if_pos e1, if_pos e1, if_neg (by omega), if_neg (by omega)]
    · rw [if_neg e1, if_neg e1]
  have eo : ∀ k, (k < 56 ∨ 548 ≤ k) → s_recipe m r l k = m k := fun k hk => by rw [hdef, if_neg (by omega), if_neg (by omega), if_neg (by omega)]
  have er : s_recipe m r l (56 + r) = m (56 + r) + 1 := by rw [hdef, if_pos rfl]
  have eq : ∀ q, 0 ≤ q → q < 6 → q ≠ r → s_recipe m r l (56 + q) = m (56 + q) := fun q q0 q1 q2 => by rw [hdef, if_neg (by omega), if_neg (by omega), if_neg (by omega)]
  have en : s_recipe m r l (62 + (9 * r + m (56 + r))) = l.length := by rw [hdef, if_neg (by omega), if_neg (by omega), if_pos rfl]
  have ek : ∀ k : Int, 0 ≤ k → k < l.length → s_recipe m r l (116 + 8 * (9 * r + m (56 + r)) + k) = l.getD k.toNat 0 := fun k k0 k1 => by
    rw [hdef, if_neg (by omega), if_pos (by omega)]
    congr 2
    omega
  have eg : ∀ g, 0 ≤ g → g < 54 → g ≠ 9 * r + m (56 + r) → s_recipe m r l (62 + g) = m (62 + g) ∧ ∀ k, 0 ≤ k → k < 8 → s_recipe m r l (116 + 8 * g + k) = m (116 + 8 * g + k) := fun g g0 g1 g2 => by
    refine ⟨by rw [hdef, if_neg (by omega), if_neg (by omega), if_neg (by omega)], fun k k0 k1 => ?_⟩
    rw [hdef, if_neg (by omega), if_neg (by omega), if_neg (by omega)]
  refine ⟨?_, eo, er, eq, en, ek, eg⟩
  rw [Iv_iff]
  have hpgb : ∀ b, 0 ≤ b → b < m 3 → pgB m b ≠ 9 * r + m (56 + r) ∧ pgB (s_recipe m r l) b = pgB m b ∧ lnB (s_recipe m r l) b = lnB m b ∧ ∀ k, 0 ≤ k → k < 8 → phB (s_recipe m r l) b k = phB m b k := fun b b0 b1 => by
    have hb := h0.b b0 b1
    have hpg := (h0.page b0 b1).1
    unfold okB0 at hb
    have ev : pgB m b = 9 * m (548 + 10 * b + 0) + m (548 + 10 * b + 1) - 1 := rfl
    have hvb := h0.vs (r := m (548 + 10 * b + 0)) (by omega) (by omega)
    have ep : pgB (s_recipe m r l) b = pgB m b := pgB_eq (eo _ (by omega)) (eo _ (by omega))
    have hne : pgB m b ≠ 9 * r + m (56 + r) := by
      by_cases e : m (548 + 10 * b + 0) = r
      · rw [e] at hb hvb
        omega
      · omega
    obtain ⟨g1, g2⟩ := eg (pgB m b) hpg.1 hpg.2 hne
    refine ⟨hne, ep, ?_, fun k k0 k1 => ?_⟩
    · unfold lnB; rw [ep]; exact g1
    · unfold phB; rw [ep]; exact g2 k k0 k1
  refine ⟨⟨?_, ?_, ?_, ?_, ?_, ?_, ?_, ?_, ?_, ?_⟩, fun b b0 b1 => ?_, ?_⟩
  · rw [eo 0 (by omega)]; exact hn.1
  · rw [eo 1 (by omega)]; exact hn.2.1
  · rw [eo 2 (by omega)]; exact hn.2.2.1
  · rw [eo 3 (by omega)]; exact hn.2.2.2.1
  · rw [eo 4 (by omega)]; exact hn.2.2.2.2
  · intro u u0 u1
    rw [eo 2 (by omega)] at u1
    exact (h0.u u0 u1).fr (fun w w0 w1 => eo _ (by omega)) (eo 3 (by omega))
  · intro k k0 k1
    rw [eo _ (by omega), eo 3 (by omega)]
    exact h0.sh k0 k1
  · intro q q0 q1
    by_cases e : q = r
    · rw [e, er]; omega
    · rw [eq q q0 q1 e]; exact h0.vs q0 q1
  · intro q v q0 q1 v0 v1
    have hvq := h0.vs q0 q1
    by_cases e : q = r ∧ v = m (56 + r) + 1
    · obtain ⟨e1, e2⟩ := e
      subst e1 e2
      unfold okV
      rw [show 9 * q + (m (56 + q) + 1) - 1 = 9 * q + m (56 + q) by omega, en]
      refine ⟨by omega, fun k k0 k1 => ?_⟩
      rw [ek k k0 k1]
      have hk : k.toNat < l.length := by omega
      rw [List.getD_eq_getElem?_getD, List.getElem?_eq_getElem hk]
      exact hp _ (List.getElem_mem hk)
    · have hv' : v ≤ m (56 + q) := by
        by_cases e1 : q = r
        · subst e1
          rw [er] at v1
          omega
        · rw [eq q q0 q1 e1] at v1; exact v1
      obtain ⟨q1', q2'⟩ := h0.pg q0 q1 v0 hv'
      obtain ⟨g1, g2⟩ := eg (9 * q + v - 1) (by omega) (by omega) (by
        by_cases e1 : q = r
        · subst e1
          omega
        · omega)
      unfold okV
      rw [g1]
      exact ⟨q1', fun k k0 k1 => by rw [g2 k k0 (by omega)]; exact q2' k k0 k1⟩
  · intro b b0 b1
    rw [eo 3 (by omega)] at b1
    obtain ⟨-, -, el, -⟩ := hpgb b b0 b1
    have hb := h0.b b0 b1
    unfold okB0 at *
    rw [eo (548 + 10 * b + 0) (by omega), eo (548 + 10 * b + 1) (by omega), eo (548 + 10 * b + 2) (by omega), eo (548 + 10 * b + 3) (by omega), eo (548 + 10 * b + 4) (by omega), eo (548 + 10 * b + 5) (by omega), eo (548 + 10 * b + 6) (by omega), eo (548 + 10 * b + 7) (by omega), eo (548 + 10 * b + 8) (by omega), eo (548 + 10 * b + 9) (by omega), eo 2 (by omega), el]
    refine ⟨hb.1, ⟨hb.2.1.1, ?_⟩, hb.2.2⟩
    by_cases e1 : m (548 + 10 * b + 0) = r
    · rw [e1, er]
      have := hb.2.1.2
      rw [e1] at this
      omega
    · rw [eq _ (by omega) (by omega) e1]; exact hb.2.1.2
  · rw [eo 3 (by omega)] at b1
    obtain ⟨-, -, el, ep⟩ := hpgb b b0 b1
    have hb := h0.b b0 b1
    have hpl := (h0.page b0 b1).2.1
    have h1 := hI1 b b0 b1
    unfold okB0 at hb
    unfold okB1 at *
    rw [eo (548 + 10 * b + 5) (by omega), eo (548 + 10 * b + 6) (by omega), eo (548 + 10 * b + 7) (by omega), el]
    refine ⟨h1.1, fun q => ?_⟩
    have := h1.2 q
    rw [ep _ (by omega) (by omega)]
    exact this
  · exact hI2.fr (x := -1) (fun b b0 b1 => by have := h0.b b0 b1; unfold okB0 at this; omega) (eo _ (by omega)) (fun b b0 b1 => eo _ (by omega)) (fun b b0 b1 _ => eo _ (by omega)) (by omega)

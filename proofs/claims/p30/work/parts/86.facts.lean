/-! ===== what the looks show ===== -/
section FCT
variable {m : Int → Int} {ρ : Nat → Int → Int}
theorem bi_w {b w : Int} (hw : w = 0 ∨ w = 1 ∨ w = 2 ∨ w = 3 ∨ w = 5) : bi m b w = m (548 + 10 * b + w) := by
  unfold bi s_bOf
  rw [if_neg (by omega), if_neg (by omega), if_neg (by omega), if_neg (by omega), if_neg (by omega), if_neg (by omega), if_neg (by omega)]
theorem bi_4 {b : Int} : bi m b 4 = if m (548 + 10 * b + 4) = -1 then -4 else m (548 + 10 * b + 4) := by simp [bi, s_bOf]
theorem bi_6 {b : Int} : bi m b 6 = if m (548 + 10 * b + 5) = 6 then -4 else m (548 + 10 * b + 6) := by simp [bi, s_bOf]
theorem bi_7 {b : Int} : bi m b 7 = if m (548 + 10 * b + 5) = 6 then -4 else phB m b (m (548 + 10 * b + 6)) / 4 % 128 - m (548 + 10 * b + 7) := by simp [bi, s_bOf]
theorem bi_8 {b : Int} : bi m b 8 = if m (548 + 10 * b + 8) = -1 then -4 else m (548 + 10 * b + 8) := by simp [bi, s_bOf]
theorem bi_9 {b : Int} : bi m b 9 = if 0 < m (548 + 10 * b + 7) then 1 else 0 := by simp [bi, s_bOf]
theorem bi_11 {b : Int} : bi m b 11 = (FP.f2i (fB (m (548 + 10 * b + 9)))).toInt := by simp [bi, s_bOf]
theorem ui_w {u w : Int} (hw : w = 0 ∨ w = 1 ∨ w = 3 ∨ w = 4 ∨ w = 5) : ui m u w = m (5 + 6 * u + w) := by
  unfold ui
  rw [if_neg (by omega), if_pos (by omega)]
theorem ui_2 {u : Int} : ui m u 2 = if m (5 + 6 * u + 2) = -1 then -4 else m (5 + 6 * u + 2) := by
  unfold ui
  by_cases h : m (5 + 6 * u + 2) = -1
  · rw [if_pos ⟨rfl, h⟩, if_pos h]
  · rw [if_neg (fun q => h q.2), if_pos (by omega), if_neg h]
theorem ui_6 {u : Int} : ui m u 6 = if m (5 + 6 * u + 2) = -1 ∧ m (5 + 6 * u + 3) = 0 ∧ m (5 + 6 * u + 4) = 0 then 1 else 0 := by
  unfold ui
  rw [if_neg (by omega), if_neg (by omega)]
theorem cn_0 : cn m 0 = m 2 := rfl
theorem cn_1 : cn m 1 = sumU m 3 (m 2).toNat := rfl
theorem cn_2 : cn m 2 = cntP (fun u => m (5 + 6 * u + 2) = -1 ∧ m (5 + 6 * u + 3) = 0 ∧ m (5 + 6 * u + 4) = 0) (m 2).toNat := rfl
theorem cn_3 : cn m 3 = m 3 := rfl
theorem cn_s {w : Int} (h : 4 ≤ w ∧ w ≤ 10) : cn m w = cntB m (w - 4) (m 3).toNat := by
  unfold cn o_count
  dsimp only
  rw [if_neg (by omega), if_neg (by omega), if_neg (by omega), if_neg (by omega), if_pos h]
theorem cn_11 : cn m 11 = m 1 := rfl
theorem cn_12 : cn m 12 = m 0 := rfl
theorem cn_13 : cn m 13 = m 4 := rfl
theorem cn_16 : cn m 16 = sumU m 5 (m 2).toNat := rfl
/-- a unit -/
theorem fu (hI : IL m ρ) (hQ : JQ m (-1)) {u : Int} (u0 : 0 ≤ u) (u1 : u < m 2) : (ui m u 2 = -4 ∨ ((0 ≤ ui m u 2 ∧ ui m u 2 < m 3) ∧ bi m (ui m u 2) 8 = u ∧ ui m u 4 = 0 ∧ bi m (ui m u 2) 2 ≤ ui m u 1 ∧ 1 ≤ bi m (ui m u 2) 5 ∧ bi m (ui m u 2) 5 ≤ 3)) ∧ (0 ≤ ui m u 4 ∧ ui m u 4 ≤ 30) ∧ (0 ≤ ui m u 3 ∧ ui m u 3 ≤ 1) ∧ (0 ≤ ui m u 6 ∧ ui m u 6 ≤ 1) ∧ (ui m u 6 = 1 ↔ (ui m u 2 = -4 ∧ ui m u 4 = 0 ∧ ui m u 3 = 0)) := by
  have hu := (Iv_iff.mp hI.1).1.u u0 u1
  have h1 : m (5 + 6 * u + 2) ≠ -1 → _ := hQ.1 u u0 u1
  unfold mU mB at h1
  unfold okU at hu
  rw [ui_2, ui_6, ui_w (w := 1) (by omega), ui_w (w := 3) (by omega), ui_w (w := 4) (by omega)]
  by_cases c : m (5 + 6 * u + 2) = -1
  · rw [if_pos c]
    refine ⟨Or.inl rfl, by omega, by omega, by split <;> omega, ?_⟩
    split <;> omega
  · simp only [if_neg c]
    obtain ⟨g1, g2, g3, g4, g5, g6⟩ := h1 c
    rw [bi_8, bi_w (w := 2) (by omega), bi_w (w := 5) (by omega)]
    rw [if_neg (show m (548 + 10 * m (5 + 6 * u + 2) + 8) ≠ -1 by omega)]
    refine ⟨Or.inr ⟨g1, g2, g3, g4, g5, g6⟩, by omega, by omega, by rw [if_neg (by omega)]; omega, ?_⟩
    rw [if_neg (by omega)]
    omega
/-- a batch -/
theorem fb (hI : IL m ρ) (hQ : JQ m (-1)) {b : Int} (b0 : 0 ≤ b) (b1 : b < m 3) : ((0 ≤ bi m b 0 ∧ bi m b 0 < 6) ∧ (1 ≤ bi m b 1 ∧ bi m b 1 ≤ vr m (bi m b 0)) ∧ (bi m b 4 = -4 ∨ (0 ≤ bi m b 4 ∧ bi m b 4 < b)) ∧ (0 ≤ bi m b 5 ∧ bi m b 5 ≤ 6)) ∧ ((bi m b 5 = 6 ↔ bi m b 6 = -4) ∧ (bi m b 5 = 6 ↔ bi m b 7 = -4) ∧ (3 < bi m b 5 → bi m b 8 = -4) ∧ (bi m b 5 = 0 → bi m b 8 = -4 ∧ bi m b 6 = 0)) ∧ (bi m b 8 = -4 ∨ (0 ≤ bi m b 8 ∧ bi m b 8 < m 2)) ∧ (wi m b = -4 ↔ ¬ (bi m b 5 = 1 ∨ bi m b 5 = 3)) ∧ (0 ≤ bi m b 9 ∧ bi m b 9 ≤ 1) ∧
    (bi m b 6 = -4 ∨ ((0 ≤ bi m b 6 ∧ bi m b 6 < 8) ∧ 1 ≤ bi m b 7 ∧ bi m b 7 ≤ pq m (bi m b 0) (bi m b 1) (bi m b 6) 1 ∧ (bi m b 9 = 1 ↔ bi m b 7 < pq m (bi m b 0) (bi m b 1) (bi m b 6) 1) ∧ (bi m b 8 = -4 ∨ (ui m (bi m b 8) 0 = pq m (bi m b 0) (bi m b 1) (bi m b 6) 0 ∧ (bi m b 5 = 1 ∨ bi m b 5 = 3 → ui m (bi m b 8) 3 = 0))))) ∧
    (bi m b 4 = -4 ∨ (bi m b 6 = 0 ∧ bi m b 9 = 0) ∨ bi m (bi m b 4) 5 = 6) ∧ (0 ≤ bi m b 11 ∧ bi m b 11 ≤ bi m b 2) ∧ (1 ≤ bi m b 2 ∧ bi m b 2 ≤ 10000) ∧ (0 ≤ bi m b 3 ∧ bi m b 3 ≤ 9) := by
  obtain ⟨h0, h1, h2⟩ := Iv_iff.mp hI.1
  have hn := h0.n
  have hb := h0.b b0 b1
  have hpg := h0.page b0 b1
  have hb1 := h1 b b0 b1
  unfold okB0 at hb
  unfold okB1 at hb1
  obtain ⟨hQU, hQB, hQK, hQR, hQF, hQM, hQS⟩ := hQ
  have gB : m (548 + 10 * b + 8) ≠ -1 → _ := hQB b b0 b1
  have gK : m (548 + 10 * b + 8) ≠ -1 → m (5 + 6 * m (548 + 10 * b + 8) + 0) = phB m b (m (548 + 10 * b + 6)) % 4 := hQK b b0 b1 (by omega)
  have gR : m (548 + 10 * b + 5) = 0 → m (548 + 10 * b + 6) = 0 ∧ m (548 + 10 * b + 7) = 0 := hQR b b0 b1
  have gF : m (548 + 10 * b + 4) ≠ -1 → (0 ≤ m (548 + 10 * b + 4) ∧ m (548 + 10 * b + 4) < b) ∧ (0 < m (548 + 10 * b + 6) ∨ 0 < m (548 + 10 * b + 7) ∨ m (548 + 10 * b + 5) = 6 → m (548 + 10 * m (548 + 10 * b + 4) + 5) = 6) := hQF b b0 b1
  have gM : m (548 + 10 * b + 9) ≤ szF (m (548 + 10 * b + 2)) := hQM b b0 b1
  unfold mU mB at gB
  have hst : m (548 + 10 * b + 8) ≠ -1 → 1 ≤ m (548 + 10 * b + 5) ∧ m (548 + 10 * b + 5) ≤ 3 := fun q => by
    obtain ⟨r1, r2, -⟩ := gB q
    have := hQU (m (548 + 10 * b + 8)) r1.1 r1.2 (by show m (5 + 6 * m (548 + 10 * b + 8) + 2) ≠ -1; omega)
    unfold mU mB at this
    rw [r2] at this
    omega
  have hf := hb.2.2.2.2.2.2.2.2.2
  unfold okF at hf
  have hA := f2i_le (z := m (548 + 10 * b + 9)) (n := m (548 + 10 * b + 2)) (by omega) hb.2.2.1 gM
  have ew : wi m b = -4 ↔ ¬ (m (548 + 10 * b + 5) = 1 ∨ m (548 + 10 * b + 5) = 3) := by
    unfold wi
    by_cases c : m (548 + 10 * b + 5) = 1 ∨ m (548 + 10 * b + 5) = 3
    · rw [if_pos c]
      have : s_reason (s_clean m (m 2)) 0 b ≠ -4 := by
        unfold s_reason
        repeat' split
        all_goals omega
      exact ⟨fun q => absurd q this, fun q => absurd c q⟩
    · rw [if_neg c]
      exact ⟨fun _ => c, fun _ => rfl⟩
  have ev : pgB m b = 9 * m (548 + 10 * b + 0) + m (548 + 10 * b + 1) - 1 := rfl
  have epq : ∀ w, m (548 + 10 * b + 6) < lnB m b → pq m (m (548 + 10 * b + 0)) (m (548 + 10 * b + 1)) (m (548 + 10 * b + 6)) w = prt (phB m b (m (548 + 10 * b + 6))) w := fun w hw => by
    unfold pq
    unfold lnB at hw
    rw [ev] at hw
    rw [show (62 : Int) + 9 * m (548 + 10 * b + 0) + m (548 + 10 * b + 1) - 1 = 62 + (9 * m (548 + 10 * b + 0) + m (548 + 10 * b + 1) - 1) by omega, if_pos hw]
    rfl
  rw [ew, bi_w (w := 0) (by omega), bi_w (w := 1) (by omega), bi_w (w := 2) (by omega), bi_w (w := 3) (by omega), bi_w (w := 5) (by omega), bi_4, bi_6, bi_7, bi_8, bi_9, bi_11]
  unfold vr
  have hpl : m (548 + 10 * b + 5) ≠ 6 → phB m b (m (548 + 10 * b + 6)) / 4 % 128 ≤ 99 := fun q => by
    have := hpg.2.2 _ hb.2.2.2.2.2.2.1.1 (hb1.2 q).1
    unfold okP at this
    omega
  refine ⟨⟨by omega, hb.2.1, by split <;> omega, by omega⟩, ⟨by split <;> omega, by split <;> omega, fun q => ?_, fun q => ?_⟩, by split <;> omega, Iff.rfl, by split <;> omega, ?_, ?_, hA, by omega, by omega⟩
  · by_cases c : m (548 + 10 * b + 8) = -1
    · rw [if_pos c]
    · have := hst c; omega
  · refine ⟨?_, ?_⟩
    · by_cases c : m (548 + 10 * b + 8) = -1
      · rw [if_pos c]
      · have := hst c; omega
    · rw [if_neg (by omega)]
      exact (gR q).1
  · by_cases c : m (548 + 10 * b + 5) = 6
    · left; rw [if_pos c]
    · right
      obtain ⟨c1, c2⟩ := hb1.2 c
      simp only [if_neg c]
      rw [epq 1 c1, epq 0 c1, show prt (phB m b (m (548 + 10 * b + 6))) 1 = phB m b (m (548 + 10 * b + 6)) / 4 % 128 from rfl, show prt (phB m b (m (548 + 10 * b + 6))) 0 = phB m b (m (548 + 10 * b + 6)) % 4 from rfl]
      refine ⟨by omega, by omega, by omega, by split <;> omega, ?_⟩
      by_cases d : m (548 + 10 * b + 8) = -1
      · left; rw [if_pos d]
      · right
        simp only [if_neg d]
        rw [ui_w (w := 0) (by omega), ui_w (w := 3) (by omega)]
        exact ⟨gK d, (gB d).2.2⟩
  · by_cases c : m (548 + 10 * b + 4) = -1
    · left; rw [if_pos c]
    · right
      simp only [if_neg c]
      rw [bi_w (w := 5) (by omega)]
      by_cases d : 0 < m (548 + 10 * b + 6) ∨ 0 < m (548 + 10 * b + 7) ∨ m (548 + 10 * b + 5) = 6
      · right; exact (gF c).2 d
      · left
        rw [if_neg (by omega), if_neg (by omega)]
        omega
/-- a piece of shared equipment -/
theorem fh (hI : IL m ρ) (hQ : JQ m (-1)) {k : Int} (k0 : 0 ≤ k) (k1 : k < 3) : hi m k = -4 ∨ ((0 ≤ hi m k ∧ hi m k < m 3) ∧ (bi m (hi m k) 5 = 1 ∨ bi m (hi m k) 5 = 3) ∧ pq m (bi m (hi m k) 0) (bi m (hi m k) 1) (bi m (hi m k) 6) 2 = k ∧ bi m (hi m k) 8 ≠ -4) := by
  have h : m (53 + k) ≠ -1 → (0 ≤ m (53 + k) ∧ m (53 + k) < m 3) ∧ (m (548 + 10 * m (53 + k) + 5) = 1 ∨ m (548 + 10 * m (53 + k) + 5) = 3) ∧ phB m (m (53 + k)) (m (548 + 10 * m (53 + k) + 6)) / 512 % 4 - 1 = k ∧ m (548 + 10 * m (53 + k) + 8) ≠ -1 := hQ.2.2.2.2.2.2 k k0 k1
  unfold hi
  by_cases c : m (53 + k) = -1
  · left; rw [if_pos c]
  · right
    simp only [if_neg c]
    obtain ⟨g1, g2, g3, g4⟩ := h c
    obtain ⟨h0, h1, h2⟩ := Iv_iff.mp hI.1
    have hb := h0.b g1.1 g1.2
    have hb1 := h1 _ g1.1 g1.2
    generalize m (53 + k) = b at *
    have ev : pgB m b = 9 * m (548 + 10 * b + 0) + m (548 + 10 * b + 1) - 1 := rfl
    have hw := (hb1.2 (by omega)).1
    unfold okB0 at hb
    unfold lnB at hw
    rw [ev] at hw
    rw [bi_w (w := 0) (by omega), bi_w (w := 1) (by omega), bi_w (w := 5) (by omega), bi_6, bi_8, if_neg (by omega), if_neg g4]
    refine ⟨g1, g2, ?_, by omega⟩
    unfold pq
    rw [show (62 : Int) + 9 * m (548 + 10 * b + 0) + m (548 + 10 * b + 1) - 1 = 62 + (9 * m (548 + 10 * b + 0) + m (548 + 10 * b + 1) - 1) by omega, if_pos hw]
    show (if phB m b (m (548 + 10 * b + 6)) / 512 % 4 - 1 = -1 then _ else phB m b (m (548 + 10 * b + 6)) / 512 % 4 - 1) = k
    rw [g3, if_neg (by omega)]
/-- an event -/
theorem fj (hI : IL m ρ) (hJ : JJ m) {k : Int} (k0 : 0 ≤ k) (k1 : k < m 4) : (0 ≤ ev m k 1 ∧ ev m k 1 < m 3) ∧ (0 ≤ ev m k 2 ∧ ev m k 2 ≤ 6) ∧ ev m k 0 ≤ m 1 ∧ (0 < k → ev m k 0 ≤ ev m (k - 1) 0 ∧ (ev m (k - 1) 2 = 6 → ev m k 2 = 1 ∧ ev m k 1 = ev m (k - 1) 1)) := by
  have h := hJ k k0 k1
  unfold ev
  rw [if_pos k1, if_pos k1, if_pos k1, if_pos (by omega), if_pos (by omega), if_pos (by omega)]
  exact h
theorem fj4 {w : Int} : ev m (m 4) w = -4 := by
  unfold ev
  rw [if_neg (by omega)]
/-- the order -/
theorem fo {k : Int} (k1 : 1 ≤ k) : oi m k = -4 ∨ ((0 ≤ oi m (k - 1) ∧ oi m (k - 1) < m 3) ∧ (0 ≤ oi m k ∧ oi m k < m 3) ∧ (bi m (oi m k) 3 < bi m (oi m (k - 1)) 3 ∨ (bi m (oi m k) 3 = bi m (oi m (k - 1)) 3 ∧ oi m (k - 1) < oi m k))) := by
  unfold oi
  by_cases h : k.toNat < (ordL m (m 3).toNat).length
  · right
    have h' : (k - 1).toNat < (ordL m (m 3).toNat).length := by omega
    rw [List.getElem?_eq_getElem h, List.getElem?_eq_getElem h']
    show (0 ≤ (ordL m (m 3).toNat)[(k - 1).toNat] ∧ (ordL m (m 3).toNat)[(k - 1).toNat] < m 3) ∧ (0 ≤ (ordL m (m 3).toNat)[k.toNat] ∧ (ordL m (m 3).toNat)[k.toNat] < m 3) ∧ (bi m (ordL m (m 3).toNat)[k.toNat] 3 < bi m (ordL m (m 3).toNat)[(k - 1).toNat] 3 ∨ (bi m (ordL m (m 3).toNat)[k.toNat] 3 = bi m (ordL m (m 3).toNat)[(k - 1).toNat] 3 ∧ (ordL m (m 3).toNat)[(k - 1).toNat] < (ordL m (m 3).toNat)[k.toNat]))
    have g1 := ordL_mem.mp (List.getElem_mem h)
    have g2 := ordL_mem.mp (List.getElem_mem h')
    have g3 := List.pairwise_iff_getElem.mp (ordL_lx (m := m) (n := (m 3).toNat)) _ _ h' h (by omega)
    rw [bi_w (w := 3) (by omega), bi_w (w := 3) (by omega)]
    exact ⟨by omega, by omega, g3⟩
  · left
    rw [List.getElem?_eq_none (by omega)]
    rfl
theorem fo_n {n : Int} (h : n = cntP (fun b => m (548 + 10 * b + 5) = 1 ∨ m (548 + 10 * b + 5) = 3) (m 3).toNat) : oi m n = -4 ∧ (1 ≤ n → 0 ≤ oi m (n - 1)) := by
  have e := ordL_cnt (m := m) (m 3).toNat
  unfold oi
  refine ⟨?_, fun q => ?_⟩
  · rw [List.getElem?_eq_none (by omega)]
    rfl
  · have h' : (n - 1).toNat < (ordL m (m 3).toNat).length := by omega
    rw [List.getElem?_eq_getElem h']
    have g2 := ordL_mem.mp (List.getElem_mem h')
    exact g2.1.1
/-- what comes first -/
theorem fo_0 : oi m 0 = -4 ∨ ∃ c l, oi m 0 = c ∧ ordL m (m 3).toNat = c :: l ∧ (0 ≤ c ∧ c < m 3) ∧ (m (548 + 10 * c + 5) = 1 ∨ m (548 + 10 * c + 5) = 3) := by
  unfold oi
  cases h : ordL m (m 3).toNat with
  | nil => left; rfl
  | cons c l =>
    right
    have g := ordL_mem.mp (show c ∈ ordL m (m 3).toNat by rw [h]; exact List.mem_cons_self)
    exact ⟨c, l, rfl, rfl, by omega, g.2⟩
end FCT

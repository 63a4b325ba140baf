/-! ===== commands of a batch ===== -/
section OPG
variable {G : xG} {e : Nat} {m : Int → Int} {ρ : Nat → Int → Int} {b : Int}
theorem OK.st (h : OK m ρ) (b0 : 0 ≤ b) (b1 : b < m 3) : (m (548 + 10 * b + 8) ≠ -1 → (0 ≤ m (548 + 10 * b + 8) ∧ m (548 + 10 * b + 8) < m 2) ∧ m (5 + 6 * m (548 + 10 * b + 8) + 2) = b ∧ (1 ≤ m (548 + 10 * b + 5) ∧ m (548 + 10 * b + 5) ≤ 3) ∧ (m (548 + 10 * b + 5) = 1 ∨ m (548 + 10 * b + 5) = 3 → m (5 + 6 * m (548 + 10 * b + 8) + 3) = 0)) ∧ (m (548 + 10 * b + 4) ≠ -1 → (0 ≤ m (548 + 10 * b + 4) ∧ m (548 + 10 * b + 4) < b) ∧ (0 < m (548 + 10 * b + 6) ∨ 0 < m (548 + 10 * b + 7) ∨ m (548 + 10 * b + 5) = 6 → m (548 + 10 * m (548 + 10 * b + 4) + 5) = 6)) ∧ (∀ k, 0 ≤ k → k < 3 → mS m k = b → m (548 + 10 * b + 5) = 1 ∨ m (548 + 10 * b + 5) = 3) := by
  obtain ⟨hQU, hQB, hQK, hQR, hQF, hQM, hQS⟩ := h.Q
  refine ⟨fun q => ?_, hQF b b0 b1, fun k k0 k1 q => ?_⟩
  · have gB := hQB b b0 b1 q
    unfold mU mB at gB
    have := hQU (m (548 + 10 * b + 8)) gB.1.1 gB.1.2 (by show m (5 + 6 * m (548 + 10 * b + 8) + 2) ≠ -1; omega)
    unfold mU mB at this
    rw [gB.2.1] at this
    exact ⟨gB.1, gB.2.1, ⟨this.2.2.2.2.1, this.2.2.2.2.2⟩, gB.2.2⟩
  · have := hQS k k0 k1 (by rw [q]; omega)
    rw [q] at this
    exact this.2.1
/-- one state for another: how many there are -/
theorem cnt_to {m' : Int → Int} {st : Int} (b0 : 0 ≤ b) (b1 : b < m 3) (e3 : m' 3 = m 3) (h0 : m (548 + 10 * b + 5) ≠ st) (h1 : m' (548 + 10 * b + 5) = st) (e : ∀ y, 0 ≤ y → y < m 3 → y ≠ b → m' (548 + 10 * y + 5) = m (548 + 10 * y + 5)) : cntB m' st (m' 3).toNat = cntB m st (m 3).toNat + 1 := by
  rw [e3]
  exact p_cntB1 b0 h0 h1 _ (by omega) (fun y y0 y1 yb => e y y0 (by omega) yb)
-- start
theorem q_startS (h : IL m ρ) (b0 : 0 ≤ b ∧ b < m 3) (h5 : bi m b 5 ≠ 0) : QD G e m ρ yX6_start cX6_start 2 ({ frames := 4, cells := 0, slots := 0, locals := 97 } : Room) [vi b] (-2) m ρ := by
  have hb := h.b
  rw [bi_w (by omega)] at h5
  refine QD.of (fun l => c_X6_start h (by omega)) ?_
  unfold o_start
  rw [if_neg (by omega), if_pos h5]
theorem q_start (h : IL m ρ) (b0 : 0 ≤ b ∧ b < m 3) (h5 : bi m b 5 = 0) : QD G e m ρ yX6_start cX6_start 2 ({ frames := 4, cells := 0, slots := 0, locals := 97 } : Room) [vi b] (cn m 5 + 1) (up m (548 + 10 * b + 5) 1) (s_keep m ρ) := by
  have hb := h.b
  rw [bi_w (by omega)] at h5
  refine QD.of (fun l => c_X6_start h (by omega)) ?_
  unfold o_start
  rw [if_neg (by omega), if_neg (by omega), cn_s (by omega), show (5 : Int) - 4 = 1 by omega]
  refine Prod.ext ?_ rfl
  exact cnt_to b0.1 b0.2 (up_ne (by omega)) (by omega) (up_eq rfl) (fun y y0 y1 yb => up_ne (by omega))
theorem OK_start (h : OK m ρ) (hm : ∀ k, -2147483648 ≤ m k ∧ m k < 2147483648) (b0 : 0 ≤ b ∧ b < m 3) (h5 : bi m b 5 = 0) : OK (up m (548 + 10 * b + 5) 1) (s_keep m ρ) ∧ (up m (548 + 10 * b + 5) 1 1 = m 1 ∧ up m (548 + 10 * b + 5) 1 2 = m 2 ∧ up m (548 + 10 * b + 5) 1 3 = m 3) ∧ bi (up m (548 + 10 * b + 5) 1) b 5 = 1 := by
  have hb := h.I.b
  have hs := h.st b0.1 b0.2
  rw [bi_w (by omega)] at h5
  have hI := IL_start h.I (x := b)
  unfold o_start at hI
  rw [if_neg (by omega), if_neg (by omega)] at hI
  refine ⟨h.keep hm hI (h.Q.state h.G b0.1 b0.2 (by omega) (by omega) (fun _ q => by have := hs.1 q; omega) (by omega) (fun _ => Or.inl rfl) (by omega)) (h.J.fr (by omega) (up_ne (by omega)) (fun k k0 k1 => up_ne (by omega)) (by rw [up_ne (by omega)]; exact Int.le_refl _) (by rw [up_ne (by omega)]; exact Int.le_refl _)) (by rw [up_ne (by omega)]; exact h.2.2.2.2), ⟨up_ne (by omega), up_ne (by omega), up_ne (by omega)⟩, by rw [bi_w (by omega)]; exact up_eq rfl⟩
-- hold
theorem holds_c {k : Int} (b0 : 0 ≤ b) (hk : (k < 53 ∨ 56 ≤ k) ∧ (k < 668 ∨ 788 ≤ k) ∧ k ≠ 4) (h5 : k ≠ 548 + 10 * b + 5) : s_holds m b k = m k := s_holds_ne b0 hk.1 hk.2.1 hk.2.2 h5
theorem holds_5 (b0 : 0 ≤ b) (b1 : b < 12) : s_holds m b (548 + 10 * b + 5) = 2 := by
  unfold s_holds
  rw [s_note_ne (by omega) (by omega), up_eq rfl]
theorem holds_j : s_holds m b 669 = b ∧ s_holds m b 670 = 2 := ⟨rfl, rfl⟩
theorem note_4p {b w : Int} (h : 0 ≤ m 4) : 0 < s_note m b w 4 := by
  rw [note_4]
  split <;> omega
theorem JJ.holds (h : JJ m) (hn : 0 ≤ m 4 ∧ m 4 ≤ 40) (hb : 0 ≤ b ∧ b < m 3) (h12 : m 3 ≤ 12) : JJ (s_holds m b) ∧ 0 < s_holds m b 4 := by
  have e : ∀ k, (k < 5 ∨ 668 ≤ k) → up (s_relS m b 3) (548 + 10 * b + 5) 2 k = m k := fun k hk => by rw [up_ne (by omega), s_relS_ne (by omega)]
  unfold s_holds
  exact ⟨JJ.note (h.fr hn.2 (e 4 (by omega)) (fun k k0 k1 => e k (by omega)) (by rw [e 3 (by omega)]; exact Int.le_refl _) (by rw [e 1 (by omega)]; exact Int.le_refl _)) (by rw [e 4 (by omega)]; exact hn) (by rw [e 3 (by omega)]; exact hb) (by omega) (by omega), note_4p (by rw [e 4 (by omega)]; exact hn.1)⟩
theorem q_holdS (h : IL m ρ) (b0 : 0 ≤ b ∧ b < m 3) (h5 : ¬ (bi m b 5 = 1 ∨ bi m b 5 = 3)) : QD G e m ρ yX6_hold cX6_hold 2 ({ frames := 4, cells := 0, slots := 0, locals := 97 } : Room) [vi b] (-2) m ρ := by
  have hb := h.b
  rw [bi_w (by omega)] at h5
  refine QD.of (fun l => c_X6_hold h (by omega)) ?_
  unfold o_hold
  rw [if_neg (by omega), if_pos h5]
theorem q_hold (h : IL m ρ) (b0 : 0 ≤ b ∧ b < m 3) (h5 : bi m b 5 = 1 ∨ bi m b 5 = 3) : QD G e m ρ yX6_hold cX6_hold 2 ({ frames := 4, cells := 0, slots := 0, locals := 97 } : Room) [vi b] (cn m 6 + 1) (s_holds m b) (s_keep m ρ) := by
  have hb := h.b
  rw [bi_w (by omega)] at h5
  refine QD.of (fun l => c_X6_hold h (by omega)) ?_
  unfold o_hold
  rw [if_neg (by omega), if_neg (fun q => q h5), cn_s (by omega), show (6 : Int) - 4 = 2 by omega]
  refine Prod.ext ?_ rfl
  exact cnt_to b0.1 b0.2 (holds_c b0.1 (by omega) (by omega)) (by omega) (holds_5 b0.1 (by omega)) (fun y y0 y1 yb => holds_c b0.1 (by omega) (by omega))
theorem OK_hold (h : OK m ρ) (hm : ∀ k, -2147483648 ≤ m k ∧ m k < 2147483648) (b0 : 0 ≤ b ∧ b < m 3) (h5 : bi m b 5 = 1 ∨ bi m b 5 = 3) : OK (s_holds m b) (s_keep m ρ) ∧ (s_holds m b 1 = m 1 ∧ s_holds m b 2 = m 2 ∧ s_holds m b 3 = m 3) ∧ bi (s_holds m b) b 5 = 2 ∧ bi (s_holds m b) b 8 = bi m b 8 ∧ ev (s_holds m b) 0 2 = 2 ∧ ev (s_holds m b) 0 1 = b := by
  have hb := h.I.b
  rw [bi_w (by omega)] at h5
  have hI := IL_hold h.I (x := b)
  unfold o_hold at hI
  rw [if_neg (by omega), if_neg (fun q => q h5)] at hI
  obtain ⟨j1, j2⟩ := h.J.holds (b := b) (by omega) b0 (by omega)
  obtain ⟨n1, n2⟩ := holds_j (m := m) (b := b)
  refine ⟨h.keep hm hI (h.Q.holds h.G b0.1 b0.2 (by omega)) j1 (by rw [holds_c b0.1 (by omega) (by omega)]; exact h.2.2.2.2), ⟨holds_c b0.1 (by omega) (by omega), holds_c b0.1 (by omega) (by omega), holds_c b0.1 (by omega) (by omega)⟩, by rw [bi_w (by omega)]; exact holds_5 b0.1 (by omega), by rw [bi_8, bi_8, holds_c b0.1 (by omega) (by omega)], ?_, ?_⟩
  · unfold ev
    rw [if_pos j2]
    exact n2
  · unfold ev
    rw [if_pos j2]
    exact n1
-- restart
theorem restart_c {k : Int} (hk : (k < 668 ∨ 788 ≤ k) ∧ k ≠ 4) (h5 : k ≠ 548 + 10 * b + 5) (h7 : k ≠ 548 + 10 * b + 7) : s_restart m b k = m k := by
  unfold s_restart
  try dsimp only
  rw [s_note_ne hk.1 hk.2, up_ne h7, up_ne h5]
theorem restart_5 (b0 : 0 ≤ b ∧ b < 12) : s_restart m b (548 + 10 * b + 5) = 1 := by
  unfold s_restart
  try dsimp only
  rw [s_note_ne (by omega) (by omega), up_ne (by omega), up_eq rfl]
theorem q_restartS (h : IL m ρ) (b0 : 0 ≤ b ∧ b < m 3) (h5 : bi m b 5 ≠ 2 ∨ (bi m b 8 ≠ -4 ∧ ui m (bi m b 8) 3 = 1)) : QD G e m ρ yX6_restart cX6_restart 2 ({ frames := 4, cells := 0, slots := 0, locals := 97 } : Room) [vi b] (-2) m ρ := by
  have hb := h.b
  have hh := ((Iv_iff.mp h.1).1.b b0.1 b0.2).2.2.2.2.2.2.2.2.1
  rw [bi_w (by omega), bi_8, ui_w (by omega)] at h5
  refine QD.of (fun l => c_X6_restart h (by omega)) ?_
  unfold o_restart
  rw [if_neg (by omega)]
  try dsimp only
  rw [if_pos]
  by_cases c : m (548 + 10 * b + 8) = -1
  · rw [if_pos c] at h5
    omega
  · rw [if_neg c] at h5
    omega
theorem q_restart (h : IL m ρ) (b0 : 0 ≤ b ∧ b < m 3) (h5 : bi m b 5 = 2) (h8 : bi m b 8 = -4 ∨ ui m (bi m b 8) 3 = 0) : QD G e m ρ yX6_restart cX6_restart 2 ({ frames := 4, cells := 0, slots := 0, locals := 97 } : Room) [vi b] (bi (s_restart m b) b 7) (s_restart m b) (s_keep m ρ) := by
  have hb := h.b
  have hh := ((Iv_iff.mp h.1).1.b b0.1 b0.2).2.2.2.2.2.2.2.2.1
  rw [bi_w (by omega)] at h5
  rw [bi_8, ui_w (by omega)] at h8
  refine QD.of (fun l => c_X6_restart h (by omega)) ?_
  unfold o_restart
  rw [if_neg (by omega)]
  try dsimp only
  rw [if_neg]
  · rw [bi_7, restart_5 (by omega), if_neg (by omega)]
  · by_cases c : m (548 + 10 * b + 8) = -1
    · omega
    · rw [if_neg c] at h8
      omega
theorem OK_restart (h : OK m ρ) (hm : ∀ k, -2147483648 ≤ m k ∧ m k < 2147483648) (b0 : 0 ≤ b ∧ b < m 3) (h5 : bi m b 5 = 2) (h8 : bi m b 8 = -4 ∨ ui m (bi m b 8) 3 = 0) : OK (s_restart m b) (s_keep m ρ) ∧ (s_restart m b 1 = m 1 ∧ s_restart m b 2 = m 2 ∧ s_restart m b 3 = m 3) ∧ bi (s_restart m b) b 5 = 1 ∧ bi m b 7 ≤ bi (s_restart m b) b 7 ∧ ev (s_restart m b) 0 2 = 3 ∧ ∀ u, 0 ≤ u → u < m 2 → ui (s_restart m b) u 3 = ui m u 3 := by
  have hb := h.I.b
  have hs := h.st b0.1 b0.2
  obtain ⟨h0, h1, h2⟩ := Iv_iff.mp h.I.1
  have hB := h0.b b0.1 b0.2
  have hB1 := h1 b b0.1 b0.2
  have hpg := h0.page b0.1 b0.2
  unfold okB0 at hB
  rw [bi_w (by omega)] at h5
  rw [bi_8, ui_w (by omega)] at h8
  have hI := IL_restart h.I (x := b)
  unfold o_restart at hI
  rw [if_neg (by omega)] at hI
  dsimp only at hI
  rw [if_neg (by
    by_cases c : m (548 + 10 * b + 8) = -1
    · omega
    · rw [if_neg c] at h8
      omega)] at hI
  have e : ∀ k, (k < 668 ∨ 788 ≤ k) ∧ k ≠ 4 → k ≠ 548 + 10 * b + 5 → k ≠ 548 + 10 * b + 7 → s_restart m b k = m k := fun k a c d => restart_c a c d
  have e5 := restart_5 (m := m) (b := b) (by omega)
  have e7 : s_restart m b (548 + 10 * b + 7) = 0 ∨ s_restart m b (548 + 10 * b + 7) = m (548 + 10 * b + 7) := by
    unfold s_restart
    try dsimp only
    rw [s_note_ne (by omega) (by omega), up_eq rfl]
    split
    · exact Or.inl rfl
    · right; exact up_ne (by omega)
  have hM : ∃ v, s_restart m b = s_note (up (up m (548 + 10 * b + 5) 1) (548 + 10 * b + 7) v) b 3 ∧ (v = 0 ∨ v = m (548 + 10 * b + 7)) := by
    refine ⟨_, rfl, ?_⟩
    split
    · exact Or.inl rfl
    · right; exact up_ne (by omega)
  obtain ⟨v, hv, hv7⟩ := hM
  have e2 : ∀ k, (k < 5 ∨ 668 ≤ k) → up (up m (548 + 10 * b + 5) 1) (548 + 10 * b + 7) v k = m k := fun k hk => by rw [up_ne (by omega), up_ne (by omega)]
  have j4 : 0 < s_restart m b 4 := by rw [hv]; exact note_4p (by rw [e2 4 (by omega)]; omega)
  refine ⟨h.keep hm hI ?_ ?_ (by rw [e 61 (by omega) (by omega) (by omega)]; exact h.2.2.2.2), ⟨e _ (by omega) (by omega) (by omega), e _ (by omega) (by omega) (by omega), e _ (by omega) (by omega) (by omega)⟩, by rw [bi_w (by omega)]; exact e5, ?_, ?_, fun u u0 u1 => by rw [ui_w (by omega), ui_w (by omega)]; exact e _ (by omega) (by omega) (by omega)⟩
  · rw [hv]
    have hR1 : RG (up m (548 + 10 * b + 5) 1) := h.G.up (by omega) (by omega) (by omega)
    have g1 := h.Q.state (st := 1) h.G b0.1 b0.2 (by omega) (by omega) (fun _ q => by rw [if_neg q] at h8; omega) (by omega) (fun _ => Or.inl rfl) (by omega)
    refine JQ.note (JQ.done g1 hR1 b0.1 (by rw [up_ne (by omega)]; exact b0.2) (by rw [up_eq rfl]; omega) (fun q => ?_)) (hR1.up (by omega) (by omega) (by omega))
    rw [up_ne (show 548 + 10 * b + 4 ≠ 548 + 10 * b + 5 by omega)]
    intro q4
    have := hs.2.1 q4
    rw [up_ne (by omega)]
    omega
  · rw [hv]
    exact JJ.note (h.J.fr (by omega) (e2 4 (by omega)) (fun k k0 k1 => e2 k (by omega)) (by rw [e2 3 (by omega)]; exact Int.le_refl _) (by rw [e2 1 (by omega)]; exact Int.le_refl _)) (by rw [e2 4 (by omega)]; omega) (by rw [e2 3 (by omega)]; exact b0) (by omega) (by omega)
  · obtain ⟨-, -, ph3⟩ := page_fr (m' := s_restart m b) hpg.1 (e _ (by omega) (by omega) (by omega)) (e _ (by omega) (by omega) (by omega)) (fun k k0 k1 => e k (by omega) (by omega) (by omega))
    have hw := hB1.2 (by omega)
    rw [bi_7, bi_7, e5, if_neg (by omega), if_neg (by omega), e (548 + 10 * b + 6) (by omega) (by omega) (by omega), ph3 _ (by omega) (by omega)]
    omega
  · unfold ev
    rw [if_pos j4, hv]
    rfl
-- priority
theorem q_priority {v : Int} (h : IL m ρ) (b0 : 0 ≤ b ∧ b < m 3) (hv : 0 ≤ v ∧ v ≤ 9) : QD G e m ρ yX6_priority cX6_priority 4 ({ frames := 4, cells := 0, slots := 0, locals := 97 } : Room) [vi b, vi v] (bi m b 3) (up m (548 + 10 * b + 3) v) (s_keep m ρ) := by
  have hb := h.b
  refine QD.of (fun l => c_X6_priority h (by omega) (by omega)) ?_
  unfold o_priority
  rw [if_neg (by omega), bi_w (by omega)]
theorem OK_priority {v : Int} (h : OK m ρ) (hm : ∀ k, -2147483648 ≤ m k ∧ m k < 2147483648) (b0 : 0 ≤ b ∧ b < m 3) (hv : 0 ≤ v ∧ v ≤ 9) : OK (up m (548 + 10 * b + 3) v) (s_keep m ρ) ∧ (up m (548 + 10 * b + 3) v 1 = m 1 ∧ up m (548 + 10 * b + 3) v 2 = m 2 ∧ up m (548 + 10 * b + 3) v 3 = m 3) ∧ bi (up m (548 + 10 * b + 3) v) b 3 = v := by
  have hb := h.I.b
  have hI := IL_priority h.I (x := b) (y := v)
  unfold o_priority at hI
  rw [if_neg (by omega)] at hI
  exact ⟨h.keep hm hI (h.Q.fr h.G (fun k k0 k1 k2 k3 k4 => up_ne (by omega))) (h.J.fr (by omega) (up_ne (by omega)) (fun k k0 k1 => up_ne (by omega)) (by rw [up_ne (by omega)]; exact Int.le_refl _) (by rw [up_ne (by omega)]; exact Int.le_refl _)) (by rw [up_ne (by omega)]; exact h.2.2.2.2), ⟨up_ne (by omega), up_ne (by omega), up_ne (by omega)⟩, by rw [bi_w (by omega)]; exact up_eq rfl⟩
-- stop
theorem q_stopS (h : IL m ρ) (b0 : 0 ≤ b ∧ b < m 3) (h5 : bi m b 5 ≠ 1 ∧ bi m b 5 ≠ 2) : QD G e m ρ yX6_stop cX6_stop 3 ({ frames := 4, cells := 0, slots := 0, locals := 97 } : Room) [vi b] (-2) m ρ := by
  have hb := h.b
  rw [bi_w (by omega)] at h5
  refine QD.of (fun l => c_X6_stop h (by omega)) ?_
  unfold o_stop
  rw [if_neg (by omega), if_pos h5]
theorem q_stop3 (h : IL m ρ) (b0 : 0 ≤ b ∧ b < m 3) (h5 : bi m b 5 = 1 ∧ bi m b 9 = 1) : QD G e m ρ yX6_stop cX6_stop 3 ({ frames := 4, cells := 0, slots := 0, locals := 97 } : Room) [vi b] 3 (up m (548 + 10 * b + 5) 3) (s_keep m ρ) := by
  have hb := h.b
  rw [bi_w (by omega), bi_9] at h5
  refine QD.of (fun l => c_X6_stop h (by omega)) ?_
  unfold o_stop
  have h7 : 0 < m (548 + 10 * b + 7) := by
    have := h5.2
    split at this <;> omega
  rw [if_neg (by omega), if_neg (by omega), if_pos ⟨h5.1, h7⟩]
theorem q_stop4 (h : IL m ρ) (b0 : 0 ≤ b ∧ b < m 3) (h5 : bi m b 5 = 2 ∨ (bi m b 5 = 1 ∧ bi m b 9 ≠ 1)) : QD G e m ρ yX6_stop cX6_stop 3 ({ frames := 4, cells := 0, slots := 0, locals := 97 } : Room) [vi b] 4 (s_endsBy m b 4 4) (s_keep m ρ) := by
  have hb := h.b
  rw [bi_w (by omega), bi_9] at h5
  refine QD.of (fun l => c_X6_stop h (by omega)) ?_
  unfold o_stop
  have h7 : ¬ (m (548 + 10 * b + 5) = 1 ∧ 0 < m (548 + 10 * b + 7)) := by
    rintro ⟨q1, q2⟩
    rw [if_pos q2] at h5
    omega
  rw [if_neg (by omega), if_neg (by omega), if_neg h7]
theorem OK_stop3 (h : OK m ρ) (hm : ∀ k, -2147483648 ≤ m k ∧ m k < 2147483648) (b0 : 0 ≤ b ∧ b < m 3) (h5 : bi m b 5 = 1 ∧ bi m b 9 = 1) : OK (up m (548 + 10 * b + 5) 3) (s_keep m ρ) ∧ (up m (548 + 10 * b + 5) 3 1 = m 1 ∧ up m (548 + 10 * b + 5) 3 2 = m 2 ∧ up m (548 + 10 * b + 5) 3 3 = m 3) ∧ bi (up m (548 + 10 * b + 5) 3) b 5 = 3 ∧ bi (up m (548 + 10 * b + 5) 3) b 8 = bi m b 8 := by
  have hb := h.I.b
  have hs := h.st b0.1 b0.2
  rw [bi_w (by omega), bi_9] at h5
  have h7 : 0 < m (548 + 10 * b + 7) := by
    have := h5.2
    split at this <;> omega
  have hI := IL_stop h.I (x := b)
  unfold o_stop at hI
  rw [if_neg (by omega), if_neg (by omega), if_pos ⟨h5.1, h7⟩] at hI
  refine ⟨h.keep hm hI (h.Q.state h.G b0.1 b0.2 (by omega) (by omega) (fun _ q => by have := hs.1 q; omega) (by omega) (fun _ => Or.inr rfl) (by omega)) (h.J.fr (by omega) (up_ne (by omega)) (fun k k0 k1 => up_ne (by omega)) (by rw [up_ne (by omega)]; exact Int.le_refl _) (by rw [up_ne (by omega)]; exact Int.le_refl _)) (by rw [up_ne (by omega)]; exact h.2.2.2.2), ⟨up_ne (by omega), up_ne (by omega), up_ne (by omega)⟩, by rw [bi_w (by omega)]; exact up_eq rfl, by rw [bi_8, bi_8, up_ne (by omega)]⟩
/-- what an end leaves, and what it makes -/
theorem ends_c {st w k : Int} (hR : RG m) (b0 : 0 ≤ b ∧ b < m 3) (hk : (k < 4 ∨ 56 ≤ k) ∧ (k < 668 ∨ 788 ≤ k)) (h5 : k ≠ 548 + 10 * b + 5) (h8 : k ≠ 548 + 10 * b + 8) : s_endsBy m b st w k = m k := by
  have h3 := hR.2.1
  exact s_endsBy_ne (by omega) (hR.2.2 b b0.1 b0.2).2.2 hk.1 hk.2 h5 h8
theorem ends_8 {st w : Int} (hR : RG m) (b0 : 0 ≤ b ∧ b < m 3) : s_endsBy m b st w (548 + 10 * b + 8) = -1 := by
  have h3 := hR.2.1
  have e3 : s_relS m b 3 3 = m 3 := s_relS_ne (by omega)
  unfold s_endsBy
  rw [s_note_ne (by omega) (by omega), up_ne (by omega), relU_B hR.relS b0.1 (by rw [e3]; exact b0.2) (by omega) b0.1, if_pos ⟨rfl, rfl⟩]
theorem ends_cl {st w : Int} (hR : RG m) (b0 : 0 ≤ b ∧ b < m 3) (h8 : m (548 + 10 * b + 8) ≠ -1) : s_endsBy m b st w (5 + 6 * m (548 + 10 * b + 8) + 4) = m 0 := by
  have h3 := hR.2.1
  have hu := (hR.2.2 b b0.1 b0.2).2.2
  have e8 : s_relS m b 3 (548 + 10 * b + 8) = m (548 + 10 * b + 8) := s_relS_ne (by omega)
  unfold s_endsBy
  rw [s_note_ne (by omega) (by omega), up_ne (by omega)]
  simp only [s_relU]
  rw [e8, if_neg h8, up_ne (by omega), up_eq rfl, up_ne (by omega), s_relS_ne (by omega)]
theorem ends_j {st w : Int} (hR : RG m) (b0 : 0 ≤ b ∧ b < m 3) (h4 : 0 ≤ m 4) : s_endsBy m b st w 670 = w ∧ 0 < s_endsBy m b st w 4 := by
  have e3 : s_relS m b 3 3 = m 3 := s_relS_ne (by omega)
  unfold s_endsBy
  refine ⟨rfl, note_4p ?_⟩
  rw [up_ne (by omega), relU_ne hR.relS b0.1 (by rw [e3]; exact b0.2) (by omega) (by omega), s_relS_ne (by omega)]
  exact h4
theorem OK_stop4 (h : OK m ρ) (hm : ∀ k, -2147483648 ≤ m k ∧ m k < 2147483648) (b0 : 0 ≤ b ∧ b < m 3) (h5 : bi m b 5 = 2 ∨ (bi m b 5 = 1 ∧ bi m b 9 ≠ 1)) : OK (s_endsBy m b 4 4) (s_keep m ρ) ∧ (s_endsBy m b 4 4 1 = m 1 ∧ s_endsBy m b 4 4 2 = m 2 ∧ s_endsBy m b 4 4 3 = m 3) ∧ bi (s_endsBy m b 4 4) b 5 = 4 ∧ bi (s_endsBy m b 4 4) b 8 = -4 ∧ (bi m b 8 ≠ -4 → ui (s_endsBy m b 4 4) (bi m b 8) 4 = cn (s_endsBy m b 4 4) 12) := by
  have hb := h.I.b
  have hR := h.G
  rw [bi_w (by omega), bi_9] at h5
  have h7 : ¬ (m (548 + 10 * b + 5) = 1 ∧ 0 < m (548 + 10 * b + 7)) := by
    rintro ⟨q1, q2⟩
    rw [if_pos q2] at h5
    omega
  have hI := IL_stop h.I (x := b)
  unfold o_stop at hI
  rw [if_neg (by omega), if_neg (by omega), if_neg h7] at hI
  refine ⟨h.keep hm hI (h.Q.endsBy hR b0.1 b0.2 (Or.inl rfl) (by omega) (by omega) (by omega)) (h.J.endsBy hR (by omega) b0 (by omega) (by omega)) (by rw [ends_c hR b0 (by omega) (by omega) (by omega)]; exact h.2.2.2.2), ⟨ends_c hR b0 (by omega) (by omega) (by omega), ends_c hR b0 (by omega) (by omega) (by omega), ends_c hR b0 (by omega) (by omega) (by omega)⟩, by rw [bi_w (by omega)]; exact s_endsBy_st (by omega), by rw [bi_8, ends_8 hR b0, if_pos rfl], fun q => ?_⟩
  rw [bi_8] at q ⊢
  by_cases c : m (548 + 10 * b + 8) = -1
  · rw [if_pos c] at q; exact absurd rfl q
  · rw [if_neg c, ui_w (by omega), ends_cl hR b0 c, cn_12, ends_c hR b0 (by omega) (by omega) (by omega)]
end OPG

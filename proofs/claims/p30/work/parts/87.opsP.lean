/-! ===== the commands, of plant and journal; what they answer ===== -/
section JAX
variable {U U' B B' : Int → Int → Int} {S P P' : Int → Int} {n2 n3 x : Int}
theorem JA.unit (h : JA U B S P n2 n3 x) (eU : ∀ u w, 0 ≤ u → u < n2 → 0 ≤ w → w < 5 → U' u w = U u w) (hn : U' n2 2 = -1) : JA U' B S P (n2 + 1) n3 x := by
  obtain ⟨h1, h2, h3, h4, h5, h6, h7⟩ := h
  unfold jaU at h1
  unfold jaB at h2
  unfold jaK at h3
  refine ⟨?_, ?_, ?_, h4, h5, h6, h7⟩
  · intro u u0 u1
    by_cases e : u = n2
    · subst e; intro q; exact absurd hn q
    · have := h1 u u0 (by omega)
      grind
  · intro b b0 b1
    have := h2 b b0 b1
    grind
  · intro b b0 b1 bx
    have := h3 b b0 b1 bx
    have := h2 b b0 b1
    grind
theorem JA.batch (h : JA U B S P n2 n3 x) (h0 : 0 ≤ n3) (eB : ∀ b w, 0 ≤ b → b < n3 → 0 ≤ w → w < 10 → B' b w = B b w) (eP : ∀ b, 0 ≤ b → b < n3 → P' b = P b) (h4 : B' n3 4 = -1 ∨ (0 ≤ B' n3 4 ∧ B' n3 4 < n3)) (h5 : B' n3 5 = 0) (h6 : B' n3 6 = 0) (h7 : B' n3 7 = 0) (h8 : B' n3 8 = -1) (h9 : B' n3 9 ≤ szF (B' n3 2)) : JA U B' S P' n2 (n3 + 1) x := by
  obtain ⟨g1, g2, g3, g4, g5, g6, g7⟩ := h
  unfold jaU at g1
  unfold jaB at g2
  unfold jaK at g3
  unfold jaR at g4
  unfold jaF at g5
  unfold jaM at g6
  unfold jaS at g7
  refine ⟨?_, ?_, ?_, ?_, ?_, ?_, ?_⟩
  · intro u u0 u1
    have := g1 u u0 u1
    grind
  · intro b b0 b1
    by_cases e : b = n3
    · subst e; intro q; exact absurd h8 q
    · have := g2 b b0 (by omega)
      grind
  · intro b b0 b1 bx
    by_cases e : b = n3
    · subst e; intro q; exact absurd h8 q
    · have := g3 b b0 (by omega) bx
      grind
  · intro b b0 b1
    by_cases e : b = n3
    · subst e; intro _; exact ⟨h6, h7⟩
    · have := g4 b b0 (by omega)
      grind
  · intro b b0 b1
    by_cases e : b = n3
    · subst e
      intro q
      refine ⟨by omega, fun q => by omega⟩
    · have := g5 b b0 (by omega)
      grind
  · intro b b0 b1
    by_cases e : b = n3
    · subst e; exact h9
    · have := g6 b b0 (by omega)
      grind
  · intro k k0 k1
    have := g7 k k0 k1
    grind
end JAX
/-- the ranges of what the reference keeps -/
def Rr (ρ : Nat → Int → Int) : Prop := ∀ j k, -2147483648 ≤ ρ j k ∧ ρ j k < 2147483648
def OK (m : Int → Int) (ρ : Nat → Int → Int) : Prop := IL m ρ ∧ JQ m (-1) ∧ JJ m ∧ Rr ρ ∧ m 61 = 0
section OKS
variable {m m' : Int → Int} {ρ : Nat → Int → Int}
theorem Rr.keep (h : Rr ρ) (hm : ∀ k, -2147483648 ≤ m k ∧ m k < 2147483648) (hn : 0 ≤ ρ 5 0 ∧ ρ 5 0 ≤ 4) : Rr (s_keep m ρ) := by
  have hc : ∀ (f g : Int → Int) (a b c : Int), (∀ k, -2147483648 ≤ f k ∧ f k < 2147483648) → (∀ k, -2147483648 ≤ g k ∧ g k < 2147483648) → ∀ k, -2147483648 ≤ cpyN f g a b c k ∧ cpyN f g a b c k < 2147483648 := fun f g a b c hf hg k => by
    unfold cpyN
    split
    · exact hf _
    · exact hg _
  have hs : ∀ k, -2147483648 ≤ s_shift (ρ 1) 2364 k ∧ s_shift (ρ 1) 2364 k < 2147483648 := fun k => by
    unfold s_shift
    split
    · exact h _ _
    · exact h _ _
  have hu : ∀ (σ : Nat → Int → Int) (i : Nat) (f : Int → Int), Rr σ → (∀ k, -2147483648 ≤ f k ∧ f k < 2147483648) → Rr (ur σ i f) := fun σ i f h1 h2 j k => by
    unfold ur
    split
    · exact h2 k
    · exact h1 j k
  unfold s_keep
  split
  · exact hu _ _ _ h (hc _ _ _ _ _ hm hs)
  · refine hu _ _ _ (hu _ _ _ h (hc _ _ _ _ _ hm (h 1))) (fun k => ?_)
    unfold up
    split
    · omega
    · exact h 5 k
theorem OK.I (h : OK m ρ) : IL m ρ := h.1
theorem OK.Q (h : OK m ρ) : JQ m (-1) := h.2.1
theorem OK.J (h : OK m ρ) : JJ m := h.2.2.1
theorem OK.R (h : OK m ρ) : Rr ρ := h.2.2.2.1
theorem OK.G (h : OK m ρ) : RG m := RG.of (Iv_iff.mp h.1.1).1
theorem OK.keep (h : OK m ρ) (hm : ∀ k, -2147483648 ≤ m k ∧ m k < 2147483648) (hI : IL m' (s_keep m ρ)) (hQ : JQ m' (-1)) (hJ : JJ m') (h61 : m' 61 = 0) : OK m' (s_keep m ρ) := ⟨hI, hQ, hJ, h.R.keep hm h.I.2.2.1.1, h61⟩
/-- the history's count behind a change, and behind its undoing -/
def ukn (ρ : Nat → Int → Int) : Int := s_keep (fun _ => 0) ρ 5 0 - 1
def ukr (m : Int → Int) (ρ : Nat → Int → Int) : Nat → Int → Int := ur (s_keep m ρ) 5 (up (s_keep m ρ 5) 0 (ukn ρ))
theorem ukn_eq : ukn ρ = s_keep m ρ 5 0 - 1 := by
  unfold ukn
  rw [keep_n, keep_n]
theorem q_undo {G : xG} {e : Nat} (h : OK m ρ) (h' : IL m' (s_keep m ρ)) (hm : ∀ k, -2147483648 ≤ m k ∧ m k < 2147483648) : QD G e m' (s_keep m ρ) yX6_undo cX6_undo 1 ({ frames := 3, cells := 0, slots := 0, locals := 75 } : Room) [] (ukn ρ) m (ukr m ρ) := by
  have hn := h.I.2.2.1.1
  have hk := keep_n (m := m) (ρ := ρ)
  have hk1 : 1 ≤ s_keep m ρ 5 0 := by rw [hk]; split <;> omega
  refine (?_ : QD G e m' (s_keep m ρ) yX6_undo cX6_undo 1 _ [] (ukn ρ) (o_undo m' (s_keep m ρ)).2.1 (ukr m ρ)).to (fun H hP => hP.congr (fun k k0 k1 => ?_) hm)
  · refine QD.of (fun l => c_X6_undo h' (h.R.keep hm hn)) ?_
    unfold o_undo ukr
    rw [if_neg (by omega), ukn_eq (m := m)]
  · unfold o_undo
    rw [if_neg (by omega)]
    show m k = cpyN (s_keep m ρ 1) m' (788 * (s_keep m ρ 5 0 - 1)) 0 788 k
    unfold cpyN
    rw [if_pos (by omega)]
    have := keep_sv (m := m) (ρ := ρ) hn (i := s_keep m ρ 5 0 - 1) (k := k) (by omega) (by omega) k0 k1
    rw [if_pos rfl] at this
    rw [← this]
    unfold sv
    congr 1
    omega
theorem OK.undo (h : OK m ρ) (h' : IL m' (s_keep m ρ)) (hm : ∀ k, -2147483648 ≤ m k ∧ m k < 2147483648) : OK m (ukr m ρ) ∧ 0 ≤ ukn ρ := by
  have hn := h.I.2.2.1.1
  have hk := keep_n (m := m) (ρ := ρ)
  have hk1 : 1 ≤ s_keep m ρ 5 0 ∧ s_keep m ρ 5 0 ≤ 4 := by rw [hk]; split <;> omega
  have hu := ukn_eq (m := m) (ρ := ρ)
  refine ⟨⟨?_, h.Q, h.J, ?_, h.2.2.2.2⟩, by omega⟩
  · obtain ⟨g1, g2, g3, g4, g5, g6⟩ := IL_keep h.I (m' := m) h.I.1 h.I.2.1 (fun r _ _ => Int.le_refl _)
    unfold Ir at g3
    have e5 : ukr m ρ 5 0 = s_keep m ρ 5 0 - 1 := by unfold ukr; rw [ur_eq, up_eq rfl, hu]
    have e51 : ukr m ρ 5 1 = s_keep m ρ 5 1 := by unfold ukr; rw [ur_eq, up_ne (by omega)]
    have e2 : ukr m ρ 2 = s_keep m ρ 2 := ur_ne (by decide)
    have e1 : ukr m ρ 1 = s_keep m ρ 1 := ur_ne (by decide)
    have es : ∀ i, sv (ukr m ρ) i = sv (s_keep m ρ) i := fun i => by unfold sv; rw [e1]
    refine ⟨h.I.1, h.I.2.1, ?_, by rw [e2, e51]; exact g4, fun i a b => ?_, fun i j r a b c d e => ?_⟩
    · unfold Ir
      rw [e5, e51]
      omega
    · rw [es]; exact g5 i a (by omega)
    · rw [es, es]; exact g6 i j r a b (by omega) d e
  · intro j k
    have hr := h.R.keep hm hn
    unfold ukr ur
    split
    · unfold up
      split
      · omega
      · exact hr 5 k
    · exact hr j k
end OKS
section OPF
variable {G : xG} {e : Nat} {m : Int → Int} {ρ : Nat → Int → Int}
-- a unit
theorem q_unitF {kd cp : Int} (h : IL m ρ) (h1 : 0 ≤ kd ∧ kd ≤ 3) (h2 : 1 ≤ cp ∧ cp ≤ 10000) (h3 : m 2 = 8) : QD G e m ρ yX6_unit cX6_unit 3 ({ frames := 4, cells := 0, slots := 0, locals := 97 } : Room) [vi kd, vi cp] (-3) m ρ := by
  refine QD.of (fun l => c_X6_unit h (by omega) (by omega)) ?_
  unfold o_unit
  rw [if_neg (by omega), if_pos h3]
theorem q_unit {kd cp : Int} (h : IL m ρ) (h1 : 0 ≤ kd ∧ kd ≤ 3) (h2 : 1 ≤ cp ∧ cp ≤ 10000) (h3 : m 2 ≠ 8) : QD G e m ρ yX6_unit cX6_unit 3 ({ frames := 4, cells := 0, slots := 0, locals := 97 } : Room) [vi kd, vi cp] (m 2) (s_unit m kd cp) (s_keep m ρ) := by
  refine QD.of (fun l => c_X6_unit h (by omega) (by omega)) ?_
  unfold o_unit
  rw [if_neg (by omega), if_neg h3]
theorem unit_c {kd cp : Int} (hR : 0 ≤ m 2) {k : Int} (h2 : k ≠ 2) (hk : k < 5 + 6 * m 2 ∨ 5 + 6 * m 2 + 6 ≤ k) : s_unit m kd cp k = m k := by
  unfold s_unit
  try dsimp only
  rw [up_ne (by omega), up_ne (by omega), up_ne (by omega), up_ne (by omega), up_ne (by omega), up_ne (by omega), up_ne h2]
theorem unit_2 {kd cp : Int} (hR : 0 ≤ m 2) : s_unit m kd cp 2 = m 2 + 1 := by
  unfold s_unit
  try dsimp only
  rw [up_ne (by omega), up_ne (by omega), up_ne (by omega), up_ne (by omega), up_ne (by omega), up_ne (by omega), up_eq rfl]
theorem OK_unit {kd cp : Int} (h : OK m ρ) (hm : ∀ k, -2147483648 ≤ m k ∧ m k < 2147483648) (h1 : 0 ≤ kd ∧ kd ≤ 3) (h2 : 1 ≤ cp ∧ cp ≤ 10000) (h3 : m 2 ≠ 8) : OK (s_unit m kd cp) (s_keep m ρ) ∧ (s_unit m kd cp 1 = m 1 ∧ s_unit m kd cp 2 = m 2 + 1) ∧ ui (s_unit m kd cp) (m 2) 6 = 1 ∧ ui (s_unit m kd cp) (m 2) 2 = -4 ∧ ui (s_unit m kd cp) (m 2) 5 = 0 := by
  have hb := h.I.b
  have hR := h.G
  have hI := IL_unit h.I (x := kd) (y := cp)
  unfold o_unit at hI
  rw [if_neg (by omega), if_neg h3] at hI
  have e : ∀ k, k ≠ 2 → (k < 5 + 6 * m 2 ∨ 5 + 6 * m 2 + 6 ≤ k) → s_unit m kd cp k = m k := fun k a b => unit_c hb.2.2.1.1 a b
  have e2 : s_unit m kd cp 2 = m 2 + 1 := unit_2 hb.2.2.1.1
  have c2 : s_unit m kd cp (5 + 6 * m 2 + 2) = -1 := by
    unfold s_unit
    try dsimp only
    rw [up_ne (by omega), up_ne (by omega), up_ne (by omega), up_eq rfl]
  have c3 : s_unit m kd cp (5 + 6 * m 2 + 3) = 0 := by
    unfold s_unit
    try dsimp only
    rw [up_ne (by omega), up_ne (by omega), up_eq rfl]
  have c4 : s_unit m kd cp (5 + 6 * m 2 + 4) = 0 := by
    unfold s_unit
    try dsimp only
    rw [up_ne (by omega), up_eq rfl]
  have c5 : s_unit m kd cp (5 + 6 * m 2 + 5) = 0 := by
    unfold s_unit
    try dsimp only
    rw [up_eq rfl]
  refine ⟨h.keep hm hI ?_ (h.J.fr (by omega) (e 4 (by omega) (by omega)) (fun k k0 k1 => e k (by omega) (by omega)) (by rw [e 3 (by omega) (by omega)]; exact Int.le_refl _) (by rw [e 1 (by omega) (by omega)]; exact Int.le_refl _)) (by rw [e 61 (by omega) (by omega)]; exact h.2.2.2.2), ⟨e 1 (by omega) (by omega), e2⟩, ?_, ?_, ?_⟩
  · have hJ := JA.unit (U' := mU (s_unit m kd cp)) h.Q (fun u w u0 u1 w0 w1 => e _ (by omega) (by omega)) c2
    unfold JQ
    rw [e2, e 3 (by omega) (by omega)]
    refine hJ.congr (fun u w _ _ _ _ => rfl) (fun u _ _ q => q) (fun b w b0 b1 w0 w1 w3 => e _ (by omega) (by omega)) (fun k k0 k1 => e _ (by omega) (by omega)) (fun b b0 b1 => mP_fr hR b0 b1 (fun w hw => e _ (by omega) (by omega)) (fun k k0 k1 => e _ (by omega) (by omega)))
  · rw [ui_6, c2, c3, c4]; rfl
  · rw [ui_2, c2]; rfl
  · rw [ui_w (by omega), c5]
-- cleaning
theorem q_setCleaning {t : Int} (h : IL m ρ) (h1 : 0 ≤ t ∧ t ≤ 30) : QD G e m ρ yX6_setCleaning cX6_setCleaning 3 ({ frames := 4, cells := 0, slots := 0, locals := 97 } : Room) [vi t] (m 0) (up m 0 t) (s_keep m ρ) := by
  refine QD.of (fun l => c_X6_setCleaning h (by omega)) ?_
  unfold o_setCleaning
  rw [if_neg (by omega)]
theorem OK_setCleaning {t : Int} (h : OK m ρ) (hm : ∀ k, -2147483648 ≤ m k ∧ m k < 2147483648) (h1 : 0 ≤ t ∧ t ≤ 30) : OK (up m 0 t) (s_keep m ρ) ∧ (up m 0 t 1 = m 1 ∧ up m 0 t 2 = m 2) ∧ cn (up m 0 t) 12 = t := by
  have hb := h.I.b
  have hI := IL_setCleaning h.I (x := t)
  unfold o_setCleaning at hI
  rw [if_neg (by omega)] at hI
  exact ⟨h.keep hm hI (h.Q.fr h.G (fun k k0 k1 k2 k3 k4 => up_ne (by omega))) (h.J.fr (by omega) (up_ne (by omega)) (fun k k0 k1 => up_ne (by omega)) (by rw [up_ne (by omega)]; exact Int.le_refl _) (by rw [up_ne (by omega)]; exact Int.le_refl _)) (by rw [up_ne (by omega)]; exact h.2.2.2.2), ⟨up_ne (by omega), up_ne (by omega)⟩, by rw [cn_12]; exact up_eq rfl⟩
-- a batch
theorem q_batchS {r sz pr bf : Int} (h : IL m ρ) (h1 : 0 ≤ r ∧ r ≤ 5) (h2 : 1 ≤ sz ∧ sz ≤ 10000) (h3 : 0 ≤ pr ∧ pr ≤ 9) (h4 : bf = -1 ∨ (0 ≤ bf ∧ bf < m 3)) (h5 : vr m r = 0 ∨ (0 ≤ bf ∧ (bi m bf 5 = 4 ∨ bi m bf 5 = 5))) : QD G e m ρ yX6_batch cX6_batch 5 ({ frames := 4, cells := 0, slots := 0, locals := 97 } : Room) [vi r, vi sz, vi pr, vi bf] (-2) m ρ := by
  have hb := h.b
  rw [bi_w (by omega)] at h5
  unfold vr at h5
  refine QD.of (fun l => c_X6_batch h (by omega) (by omega) (by omega) (by omega)) ?_
  unfold o_batch
  rw [if_neg (by omega), if_pos (by omega)]
theorem q_batchF {r sz pr bf : Int} (h : IL m ρ) (h1 : 0 ≤ r ∧ r ≤ 5) (h2 : 1 ≤ sz ∧ sz ≤ 10000) (h3 : 0 ≤ pr ∧ pr ≤ 9) (h4 : bf = -1 ∨ (0 ≤ bf ∧ bf < m 3)) (h5 : vr m r ≠ 0 ∧ (0 ≤ bf → bi m bf 5 ≠ 4 ∧ bi m bf 5 ≠ 5)) (h6 : m 3 = 12) : QD G e m ρ yX6_batch cX6_batch 5 ({ frames := 4, cells := 0, slots := 0, locals := 97 } : Room) [vi r, vi sz, vi pr, vi bf] (-3) m ρ := by
  have hb := h.b
  rw [bi_w (by omega)] at h5
  unfold vr at h5
  refine QD.of (fun l => c_X6_batch h (by omega) (by omega) (by omega) (by omega)) ?_
  unfold o_batch
  rw [if_neg (by omega), if_neg (by omega), if_pos h6]
theorem q_batch {r sz pr bf : Int} (h : IL m ρ) (h1 : 0 ≤ r ∧ r ≤ 5) (h2 : 1 ≤ sz ∧ sz ≤ 10000) (h3 : 0 ≤ pr ∧ pr ≤ 9) (h4 : bf = -1 ∨ (0 ≤ bf ∧ bf < m 3)) (h5 : vr m r ≠ 0 ∧ (0 ≤ bf → bi m bf 5 ≠ 4 ∧ bi m bf 5 ≠ 5)) (h6 : m 3 ≠ 12) : QD G e m ρ yX6_batch cX6_batch 5 ({ frames := 4, cells := 0, slots := 0, locals := 97 } : Room) [vi r, vi sz, vi pr, vi bf] (m 3) (s_batch m r sz pr bf) (s_keep m ρ) := by
  have hb := h.b
  rw [bi_w (by omega)] at h5
  unfold vr at h5
  refine QD.of (fun l => c_X6_batch h (by omega) (by omega) (by omega) (by omega)) ?_
  unfold o_batch
  rw [if_neg (by omega), if_neg (by omega), if_neg h6]
theorem OK_batch {r sz pr bf : Int} (h : OK m ρ) (hm : ∀ k, -2147483648 ≤ m k ∧ m k < 2147483648) (h1 : 0 ≤ r ∧ r ≤ 5) (h2 : 1 ≤ sz ∧ sz ≤ 10000) (h3 : 0 ≤ pr ∧ pr ≤ 9) (h4 : bf = -1 ∨ (0 ≤ bf ∧ bf < m 3)) (h5 : vr m r ≠ 0 ∧ (0 ≤ bf → bi m bf 5 ≠ 4 ∧ bi m bf 5 ≠ 5)) (h6 : m 3 ≠ 12) : OK (s_batch m r sz pr bf) (s_keep m ρ) ∧ (s_batch m r sz pr bf 1 = m 1 ∧ s_batch m r sz pr bf 2 = m 2 ∧ s_batch m r sz pr bf 3 = m 3 + 1) ∧ vr (s_batch m r sz pr bf) r = vr m r ∧ bi (s_batch m r sz pr bf) (m 3) 1 = vr m r ∧ bi (s_batch m r sz pr bf) (m 3) 11 = sz ∧ bi (s_batch m r sz pr bf) (m 3) 4 = (if bf = -1 then -4 else bf) ∧ bi (s_batch m r sz pr bf) (m 3) 5 = 0 := by
  have hb := h.I.b
  have hR := h.G
  rw [bi_w (by omega)] at h5
  unfold vr at h5 ⊢
  have hI := IL_batch h.I (r := r) (sz := sz) (pr := pr) (bf := bf)
  unfold o_batch at hI
  rw [if_neg (by omega), if_neg (by omega), if_neg h6] at hI
  have e : ∀ k, k ≠ 3 → (k < 548 + 10 * m 3 ∨ 548 + 10 * m 3 + 10 ≤ k) → s_batch m r sz pr bf k = m k := fun k a b => by
    unfold s_batch
    try dsimp only
    rw [up_ne (by omega), up_ne (by omega), up_ne (by omega), up_ne (by omega), up_ne (by omega), up_ne (by omega), up_ne (by omega), up_ne (by omega), up_ne (by omega), up_ne (by omega), up_ne a]
  have e3 : s_batch m r sz pr bf 3 = m 3 + 1 := by
    unfold s_batch
    try dsimp only
    rw [up_ne (by omega), up_ne (by omega), up_ne (by omega), up_ne (by omega), up_ne (by omega), up_ne (by omega), up_ne (by omega), up_ne (by omega), up_ne (by omega), up_ne (by omega), up_eq rfl]
  have c : ∀ w, 0 ≤ w → w < 10 → s_batch m r sz pr bf (548 + 10 * m 3 + w) = if w = 9 then szF sz else if w = 8 then -1 else if w = 7 then 0 else if w = 6 then 0 else if w = 5 then 0 else if w = 4 then bf else if w = 3 then pr else if w = 2 then sz else if w = 1 then m (56 + r) else r := fun w w0 w1 => by
    unfold s_batch
    try dsimp only
    rw [up_ne (f := up m 3 (m 3 + 1)) (show 56 + r ≠ 548 + 10 * m 3 + 0 by omega), up_ne (show 56 + r ≠ 3 by omega)]
    unfold up
    have hq : ∀ z : Int, (548 + 10 * m 3 + w = 548 + 10 * m 3 + z) = (w = z) := fun z => by
      apply propext
      omega
    simp only [hq]
    repeat' split
    all_goals first | rfl | omega
  refine ⟨h.keep hm hI ?_ (h.J.fr (by omega) (e 4 (by omega) (by omega)) (fun k k0 k1 => e k (by omega) (by omega)) (by rw [e3]; omega) (by rw [e 1 (by omega) (by omega)]; exact Int.le_refl _)) (by rw [e 61 (by omega) (by omega)]; exact h.2.2.2.2), ⟨e 1 (by omega) (by omega), e 2 (by omega) (by omega), e3⟩, e _ (by omega) (by omega), ?_, ?_, ?_, ?_⟩
  · unfold JQ
    rw [e3, e 2 (by omega) (by omega)]
    have hJ := JA.batch (B' := mB (s_batch m r sz pr bf)) (P' := mP (s_batch m r sz pr bf)) h.Q (by omega) (fun b w b0 b1 w0 w1 => e _ (by omega) (by omega)) (fun b b0 b1 => mP_fr hR b0 b1 (fun w hw => e _ (by omega) (by omega)) (fun k k0 k1 => e _ (by omega) (by omega))) (by show s_batch m r sz pr bf (548 + 10 * m 3 + 4) = -1 ∨ (0 ≤ s_batch m r sz pr bf (548 + 10 * m 3 + 4) ∧ s_batch m r sz pr bf (548 + 10 * m 3 + 4) < m 3); rw [c 4 (by omega) (by omega)]; exact h4) (c 5 (by omega) (by omega)) (c 6 (by omega) (by omega)) (c 7 (by omega) (by omega)) (c 8 (by omega) (by omega)) (by show s_batch m r sz pr bf (548 + 10 * m 3 + 9) ≤ szF (s_batch m r sz pr bf (548 + 10 * m 3 + 2)); rw [c 9 (by omega) (by omega), c 2 (by omega) (by omega)]; exact Int.le_refl _)
    exact hJ.congr (fun u w u0 u1 w0 w1 => e _ (by omega) (by omega)) (fun u u0 u1 q => by rw [← q]; exact e _ (by omega) (by omega)) (fun b w _ _ _ _ _ => rfl) (fun k k0 k1 => e _ (by omega) (by omega)) (fun b _ _ => rfl)
  · rw [bi_w (by omega)]; exact c 1 (by omega) (by omega)
  · rw [bi_11, c 9 (by omega) (by omega)]
    exact f2i_size h2
  · rw [bi_4, c 4 (by omega) (by omega)]
    rfl
  · rw [bi_w (by omega)]; exact c 5 (by omega) (by omega)
end OPF

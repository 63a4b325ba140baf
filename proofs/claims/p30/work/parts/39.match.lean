/-! ===== the class's tick is the reference's; a tick in which nothing moves ===== -/
theorem foldM_filter : ∀ (R : List Int) (s : (Int → Int) × Int) (W : Int), Iv s.1 W → R.Nodup → (∀ c ∈ R, 0 ≤ c ∧ c < s.1 3) → (R.foldl stepM s).1 = (R.filter (fun b => decide (s.1 (548 + 10 * b + 5) = 1 ∨ s.1 (548 + 10 * b + 5) = 3))).foldl s_work s.1
  | [], s, W, _, _, _ => rfl
  | c :: R, s, W, h, hnd, hR => by
    obtain ⟨n1, n2⟩ := List.nodup_cons.mp hnd
    obtain ⟨c0, c1⟩ := hR c List.mem_cons_self
    obtain ⟨g1, g2⟩ := stepM_E h c0 c1
    have hn := (Iv_iff.mp h).1.n
    have ih := foldM_filter R (stepM s c) (W + 1) g1 n2 (fun d hd => by
      rw [g2 3 (by omega) (by omega) (by omega)]
      exact hR d (List.mem_cons_of_mem _ hd))
    have ef : R.filter (fun b => decide ((stepM s c).1 (548 + 10 * b + 5) = 1 ∨ (stepM s c).1 (548 + 10 * b + 5) = 3)) = R.filter (fun b => decide (s.1 (548 + 10 * b + 5) = 1 ∨ s.1 (548 + 10 * b + 5) = 3)) := by
      apply List.filter_congr
      intro d hd
      have hdr := hR d (List.mem_cons_of_mem _ hd)
      have hne : d ≠ c := fun q => n1 (by rw [← q]; exact hd)
      rw [g2 (548 + 10 * d + 5) (by omega) (by omega) (by omega)]
    show (R.foldl stepM (stepM s c)).1 = _
    rw [ih, ef, List.filter_cons]
    unfold stepM
    by_cases ha : s.1 (548 + 10 * c + 5) = 1 ∨ s.1 (548 + 10 * c + 5) = 3
    · rw [if_pos ha, if_pos (decide_eq_true ha)]
      rfl
    · rw [if_neg ha, if_neg (by rw [decide_eq_true_eq]; exact ha)]
theorem passM_tick {m0 m : Int → Int} {W : Int} (h : Iv m W) (h3 : m 3 = m0 3) (hp : ∀ b, 0 ≤ b → b < m 3 → m (548 + 10 * b + 3) = m0 (548 + 10 * b + 3)) (ha : ∀ b, 0 ≤ b → b < m 3 → (m (548 + 10 * b + 5) = 1 ∨ m (548 + 10 * b + 5) = 3) → (m0 (548 + 10 * b + 5) = 1 ∨ m0 (548 + 10 * b + 5) = 3)) : (passM (ordL m0 (m0 3).toNat) m).1 = s_tick m := by
  have hn := (Iv_iff.mp h).1.n
  have e : ∀ k, (k < 5 ∨ 53 ≤ k) → s_clean m (m 2) k = m k := fun k hk => s_clean_ne (by omega)
  have e3 := e 3 (by omega)
  have hf := ordL_filter (m := m0) (m' := s_clean m (m 2)) (n := (m0 3).toNat) (fun b b0 b1 => by rw [e _ (by omega)]; exact hp b b0 (by omega)) (fun b b0 b1 q => by rw [e _ (by omega)] at q; exact ha b b0 (by omega) q)
  have hM := foldM_filter (ordL m0 (m0 3).toNat) (s_clean m (m 2), clM m (m 2).toNat) W (clean_Iv h) ordL_nd (fun c hc => by
    have := (ordL_mem.mp hc).1
    simp only
    omega)
  unfold passM s_tick
  try dsimp only
  rw [hM, e3, h3, ← hf]
def stuck (m : Int → Int) : Prop := clM m (m 2).toNat = 0 ∧ ∀ c, 0 ≤ c → c < m 3 → (m (548 + 10 * c + 5) = 1 ∨ m (548 + 10 * c + 5) = 3) → mvdZ m c = 0
theorem clean_0 {m : Int → Int} {W : Int} (h : Iv m W) (h0 : clM m (m 2).toNat = 0) : s_clean m (m 2) = m := by
  have hn := (Iv_iff.mp h).1.n
  funext k
  unfold s_clean
  split
  · next hk =>
    have h1 := clM_0 h0 ((k - 5) / 6) (by omega) (by omega)
    have hu := (Iv_iff.mp h).1.u (u := (k - 5) / 6) (by omega) (by omega)
    unfold okU at hu
    have ek : 5 + 6 * ((k - 5) / 6) + 4 = k - 0 := by omega
    rw [show 5 + 6 * ((k - 5) / 6) + 4 = k by omega] at h1 hu
    rw [if_neg h1]
    omega
  · rfl
theorem step_1 : ∀ (R : List Int) (s : (Int → Int) × Int), s.2 = 1 → (R.foldl stepM s).2 = 1
  | [], s, h => h
  | c :: R, s, h => by
    refine step_1 R (stepM s c) ?_
    unfold stepM
    split
    · simp only
      split
      · rfl
      · exact h
    · exact h
theorem step_0 {m : Int → Int} : ∀ (R : List Int), (R.foldl stepM (m, 0)).2 ≠ 1 → ∀ c ∈ R, (m (548 + 10 * c + 5) = 1 ∨ m (548 + 10 * c + 5) = 3) → mvdZ m c = 0
  | [], _, c, hc, _ => by cases hc
  | d :: R, h, c, hc, ha => by
    have h' : (R.foldl stepM (stepM (m, 0) d)).2 ≠ 1 := h
    have hs : stepM (m, 0) d = (m, 0) := by
      have hne : (stepM (m, 0) d).2 ≠ 1 := fun q => h' (step_1 R _ q)
      unfold stepM at hne ⊢
      split
      · next hd =>
        rw [if_pos hd] at hne
        simp only at hne
        have hz : mvdZ m d = 0 := by
          rcases mvdZ_rg m d with q | q
          · exact q
          · rw [if_pos q] at hne; exact absurd rfl hne
        rw [mvdZ_0 hz]
        simp only [hz]
        rfl
      · rfl
    rw [hs] at h'
    rcases List.mem_cons.mp hc with e | e
    · subst e
      have hne : (stepM (m, 0) c).2 ≠ 1 := by rw [hs]; exact (by decide : (0 : Int) ≠ 1)
      unfold stepM at hne
      rw [if_pos ha] at hne
      simp only at hne
      rcases mvdZ_rg m c with q | q
      · exact q
      · rw [if_pos q] at hne; exact absurd rfl hne
    · exact step_0 R h' c e ha
theorem passM_stuck {m : Int → Int} {W : Int} {l : List Int} (h : Iv m W) (hl : ∀ c, 0 ≤ c → c < m 3 → (m (548 + 10 * c + 5) = 1 ∨ m (548 + 10 * c + 5) = 3) → c ∈ l) (h0 : (passM l m).2 ≠ 1) : stuck m := by
  have h1 : (l.foldl stepM (s_clean m (m 2), clM m (m 2).toNat)).2 ≠ 1 := h0
  have hc : clM m (m 2).toNat = 0 := by
    rcases clM_rg m (m 2).toNat with q | q
    · exact q
    · exact absurd (step_1 l _ q) h1
  rw [hc, clean_0 h hc] at h1
  exact ⟨hc, fun c c0 c1 ha => step_0 l h1 c (hl c c0 c1 ha) ha⟩
theorem foldl_stuck {m : Int → Int} : ∀ (l : List Int), (∀ c ∈ l, s_work m c = m) → l.foldl s_work m = m
  | [], _ => rfl
  | c :: l, h => by
    show l.foldl s_work (s_work m c) = m
    rw [h c List.mem_cons_self]
    exact foldl_stuck l (fun d hd => h d (List.mem_cons_of_mem _ hd))
theorem stuck_tick {m : Int → Int} {W : Int} (h : Iv m W) (hs : stuck m) : s_tick m = up m 1 (m 1 + 1) := by
  have hn := (Iv_iff.mp h).1.n
  unfold s_tick
  try dsimp only
  rw [clean_0 h hs.1, foldl_stuck _ (fun c hc => by
    obtain ⟨c1, c2⟩ := ordL_mem.mp hc
    exact mvdZ_0 (hs.2 c c1.1 (by omega) c2))]
theorem lowU_congr {p q : Int → Prop} [DecidablePred p] [DecidablePred q] : ∀ (n : Nat) (u : Int), 0 ≤ u → (∀ x, u ≤ x → (p x ↔ q x)) → lowU p n u = lowU q n u
  | 0, _, _, _ => rfl
  | n + 1, u, hu, h => by
    unfold lowU
    by_cases hp : p u
    · rw [if_pos hp, if_pos ((h u (Int.le_refl _)).mp hp)]
    · rw [if_neg hp, if_neg (fun z => hp ((h u (Int.le_refl _)).mpr z))]
      exact lowU_congr n (u + 1) (by omega) (fun x hx => h x (by omega))
theorem clM_congr {m m' : Int → Int} (e : ∀ k, k ≠ 1 → m' k = m k) : ∀ n : Nat, clM m' n = clM m n
  | 0 => rfl
  | n + 1 => by
    unfold clM
    rw [e (5 + 6 * (n : Int) + 4) (by omega), clM_congr e n]
theorem mvdZ_congr {m m' : Int → Int} {c : Int} (e : ∀ k, k ≠ 1 → m' k = m k) (hc : 0 ≤ c) (hb : -1 ≤ m (548 + 10 * c + 4)) (hg : 0 ≤ pgB m c) (h6 : 0 ≤ m (548 + 10 * c + 6)) : mvdZ m' c = mvdZ m c := by
  have e4 := e (548 + 10 * c + 4) (by omega)
  have e6 := e (548 + 10 * c + 6) (by omega)
  have e7 := e (548 + 10 * c + 7) (by omega)
  have e8 := e (548 + 10 * c + 8) (by omega)
  have e2 := e (548 + 10 * c + 2) (by omega)
  have e5 := e (548 + 10 * m (548 + 10 * c + 4) + 5) (by omega)
  have ep : pgB m' c = pgB m c := pgB_eq (e _ (by omega)) (e _ (by omega))
  have eph : phB m' c (m' (548 + 10 * c + 6)) = phB m c (m (548 + 10 * c + 6)) := by
    rw [e6]
    unfold phB
    rw [ep]
    exact e _ (by omega)
  have eu : s_uFor m' 0 c ((phB m c (m (548 + 10 * c + 6))) % 4) = s_uFor m 0 c ((phB m c (m (548 + 10 * c + 6))) % 4) := by
    unfold s_uFor
    rw [e 2 (by omega)]
    exact lowU_congr _ 0 (by omega) (fun x hx => by
      rw [e2, e (5 + 6 * x + 0) (by omega), e (5 + 6 * x + 1) (by omega), e (5 + 6 * x + 2) (by omega), e (5 + 6 * x + 3) (by omega), e (5 + 6 * x + 4) (by omega)])
  have w1 : (m' (548 + 10 * c + 6) = 0 ∧ m' (548 + 10 * c + 7) = 0 ∧ m' (548 + 10 * c + 4) ≠ -1 ∧ m' (548 + 10 * m' (548 + 10 * c + 4) + 5) ≠ 6) ↔ (m (548 + 10 * c + 6) = 0 ∧ m (548 + 10 * c + 7) = 0 ∧ m (548 + 10 * c + 4) ≠ -1 ∧ m (548 + 10 * m (548 + 10 * c + 4) + 5) ≠ 6) := by rw [e6, e7, e4, e5]
  have w3 : ((phB m' c (m' (548 + 10 * c + 6)) / 512 % 4 - 1) ≠ -1 ∧ m' (53 + (phB m' c (m' (548 + 10 * c + 6)) / 512 % 4 - 1)) ≠ -1 ∧ m' (53 + (phB m' c (m' (548 + 10 * c + 6)) / 512 % 4 - 1)) ≠ c) ↔ ((phB m c (m (548 + 10 * c + 6)) / 512 % 4 - 1) ≠ -1 ∧ m (53 + (phB m c (m (548 + 10 * c + 6)) / 512 % 4 - 1)) ≠ -1 ∧ m (53 + (phB m c (m (548 + 10 * c + 6)) / 512 % 4 - 1)) ≠ c) := wShr_eq eph (fun z => e _ (by omega))
  unfold mvdZ
  rw [eph, eu, e8]
  by_cases q1 : (m (548 + 10 * c + 6) = 0 ∧ m (548 + 10 * c + 7) = 0 ∧ m (548 + 10 * c + 4) ≠ -1 ∧ m (548 + 10 * m (548 + 10 * c + 4) + 5) ≠ 6)
  · rw [if_pos q1, if_pos (w1.mpr q1)]
  · rw [if_neg q1, if_neg (fun z => q1 (w1.mp z))]
    by_cases q2 : m (548 + 10 * c + 8) = -1 ∧ s_uFor m 0 c ((phB m c (m (548 + 10 * c + 6))) % 4) = -1
    · rw [if_pos q2, if_pos q2]
    · rw [if_neg q2, if_neg q2]
      by_cases q8 : m (548 + 10 * c + 8) = -1
      · rw [if_pos q8, if_pos q8]
      · rw [if_neg q8, if_neg q8]
        by_cases q3 : ((phB m c (m (548 + 10 * c + 6)) / 512 % 4 - 1) ≠ -1 ∧ m (53 + (phB m c (m (548 + 10 * c + 6)) / 512 % 4 - 1)) ≠ -1 ∧ m (53 + (phB m c (m (548 + 10 * c + 6)) / 512 % 4 - 1)) ≠ c)
        · rw [if_pos q3, if_pos (by rw [eph] at w3; exact w3.mpr q3)]
        · rw [if_neg q3, if_neg (fun z => q3 (by rw [eph] at w3; exact w3.mp z))]
theorem stuck_up {m : Int → Int} {W v : Int} (h : Iv m W) (hs : stuck m) : stuck (up m 1 v) := by
  have hI := Iv_iff.mp h
  have e : ∀ k, k ≠ 1 → up m 1 v k = m k := fun k hk => up_ne hk
  refine ⟨?_, fun c c0 c1 ha => ?_⟩
  · rw [e 2 (by omega), clM_congr e]
    exact hs.1
  · rw [e 3 (by omega)] at c1
    rw [e _ (by omega)] at ha
    have hb := hI.1.b c0 c1
    have hp := (hI.1.page c0 c1).1
    unfold okB0 at hb
    rw [mvdZ_congr e c0 (by omega) hp.1 (by omega)]
    exact hs.2 c c0 c1 ha
/-- stuck: all that follows is as it is, but for the ticks -/
theorem stuck_all {m : Int → Int} {W : Int} : ∀ (n : Nat), Iv m W → stuck m → m 1 + n ≤ 60000 → stuck (s_ticks n m) ∧ ∀ k, k ≠ 1 → s_ticks n m k = m k
  | 0, _, h, _ => ⟨h, fun _ _ => rfl⟩
  | n + 1, hI, h, ht => by
    obtain ⟨h1, h2⟩ := stuck_all n hI h (by omega)
    have g0 := (ticks_E hI n (by omega)).1
    have e : s_ticks (n + 1) m = up (s_ticks n m) 1 (s_ticks n m 1 + 1) := stuck_tick g0 h1
    rw [e]
    exact ⟨stuck_up g0 h1, fun k hk => by rw [up_ne hk]; exact h2 k hk⟩
theorem ticks_add (m : Int → Int) (a : Nat) : ∀ b : Nat, s_ticks (a + b) m = s_ticks b (s_ticks a m)
  | 0 => rfl
  | b + 1 => by
    show s_tick (s_ticks (a + b) m) = s_tick (s_ticks b (s_ticks a m))
    rw [ticks_add m a b]
theorem to_never {m : Int → Int} {b : Int} : ∀ (f n : Nat), (∀ j : Nat, j ≤ f → (s_ticks (n + j) m) (548 + 10 * b + 5) ≠ 6) → s_to m b f n = -4
  | 0, n, h => by
    unfold s_to
    have h0 := h 0 (Nat.le_refl _)
    rw [Nat.add_zero] at h0
    rw [if_neg h0]
  | f + 1, n, h => by
    unfold s_to
    have h0 := h 0 (by omega)
    rw [Nat.add_zero] at h0
    rw [if_neg h0]
    exact to_never f (n + 1) (fun j hj => by
      have := h (j + 1) (by omega)
      rw [show n + 1 + j = n + (j + 1) by omega]
      exact this)
theorem to_stuck {m : Int → Int} {W b : Int} {f n : Nat} (h : Iv m W) (ht : m 1 + n + f ≤ 60000) (b0 : 0 ≤ b) (hs : stuck (s_ticks n m)) (h6 : (s_ticks n m) (548 + 10 * b + 5) ≠ 6) : s_to m b f n = -4 := by
  refine to_never f n (fun j hj => ?_)
  obtain ⟨g0, g1, -⟩ := ticks_E h n (by omega)
  rw [ticks_add, (stuck_all j g0 hs (by rw [g1]; omega)).2 _ (by omega)]
  exact h6
theorem to_idle {m : Int → Int} {W b : Int} {f n : Nat} (h : Iv m W) (ht : m 1 + n + f ≤ 60000) (b0 : 0 ≤ b) (b1 : b < m 3) (hs : ¬ s_actv (s_ticks n m) b) (h6 : (s_ticks n m) (548 + 10 * b + 5) ≠ 6) : s_to m b f n = -4 := by
  refine to_never f n (fun j hj => ?_)
  obtain ⟨g0, g1, g2, -⟩ := ticks_E h n (by omega)
  obtain ⟨-, -, -, -, k4, -⟩ := ticks_E g0 j (by rw [g1]; omega)
  rw [ticks_add, k4 b 5 b0 (by rw [g2 3 (by omega)]; exact b1) hs (by omega) (by omega)]
  exact h6

/-! ===== a tick, many ticks ===== -/
theorem clean_Iv {m : Int → Int} {W : Int} (h : Iv m W) : Iv (s_clean m (m 2)) W := by
  rw [Iv_iff] at h ⊢
  obtain ⟨h0, h1, h2⟩ := h
  have hn := h0.n
  have e : ∀ k, (k < 5 ∨ 53 ≤ k) → s_clean m (m 2) k = m k := fun k hk => s_clean_ne (by omega)
  refine ⟨h0.clean, fun b b0 b1 => ?_, ?_⟩
  · rw [e 3 (by omega)] at b1
    exact (h1 b b0 b1).fr (h0.b b0 b1) ⟨(h0.page b0 b1).1, (h0.page b0 b1).2.1⟩ (e _ (by omega)) (e _ (by omega)) (fun q => by rw [← e _ (by omega)]; exact q) (e _ (by omega)) (by rw [e _ (by omega)]; omega) (fun k k0 k1 => e _ (by omega))
  · exact h2.fr (x := -1) (fun b b0 b1 => by have := h0.b b0 b1; unfold okB0 at this; omega) (e _ (by omega)) (fun b b0 b1 => e _ (by omega)) (fun b b0 b1 _ => e _ (by omega)) (by omega)
def s_actv (m : Int → Int) (b : Int) : Prop := m (548 + 10 * b + 5) = 1 ∨ m (548 + 10 * b + 5) = 3
theorem fold_E : ∀ (L : List Int) (m : Int → Int) (W : Int), Iv m W → L.Nodup → (∀ c ∈ L, (0 ≤ c ∧ c < m 3) ∧ s_actv m c) → Iv (L.foldl s_work m) (W + L.length) ∧ (∀ k, (k < 4 ∨ 56 ≤ k) → (k < 668 ∨ 788 ≤ k) → (∀ c ∈ L, k < 548 + 10 * c + 5 ∨ 548 + 10 * c + 10 ≤ k) → L.foldl s_work m k = m k) ∧
    ∀ y, 0 ≤ y → y < m 3 → (L.foldl s_work m) (548 + 10 * y + 5) = m (548 + 10 * y + 5) ∨ ((m (548 + 10 * y + 5) = 1 ∨ m (548 + 10 * y + 5) = 3) ∧ ((L.foldl s_work m) (548 + 10 * y + 5) = 4 ∨ (L.foldl s_work m) (548 + 10 * y + 5) = 6))
  | [], m, W, h, _, _ => ⟨by simpa using h, fun _ _ _ _ => rfl, fun _ _ _ => Or.inl rfl⟩
  | c :: L, m, W, h, hnd, hL => by
    obtain ⟨n1, n2⟩ := List.nodup_cons.mp hnd
    obtain ⟨hc, ha⟩ := hL c List.mem_cons_self
    have hE := work_wE h hc.1 hc.2 ha
    have hI := wE_Iv hE h hc.1 hc.2 ha
    obtain ⟨e1, -, -, e5⟩ := hE
    have hn := (Iv_iff.mp h).1.n
    obtain ⟨g1, g2, g3⟩ := fold_E L (s_work m c) (W + 1) hI n2 (fun d hd => by
      obtain ⟨d1, d2⟩ := hL d (List.mem_cons_of_mem _ hd)
      have hne : d ≠ c := fun q => n1 (by rw [← q]; exact hd)
      refine ⟨by rw [e1 3 (by omega) (by omega) (by omega)]; exact d1, ?_⟩
      unfold s_actv
      rw [e1 _ (by omega) (by omega) (by omega)]
      exact d2)
    refine ⟨?_, fun k k1 k2 k3 => ?_, fun y y0 y1 => ?_⟩
    · have : W + ((c :: L).length : Int) = W + 1 + L.length := by rw [List.length_cons]; omega
      rw [this]
      exact g1
    · show L.foldl s_work (s_work m c) k = _
      rw [g2 k k1 k2 (fun d hd => k3 d (List.mem_cons_of_mem _ hd)), e1 k k1 k2 (k3 c List.mem_cons_self)]
    · have := g3 y y0 (by rw [e1 3 (by omega) (by omega) (by omega)]; exact y1)
      show (L.foldl s_work (s_work m c)) (548 + 10 * y + 5) = _ ∨ (_ ∧ ((L.foldl s_work (s_work m c)) (548 + 10 * y + 5) = 4 ∨ (L.foldl s_work (s_work m c)) (548 + 10 * y + 5) = 6))
      by_cases ey : y = c
      · subst ey
        unfold s_actv at ha
        omega
      · have ee : (s_work m c) (548 + 10 * y + 5) = m (548 + 10 * y + 5) := e1 _ (by omega) (by omega) (by omega)
        omega
/-- what a tick does -/
theorem tick_E {m : Int → Int} {W : Int} (h : Iv m W) (ht : m 1 ≤ 59999) : Iv (s_tick m) (W + 12) ∧ s_tick m 1 = m 1 + 1 ∧ (∀ k, (k = 0 ∨ k = 2 ∨ k = 3 ∨ (56 ≤ k ∧ k < 548)) → s_tick m k = m k) ∧ (∀ y w, 0 ≤ y → y < m 3 → 0 ≤ w → w < 5 → s_tick m (548 + 10 * y + w) = m (548 + 10 * y + w)) ∧ (∀ y w, 0 ≤ y → y < m 3 → ¬ s_actv m y → 0 ≤ w → w < 10 → s_tick m (548 + 10 * y + w) = m (548 + 10 * y + w)) ∧
    ∀ y, 0 ≤ y → y < m 3 → (s_tick m) (548 + 10 * y + 5) = m (548 + 10 * y + 5) ∨ ((m (548 + 10 * y + 5) = 1 ∨ m (548 + 10 * y + 5) = 3) ∧ ((s_tick m) (548 + 10 * y + 5) = 4 ∨ (s_tick m) (548 + 10 * y + 5) = 6)) := by
  have hc := clean_Iv h
  have hn := (Iv_iff.mp h).1.n
  have e : ∀ k, (k < 5 ∨ 53 ≤ k) → s_clean m (m 2) k = m k := fun k hk => s_clean_ne (by omega)
  have e3 := e 3 (by omega)
  have hm : ∀ c, c ∈ ordL (s_clean m (m 2)) (s_clean m (m 2) 3).toNat → (0 ≤ c ∧ c < s_clean m (m 2) 3) ∧ s_actv (s_clean m (m 2)) c := fun c hc => by
    obtain ⟨c1, c2⟩ := ordL_mem.mp hc
    exact ⟨⟨c1.1, by omega⟩, c2⟩
  obtain ⟨g1, g2, g3⟩ := fold_E _ (s_clean m (m 2)) W hc (ordL_nd (n := (s_clean m (m 2) 3).toNat)) hm
  have hl := ordL_len (m := s_clean m (m 2)) (n := (s_clean m (m 2) 3).toNat)
  have hcl : ∀ c, c ∈ ordL (s_clean m (m 2)) (s_clean m (m 2) 3).toNat → 0 ≤ c ∧ c < 12 ∧ s_actv m c := fun c hc => by
    obtain ⟨c1, c2⟩ := hm c hc
    refine ⟨c1.1, by omega, ?_⟩
    unfold s_actv at c2 ⊢
    rw [e _ (by omega)] at c2
    exact c2
  generalize hL : ordL (s_clean m (m 2)) (s_clean m (m 2) 3).toNat = L at *
  have eT : s_tick m = up (L.foldl s_work (s_clean m (m 2))) 1 (L.foldl s_work (s_clean m (m 2)) 1 + 1) := by
    unfold s_tick
    try dsimp only
    rw [hL]
  generalize hF : L.foldl s_work (s_clean m (m 2)) = F at *
  have f1 : F 1 = m 1 := by rw [g2 1 (by omega) (by omega) (fun c hc => by have := hcl c hc; omega), e 1 (by omega)]
  have ek : ∀ k, k ≠ 1 → (k < 4 ∨ 56 ≤ k) → (k < 668 ∨ 788 ≤ k) → (∀ c ∈ L, k < 548 + 10 * c + 5 ∨ 548 + 10 * c + 10 ≤ k) → s_tick m k = m k := fun k k0 k1 k2 k3 => by
    rw [eT, up_ne k0, g2 k k1 k2 k3, e k (by omega)]
  refine ⟨?_, by rw [eT, up_eq rfl, f1], fun k hk => ek k (by omega) (by omega) (by omega) (fun c hc => by have := hcl c hc; omega), fun y w y0 y1 w0 w1 => ek _ (by omega) (by omega) (by omega) (fun c hc => by have := hcl c hc; omega), fun y w y0 y1 hna w0 w1 => ek _ (by omega) (by omega) (by omega) (fun c hc => by
      have hcc := hcl c hc
      have : y ≠ c := fun q => hna (by rw [q]; exact hcc.2.2)
      omega), fun y y0 y1 => ?_⟩
  · rw [eT]
    rw [Iv_iff] at g1 ⊢
    obtain ⟨k0, k1, k2⟩ := g1
    have hnF := k0.n
    refine ⟨(k0.mono (W' := W + 12) (by omega)).time (by omega), fun b b0 b1 => ?_, ?_⟩
    · rw [up_ne (by omega)] at b1
      exact (k1 b b0 b1).fr (k0.b b0 b1) ⟨(k0.page b0 b1).1, (k0.page b0 b1).2.1⟩ (up_ne (by omega)) (up_ne (by omega)) (fun q => by rw [← up_ne (f := F) (k := 1) (v := F 1 + 1) (show 548 + 10 * b + 5 ≠ 1 by omega)]; exact q) (up_ne (by omega)) (by rw [up_ne (by omega)]; omega) (fun k k0 k1 => up_ne (by omega))
    · exact k2.fr (x := -1) (fun b b0 b1 => by have := k0.b b0 b1; unfold okB0 at this; omega) (up_ne (by omega)) (fun b b0 b1 => up_ne (by omega)) (fun b b0 b1 _ => up_ne (by omega)) (by omega)
  · have := g3 y y0 (by omega)
    rw [eT, up_ne (by omega)]
    rw [e _ (by omega)] at this
    exact this
/-! ===== a tick, many ticks ===== -/
theorem clean_Iv {m : Int → Int} {W : Int} (h : Iv m W) : Iv (s_clean m (m 2)) W := by
  rw [Iv_iff] at h ⊢
  obtain ⟨h0, h1, h2⟩ := h
  have hn := h0.n
  have e : ∀ k, (k < 5 ∨ 53 ≤ k) → s_clean m (m 2) k = m k := fun k hk => s_clean_ne (by omega)
  refine ⟨h0.clean, fun b b0 b1 => ?_, ?_⟩
  · rw [e 3 (by omega)] at b1
    exact (h1 b b0 b1).fr (h0.b b0 b1) ⟨(h0.page b0 b1).1, (h0.page b0 b1).2.1⟩ (e _ (by omega)) (e _ (by omega)) (fun q => by rw [← e _ (by omega)]; exact q) (e _ (by omega)) (by rw [e _ (by omega)]; omega) (fun k k0 k1 => e _ (by omega))
  · exact h2.fr (x := -1) (fun b b0 b1 => by have := h0.b b0 b1; unfold okB0 at this; omega) (e _ (by omega)) (fun b b0 b1 => e _ (by omega)) (fun b b0 b1 _ => e _ (by omega)) (by omega)
def s_actv (m : Int → Int) (b : Int) : Prop := m (548 + 10 * b + 5) = 1 ∨ m (548 + 10 * b + 5) = 3
theorem fold_E : ∀ (L : List Int) (m : Int → Int) (W : Int), Iv m W → L.Nodup → (∀ c ∈ L, (0 ≤ c ∧ c < m 3) ∧ s_actv m c) → Iv (L.foldl s_work m) (W + L.length) ∧ (∀ k, (k < 4 ∨ 56 ≤ k) → (k < 668 ∨ 788 ≤ k) → (∀ c ∈ L, k < 548 + 10 * c + 5 ∨ 548 + 10 * c + 10 ≤ k) → L.foldl s_work m k = m k) ∧
    ∀ y, 0 ≤ y → y < m 3 → (L.foldl s_work m) (548 + 10 * y + 5) = m (548 + 10 * y + 5) ∨ ((m (548 + 10 * y + 5) = 1 ∨ m (548 + 10 * y + 5) = 3) ∧ ((L.foldl s_work m) (548 + 10 * y + 5) = 4 ∨ (L.foldl s_work m) (548 + 10 * y + 5) = 6))
  | [], m, W, h, _, _ => ⟨by simpa using h, fun _ _ _ _ => rfl, fun _ _ _ => Or.inl rfl⟩
  | c :: L, m, W, h, hnd, hL => by
    obtain ⟨n1, n2⟩ := List.nodup_cons.mp hnd
    obtain ⟨hc, ha⟩ := hL c List.mem_cons_self
    have hE := work_wE h hc.1 hc.2 ha
    have hI := wE_Iv hE h hc.1 hc.2 ha
    obtain ⟨e1, -, -, e5⟩ := hE
    have hn := (Iv_iff.mp h).1.n
    obtain ⟨g1, g2, g3⟩ := fold_E L (s_work m c) (W + 1) hI n2 (fun d hd => by
      obtain ⟨d1, d2⟩ := hL d (List.mem_cons_of_mem _ hd)
      have hne : d ≠ c := fun q => n1 (by rw [← q]; exact hd)
      refine ⟨by rw [e1 3 (by omega) (by omega) (by omega)]; exact d1, ?_⟩
      unfold s_actv
      rw [e1 _ (by omega) (by omega) (by omega)]
      exact d2)
    refine ⟨?_, fun k k1 k2 k3 => ?_, fun y y0 y1 => ?_⟩
    · have : W + ((c :: L).length : Int) = W + 1 + L.length := by rw [List.length_cons]; omega
      rw [this]
      exact g1
    · show L.foldl s_work (s_work m c) k = _
      rw [g2 k k1 k2 (fun d hd => k3 d (List.mem_cons_of_mem _ hd)), e1 k k1 k2 (k3 c List.mem_cons_self)]
    · have := g3 y y0 (by rw [e1 3 (by omega) (by omega) (by omega)]; exact y1)
      show (L.foldl s_work (s_work m c)) (548 + 10 * y + 5) = _ ∨ (_ ∧ ((L.foldl s_work (s_work m c)) (548 + 10 * y + 5) = 4 ∨ (L.foldl s_work (s_work m c)) (548 + 10 * y + 5) = 6))
      by_cases ey : y = c
      · subst ey
        unfold s_actv at ha
        omega
      · have ee : (s_work m c) (548 + 10 * y + 5) = m (548 + 10 * y + 5) := e1 _ (by omega) (by omega) (by omega)
        omega
/-- what a tick does -/
theorem tick_E {m : Int → Int} {W : Int} (h : Iv m W) (ht : m 1 ≤ 59999) : Iv (s_tick m) (W + 12) ∧ s_tick m 1 = m 1 + 1 ∧ (∀ k, (k = 0 ∨ k = 2 ∨ k = 3 ∨ (56 ≤ k ∧ k < 548)) → s_tick m k = m k) ∧ (∀ y w, 0 ≤ y → y < m 3 → 0 ≤ w → w < 5 → s_tick m (548 + 10 * y + w) = m (548 + 10 * y + w)) ∧ (∀ y w, 0 ≤ y → y < m 3 → ¬ s_actv m y → 0 ≤ w → w < 10 → s_tick m (548 + 10 * y + w) = m (548 + 10 * y + w)) ∧
    ∀ y, 0 ≤ y → y < m 3 → (s_tick m) (548 + 10 * y + 5) = m (548 + 10 * y + 5) ∨ ((m (548 + 10 * y + 5) = 1 ∨ m (548 + 10 * y + 5) = 3) ∧ ((s_tick m) (548 + 10 * y + 5) = 4 ∨ (s_tick m) (548 + 10 * y + 5) = 6)) := by
  have hc := clean_Iv h
  have hn := (Iv_iff.mp h).1.n
  have e : ∀ k, (k < 5 ∨ 53 ≤ k) → s_clean m (m 2) k = m k := fun k hk => s_clean_ne (by omega)
  have e3 := e 3 (by omega)
  have hm : ∀ c, c ∈ ordL (s_clean m (m 2)) (s_clean m (m 2) 3).toNat → (0 ≤ c ∧ c < s_clean m (m 2) 3) ∧ s_actv (s_clean m (m 2)) c := fun c hc => by
    obtain ⟨c1, c2⟩ := ordL_mem.mp hc
    exact ⟨⟨c1.1, by omega⟩, c2⟩
  obtain ⟨g1, g2, g3⟩ := fold_E _ (s_clean m (m 2)) W hc (ordL_nd (n := (s_clean m (m 2) 3).toNat)) hm
  have hl := ordL_len (m := s_clean m (m 2)) (n := (s_clean m (m 2) 3).toNat)
  have hcl : ∀ c, c ∈ ordL (s_clean m (m 2)) (s_clean m (m 2) 3).toNat → 0 ≤ c ∧ c < 12 ∧ s_actv m c := fun c hc => by
    obtain ⟨c1, c2⟩ := hm c hc
    refine ⟨c1.1, by omega, ?_⟩
    unfold s_actv at c2 ⊢
    rw [e _ (by omega)] at c2
    exact c2
  generalize hL : ordL (s_clean m (m 2)) (s_clean m (m 2) 3).toNat = L at *
  have eT : s_tick m = up (L.foldl s_work (s_clean m (m 2))) 1 (L.foldl s_work (s_clean m (m 2)) 1 + 1) := by
    unfold s_tick
    try dsimp only
    rw [hL]
  generalize hF : L.foldl s_work (s_clean m (m 2)) = F at *
  have f1 : F 1 = m 1 := by rw [g2 1 (by omega) (by omega) (fun c hc => by have := hcl c hc; omega), e 1 (by omega)]
  have ek : ∀ k, k ≠ 1 → (k < 4 ∨ 56 ≤ k) → (k < 668 ∨ 788 ≤ k) → (∀ c ∈ L, k < 548 + 10 * c + 5 ∨ 548 + 10 * c + 10 ≤ k) → s_tick m k = m k := fun k k0 k1 k2 k3 => by
    rw [eT, up_ne k0, g2 k k1 k2 k3, e k (by omega)]
  refine ⟨?_, by rw [eT, up_eq rfl, f1], fun k hk => ek k (by omega) (by omega) (by omega) (fun c hc => by have := hcl c hc; omega), fun y w y0 y1 w0 w1 => ek _ (by omega) (by omega) (by omega) (fun c hc => by have := hcl c hc; omega), fun y w y0 y1 hna w0 w1 => ek _ (by omega) (by omega) (by omega) (fun c hc => by
      have hcc := hcl c hc
      have : y ≠ c := fun q => hna (by rw [q]; exact hcc.2.2)
      omega), fun y y0 y1 => ?_⟩
  · rw [eT]
    rw [Iv_iff] at g1 ⊢
    obtain ⟨k0, k1, k2⟩ := g1
    have hnF := k0.n
    refine ⟨(k0.mono (W' := W + 12) (by omega)).time (by omega), fun b b0 b1 => ?_, ?_⟩
    · rw [up_ne (by omega)] at b1
      exact (k1 b b0 b1).fr (k0.b b0 b1) ⟨(k0.page b0 b1).1, (k0.page b0 b1).2.1⟩ (up_ne (by omega)) (up_ne (by omega)) (fun q => by rw [← up_ne (f := F) (k := 1) (v := F 1 + 1) (show 548 + 10 * b + 5 ≠ 1 by omega)]; exact q) (up_ne (by omega)) (by rw [up_ne (by omega)]; omega) (fun k k0 k1 => up_ne (by omega))
    · exact k2.fr (x := -1) (fun b b0 b1 => by have := k0.b b0 b1; unfold okB0 at this; omega) (up_ne (by omega)) (fun b b0 b1 => up_ne (by omega)) (fun b b0 b1 _ => up_ne (by omega)) (by omega)
  · have := g3 y y0 (by omega)
    rw [eT, up_ne (by omega)]
    rw [e _ (by omega)] at this
    exact this
def PMo (G : xG) (b : Nat) (m : Int → Int) (ρ : Nat → Int → Int) (H : Heap) : Prop := ∃ o, PM G b m (ur ρ 4 o) H
theorem c_X7_tick {G : xG} {l : Launch} {b : Nat} {m : Int → Int} {ρ : Nat → Int → Int} {W : Int} (h1 : Iv m W) (hW : 0 ≤ W ∧ W ≤ 90000000) (ht : m 1 ≤ 59999) : CT G l yX7_tick cX7_tick 3 none ({ frames := 5, cells := 0, slots := 0, locals := 115 } : Room) 0 0 [.ref b] (PM G b m ρ) (pV (PMo G b (s_tick m) ρ)) (AM b) := by
  refine x_met1 (own := RX7) (nm := "tick") (L := [(0, .ref b)]) (by decide) rfl rfl (fun _ => rfl) (Nat.le_of_ble_eq_true rfl) rfl rfl ?_
  intro Γ B R
  have hn := h1.n
  have hc := clean_Iv h1
  have e3 : s_clean m (m 2) 3 = m 3 := s_clean_ne (by omega)
  have eT : s_tick m = (let m2 := (ordL (s_clean m (m 2)) (s_clean m (m 2) 3).toNat).foldl s_work (s_clean m (m 2)); up m2 1 (m2 1 + 1)) := rfl
  dsimp only at eT
  have hnd := ordL_nd (m := s_clean m (m 2)) (n := (s_clean m (m 2) 3).toNat)
  have hm : ∀ c, c ∈ ordL (s_clean m (m 2)) (s_clean m (m 2) 3).toNat → (0 ≤ c ∧ c < s_clean m (m 2) 3) ∧ s_actv (s_clean m (m 2)) c := fun c hc => by
    obtain ⟨c1, c2⟩ := ordL_mem.mp hc
    exact ⟨⟨c1.1, by omega⟩, c2⟩
  obtain ⟨s1, s2⟩ := sort_rep (m := s_clean m (m 2)) (od := ρ 4) (n := (s_clean m (m 2) 3).toNat)
  have hl := ordL_len (m := s_clean m (m 2)) (n := (s_clean m (m 2) 3).toNat)
  have f1 : (ordL (s_clean m (m 2)) (s_clean m (m 2) 3).toNat).foldl s_work (s_clean m (m 2)) 1 = m 1 := by
    obtain ⟨-, g2, -⟩ := fold_E _ (s_clean m (m 2)) W hc hnd hm
    rw [g2 1 (by omega) (by omega) (fun c hc => by have := hm c hc; omega), s_clean_ne (by omega)]
  generalize ordL (s_clean m (m 2)) (s_clean m (m 2) 3).toNat = L at *
  generalize hcm : s_clean m (m 2) = m1 at *
  generalize ho : (s_sort m1 (ρ 4) (m1 3).toNat).1 = o at *
  have loop : ∀ (R : List Int) (k : Nat) (mk : Int → Int) (W' : Int), k + R.length = L.length → (∀ i, i < R.length → R[i]? = some (o ((k + i : Nat) : Int))) → R.Nodup → (∀ c ∈ R, (0 ≤ c ∧ c < mk 3) ∧ s_actv mk c) → Iv mk W' → (0 ≤ W' ∧ W' + R.length ≤ 90000012) → R.foldl s_work mk = L.foldl s_work m1 → XJ Γ 0 0 (PM G b mk (ur ρ 4 o)) 11 [(0, .ref b), (1, vi (L.length : Int)), (2, vi (k : Int))] [] := by
    intro R
    induction R with
    | nil =>
      intro k mk W' hk hR hRn hRa hI hW' hf
      have hf' : mk = L.foldl s_work m1 := hf
      have e1 : mk 1 = m 1 := by rw [hf', f1]
      refine x_iload_n B dX7_tick_11 rfl ?_
      refine x_iload_n B dX7_tick_12 rfl ?_
      refine x_icmp_ge (tgt := 32) B dX7_tick_13 (by decide) (by omega) (by omega) (fun c13 => ?_) (fun c13 => ?_)
      · refine x_aload_n B dX7_tick_32 rfl ?_
        refine x_get B fgX7_7 dX7_tick_33 (fun _ h => ⟨_, PM.o h, rfl⟩) ?_
        refine x_iconst B dX7_tick_36 ?_
        refine x_dup2 B dX7_tick_37 rfl rfl ?_
        refine x_ialdR B dX7_tick_38 (by omega) (by decide) PM.am (fun r38 => ?_)
        refine x_iconst B dX7_tick_39 ?_
        refine x_iadd B dX7_tick_40 ?_
        refine x_iast B dX7_tick_41 (by omega) (by decide) (by unfold AM; omega) (PM.sm (by omega)) ?_
        exact x_retV B R dX7_tick_42 (fun H h => by rw [eT, ← hf']; exact ⟨o, h⟩)
      · exfalso; simp at hk; omega
    | cons c R ih =>
      intro k mk W' hk hR hRn hRa hI hW' hf
      have hk' : k < L.length := by rw [List.length_cons] at hk; omega
      obtain ⟨n1, n2⟩ := List.nodup_cons.mp hRn
      obtain ⟨hcr, hca⟩ := hRa c List.mem_cons_self
      have ec : o (k : Int) = c := by
        have := hR 0 (by rw [List.length_cons]; omega)
        simp only [List.getElem?_cons_zero, Nat.add_zero] at this
        exact (Option.some.inj this).symm
      have hE := work_wE hI hcr.1 hcr.2 hca
      have hI' := wE_Iv hE hI hcr.1 hcr.2 hca
      have hlen : ((c :: R).length : Int) = R.length + 1 := by rw [List.length_cons]; omega
      refine x_iload_n B dX7_tick_11 rfl ?_
      refine x_iload_n B dX7_tick_12 rfl ?_
      refine x_icmp_ge (tgt := 32) B dX7_tick_13 (by decide) (by omega) (by omega) (fun c13 => ?_) (fun c13 => ?_)
      · omega
      · refine x_aload_n B dX7_tick_16 rfl ?_
        refine x_aload_n B dX7_tick_17 rfl ?_
        refine x_get B fgX7_25 dX7_tick_18 (fun _ h => ⟨_, PM.o h, rfl⟩) ?_
        refine x_iload_n B dX7_tick_21 rfl ?_
        refine x_ialdR B dX7_tick_22 (by omega) (by decide) PM.b4 (fun r22 => ?_)
        refine x_top ec ?_
        refine x_mN B mvX7_202 (fun l => c_X7_work hI (by omega) (by omega) hca) dX7_tick_23 rfl rfl (by decide) (by decide) (Nat.le_of_ble_eq_true rfl) PM.rv ?_
        refine x_iinc B dX7_tick_26 rfl (by decide) ?_
        refine x_goto (tgt := 11) B dX7_tick_29 (by decide) ?_
        exact ih (k + 1) _ (W' + 1) (by rw [List.length_cons] at hk; omega) (fun i hi => by
          have := hR (i + 1) (by rw [List.length_cons]; omega)
          rw [List.getElem?_cons_succ] at this
          rw [this]
          congr 2
          omega) n2 (fun d hd => by
          obtain ⟨d1, d2⟩ := hRa d (List.mem_cons_of_mem _ hd)
          have hne : d ≠ c := fun q => n1 (by rw [← q]; exact hd)
          have hnk := (Iv_iff.mp hI).1.n
          refine ⟨by rw [hE.1 3 (by omega) (by omega) (by omega)]; exact d1, ?_⟩
          unfold s_actv
          rw [hE.1 _ (by omega) (by omega) (by omega)]
          exact d2) hI' (by omega) hf
  refine x_aload_n B dX7_tick_0 rfl ?_
  refine x_mN B mvX7_189 (fun l => c_X7_clean (by omega)) dX7_tick_1 rfl rfl (by decide) (by decide) (Nat.le_of_ble_eq_true rfl) PM.rv ?_
  rw [hcm]
  refine x_aload_n B dX7_tick_4 rfl ?_
  refine x_mV B mvX7_195 (fun l => c_X7_sort (by omega)) dX7_tick_5 rfl rfl (by decide) (by decide) (Nat.le_of_ble_eq_true rfl) PM.rv (fun r5 => ?_)
  rw [ho]
  refine x_top (show _ = (L.length : Int) by rw [s1]) ?_
  refine x_istore_n B dX7_tick_8 (by decide) ?_
  refine x_iconst B dX7_tick_9 ?_
  refine x_istore_n B dX7_tick_10 (by decide) ?_
  exact loop L 0 m1 W (by omega) (fun i hi => by rw [Nat.zero_add]; exact s2 i hi) hnd hm hc (by omega) rfl

/-! ===== the common value of the two objects between two calls ===== -/
def sv (ρ : Nat → Int → Int) (i : Int) : Int → Int := fun k => ρ 1 (788 * i + k)
def IL (m : Int → Int) (ρ : Nat → Int → Int) : Prop := Iv m (12 * m 1) ∧ m 1 ≤ 50000 ∧ Ir ρ ∧ okT (ρ 2) (ρ 5 1) ∧ (∀ i, 0 ≤ i → i < ρ 5 0 → Iv (sv ρ i) (12 * sv ρ i 1) ∧ sv ρ i 1 ≤ 50000 ∧ ∀ r, 0 ≤ r → r < 6 → sv ρ i (56 + r) ≤ m (56 + r)) ∧ ∀ i j r, 0 ≤ i → i ≤ j → j < ρ 5 0 → 0 ≤ r → r < 6 → sv ρ i (56 + r) ≤ sv ρ j (56 + r)
theorem IL.eqR {m : Int → Int} {ρ ρ' : Nat → Int → Int} (h : IL m ρ) (e : eqR ρ ρ') : IL m ρ' := by
  obtain ⟨e1, e2, e3, e4⟩ := e
  have es : ∀ i, sv ρ' i = sv ρ i := fun i => by unfold sv; rw [e1]
  obtain ⟨h1, h2, h3, h4, h5, h6⟩ := h
  unfold Ir at h3
  refine ⟨h1, h2, ?_, by rw [e2, e4]; exact h4, fun i a b => ?_, fun i j r a b c d e => ?_⟩
  · unfold Ir; rw [e3, e4]; exact h3
  · rw [es]; exact h5 i a (by omega)
  · rw [es, es]; exact h6 i j r a b (by omega) d e
theorem keep_n {m : Int → Int} {ρ : Nat → Int → Int} : s_keep m ρ 5 0 = if ρ 5 0 = 4 then 4 else ρ 5 0 + 1 := by
  unfold s_keep
  split
  · next h => rw [ur_ne (by decide), h]
  · rw [ur_eq, up_eq rfl]
theorem keep_2 {m : Int → Int} {ρ : Nat → Int → Int} : s_keep m ρ 2 = ρ 2 ∧ s_keep m ρ 5 1 = ρ 5 1 := by
  unfold s_keep
  split
  · exact ⟨ur_ne (by decide), by rw [ur_ne (by decide)]⟩
  · exact ⟨by rw [ur_ne (by decide), ur_ne (by decide)], by rw [ur_eq, up_ne (by omega)]⟩
theorem keep_sv {m : Int → Int} {ρ : Nat → Int → Int} (h : 0 ≤ ρ 5 0 ∧ ρ 5 0 ≤ 4) {i k : Int} (i0 : 0 ≤ i) (i1 : i < s_keep m ρ 5 0) (k0 : 0 ≤ k) (k1 : k < 788) : sv (s_keep m ρ) i k = if i = s_keep m ρ 5 0 - 1 then m k else sv ρ (if ρ 5 0 = 4 then i + 1 else i) k := by
  rw [keep_n] at i1 ⊢
  unfold sv s_keep
  by_cases h4 : ρ 5 0 = 4
  · rw [if_pos h4, if_pos h4, if_pos h4, ur_eq] at *
    unfold cpyN s_shift
    by_cases e : i = 4 - 1
    · rw [if_pos e, if_pos (by omega)]
      congr 1
      omega
    · rw [if_neg e, if_neg (by omega), if_pos (by omega)]
      congr 1
      omega
  · rw [if_neg h4, if_neg h4, if_neg h4] at *
    rw [ur_ne (by decide), ur_eq]
    unfold cpyN
    by_cases e : i = ρ 5 0 + 1 - 1
    · rw [if_pos e, if_pos (by omega)]
      congr 1
      omega
    · rw [if_neg e, if_neg (by omega)]
theorem IL_keep {m m' : Int → Int} {ρ : Nat → Int → Int} (h : IL m ρ) (h1 : Iv m' (12 * m' 1)) (h2 : m' 1 ≤ 50000) (h3 : ∀ r, 0 ≤ r → r < 6 → m (56 + r) ≤ m' (56 + r)) : IL m' (s_keep m ρ) := by
  obtain ⟨g1, g2, g3, g4, g5, g6⟩ := h
  have hr := g3
  unfold Ir at hr
  have hn := keep_n (m := m) (ρ := ρ)
  have hs : ∀ i, 0 ≤ i → i < s_keep m ρ 5 0 → ∀ k, 0 ≤ k → k < 788 → sv (s_keep m ρ) i k = if i = s_keep m ρ 5 0 - 1 then m k else sv ρ (if ρ 5 0 = 4 then i + 1 else i) k := fun i i0 i1 k k0 k1 => keep_sv hr.1 i0 i1 k0 k1
  have hj : ∀ i, 0 ≤ i → i < s_keep m ρ 5 0 → i ≠ s_keep m ρ 5 0 - 1 → 0 ≤ (if ρ 5 0 = 4 then i + 1 else i) ∧ (if ρ 5 0 = 4 then i + 1 else i) < ρ 5 0 := fun i i0 i1 ie => by
    split
    · next q => rw [if_pos q] at hn; omega
    · next q => rw [if_neg q] at hn; omega
  refine ⟨h1, h2, ?_, by rw [keep_2.1, keep_2.2]; exact g4, fun i i0 i1 => ?_, fun i j r i0 ij j1 r0 r1 => ?_⟩
  · unfold Ir
    rw [keep_2.2]
    refine ⟨?_, hr.2⟩
    rw [hn]
    split <;> omega
  · by_cases e : i = s_keep m ρ 5 0 - 1
    · have es : ∀ k, 0 ≤ k → k < 788 → sv (s_keep m ρ) i k = m k := fun k k0 k1 => by rw [hs i i0 i1 k k0 k1, if_pos e]
      rw [es 1 (by omega) (by omega)]
      exact ⟨Iv_congr g1 es, g2, fun r r0 r1 => by rw [es _ (by omega) (by omega)]; exact h3 r r0 r1⟩
    · obtain ⟨q0, q1⟩ := hj i i0 i1 e
      have es : ∀ k, 0 ≤ k → k < 788 → sv (s_keep m ρ) i k = sv ρ (if ρ 5 0 = 4 then i + 1 else i) k := fun k k0 k1 => by rw [hs i i0 i1 k k0 k1, if_neg e]
      obtain ⟨f1, f2, f3⟩ := g5 _ q0 q1
      rw [es 1 (by omega) (by omega)]
      refine ⟨Iv_congr f1 es, f2, fun r r0 r1 => ?_⟩
      rw [es _ (by omega) (by omega)]
      have := f3 r r0 r1
      have := h3 r r0 r1
      omega
  · have ei : sv (s_keep m ρ) i (56 + r) = _ := hs i i0 (by omega) (56 + r) (by omega) (by omega)
    have ej : sv (s_keep m ρ) j (56 + r) = _ := hs j (by omega) j1 (56 + r) (by omega) (by omega)
    rw [ei, ej]
    by_cases e1 : i = s_keep m ρ 5 0 - 1
    · rw [if_pos e1, if_pos (by omega)]
      exact Int.le_refl _
    · obtain ⟨q0, q1⟩ := hj i i0 (by omega) e1
      rw [if_neg e1]
      by_cases e2 : j = s_keep m ρ 5 0 - 1
      · rw [if_pos e2]
        exact (g5 _ q0 q1).2.2 r r0 r1
      · obtain ⟨p0, p1⟩ := hj j (by omega) j1 e2
        rw [if_neg e2]
        exact g6 _ _ r q0 (by split <;> omega) p1 r0 r1
theorem IL_same {m m' : Int → Int} {ρ : Nat → Int → Int} (h : IL m ρ) (h1 : Iv m' (12 * m 1)) (e1 : m' 1 = m 1) (h3 : ∀ k, 56 ≤ k → k < 62 → m' k = m k) : IL m' (s_keep m ρ) :=
  IL_keep h (by rw [e1]; exact h1) (by rw [e1]; exact h.2.1) (fun r r0 r1 => by rw [h3 _ (by omega) (by omega)]; exact Int.le_refl _)
section ILO
variable {m : Int → Int} {ρ : Nat → Int → Int}
theorem IL_unit (h : IL m ρ) {x y : Int} : IL (o_unit m ρ x y).2.1 (o_unit m ρ x y).2.2 := by
  have hn := (Iv_iff.mp h.1).1.n
  unfold o_unit
  split
  · exact h
  · split
    · exact h
    · refine IL_same h (Iv_unit h.1 (by omega) (by omega) (by omega) (by omega)) ?_ (fun k k0 k1 => ?_)
      · unfold s_unit
        try dsimp only
        rw [up_ne (by omega), up_ne (by omega), up_ne (by omega), up_ne (by omega), up_ne (by omega), up_ne (by omega), up_ne (by omega)]
      · unfold s_unit
        try dsimp only
        rw [up_ne (by omega), up_ne (by omega), up_ne (by omega), up_ne (by omega), up_ne (by omega), up_ne (by omega), up_ne (by omega)]
theorem IL_wG (h : IL m ρ) {m' : Int → Int} {x : Int} (x0 : 0 ≤ x) (x1 : x < m 3) (hw : wG m m' x (12 * m 1)) : IL m' (s_keep m ρ) :=
  IL_same h (wG_Iv hw h.1 x0 x1) (hw.1 1 (by omega) (by omega) (by omega)) (fun k k0 k1 => hw.1 k (by omega) (by omega) (by omega))
theorem IL_fail (h : IL m ρ) {x : Int} : IL (o_fail m ρ x).2.1 (o_fail m ρ x).2.2 := by
  have hI := Iv_iff.mp h.1
  have hn := hI.1.n
  unfold o_fail
  split
  · exact h
  · next hx =>
    have hx : 0 ≤ x ∧ x ≤ m 2 - 1 := by omega
    have hb := Iv_brk h.1 (u := x) (v := 1) hx.1 (by omega) (by omega)
    have hu := hI.1.u (u := x) hx.1 (by omega)
    unfold okU at hu
    split
    · exact h
    · dsimp only
      split
      · exact IL_same h hb (up_ne (by omega)) (fun k k0 k1 => up_ne (by omega))
      · next hc =>
        have ec : ∀ k, (k < 5 ∨ 53 ≤ k) → up m (5 + 6 * x + 3) 1 k = m k := fun k hk => up_ne (by omega)
        have hw := holds_wG hb (x := m (5 + 6 * x + 2)) (by omega) (by rw [ec 3 (by omega)]; omega) (by rw [ec _ (by omega)]; omega)
        show IL (s_holds (up m (5 + 6 * x + 3) 1) (m (5 + 6 * x + 2))) (s_keep m ρ)
        exact IL_same h (wG_Iv hw hb (by omega) (by rw [ec 3 (by omega)]; omega)) (by rw [hw.1 1 (by omega) (by omega) (by omega), ec 1 (by omega)]) (fun k k0 k1 => by rw [hw.1 k (by omega) (by omega) (by omega), ec k (by omega)])
theorem IL_repair (h : IL m ρ) {x : Int} : IL (o_repair m ρ x).2.1 (o_repair m ρ x).2.2 := by
  have hI := Iv_iff.mp h.1
  have hn := hI.1.n
  unfold o_repair
  split
  · exact h
  · split
    · exact h
    · exact IL_same h (Iv_brk h.1 (u := x) (v := 0) (by omega) (by omega) (by omega)) (up_ne (by omega)) (fun k k0 k1 => up_ne (by omega))
theorem IL_setCleaning (h : IL m ρ) {x : Int} : IL (o_setCleaning m ρ x).2.1 (o_setCleaning m ρ x).2.2 := by
  unfold o_setCleaning
  split
  · exact h
  · show IL (up m 0 x) (s_keep m ρ)
    exact IL_same h (Iv_cln h.1 (by omega)) (up_ne (by omega)) (fun k k0 k1 => up_ne (by omega))
theorem IL_recipe (h : IL m ρ) {x : Int} : IL (o_recipe m ρ x).2.1 (o_recipe m ρ x).2.2 := by
  have hI := Iv_iff.mp h.1
  have ha := all_rg h.2.2.2.1
  unfold o_recipe
  split
  · exact h
  · split
    · exact h
    · next hx hz =>
      have hz : (t_all (ρ 2) (ρ 5 1)).1 = 0 := by omega
      split
      · exact h
      · have hvs := hI.1.vs (r := x) (by omega) (by omega)
        obtain ⟨r1, r2, r3, r4, -⟩ := Iv_recipe h.1 (r := x) (l := (t_all (ρ 2) (ρ 5 1)).2.2) (by omega) (by omega) (ha.2.2 hz).2 (ha.2.2 hz).1
        show IL (s_recipe m x (t_all (ρ 2) (ρ 5 1)).2.2) (s_keep m ρ)
        refine IL_keep h (by rw [r2 1 (by omega)]; exact r1) (by rw [r2 1 (by omega)]; exact h.2.1) (fun r r0 r1 => ?_)
        by_cases e : r = x
        · subst e; rw [r3]; omega
        · rw [r4 r r0 r1 e]; exact Int.le_refl _
theorem IL_batch (h : IL m ρ) {r sz pr bf : Int} : IL (o_batch m ρ r sz pr bf).2.1 (o_batch m ρ r sz pr bf).2.2 := by
  have hI := Iv_iff.mp h.1
  have hn := hI.1.n
  unfold o_batch
  split
  · exact h
  · split
    · exact h
    · split
      · exact h
      · refine IL_same h (Iv_batch h.1 (by omega) (by omega) (by omega) (by omega) (by omega) (by omega) (by omega)) ?_ (fun k k0 k1 => ?_)
        · unfold s_batch
          try dsimp only
          rw [up_ne (by omega), up_ne (by omega), up_ne (by omega), up_ne (by omega), up_ne (by omega), up_ne (by omega), up_ne (by omega), up_ne (by omega), up_ne (by omega), up_ne (by omega), up_ne (by omega)]
        · unfold s_batch
          try dsimp only
          rw [up_ne (by omega), up_ne (by omega), up_ne (by omega), up_ne (by omega), up_ne (by omega), up_ne (by omega), up_ne (by omega), up_ne (by omega), up_ne (by omega), up_ne (by omega), up_ne (by omega)]
theorem IL_start (h : IL m ρ) {x : Int} : IL (o_start m ρ x).2.1 (o_start m ρ x).2.2 := by
  unfold o_start
  split
  · exact h
  · split
    · exact h
    · exact IL_wG h (x := x) (by omega) (by omega) (st_wG h.1 (by omega) (by omega) (by omega) (by omega))
theorem IL_hold (h : IL m ρ) {x : Int} : IL (o_hold m ρ x).2.1 (o_hold m ρ x).2.2 := by
  unfold o_hold
  split
  · exact h
  · split
    · exact h
    · exact IL_wG h (x := x) (by omega) (by omega) (holds_wG h.1 (by omega) (by omega) (by omega))
theorem IL_restart (h : IL m ρ) {x : Int} : IL (o_restart m ρ x).2.1 (o_restart m ρ x).2.2 := by
  unfold o_restart
  split
  · exact h
  · dsimp only
    split
    · exact h
    · exact IL_wG h (x := x) (by omega) (by omega) (restart_wG h.1 (by omega) (by omega) (by omega))
theorem IL_stop (h : IL m ρ) {x : Int} : IL (o_stop m ρ x).2.1 (o_stop m ρ x).2.2 := by
  unfold o_stop
  split
  · exact h
  · split
    · exact h
    · split
      · exact IL_wG h (x := x) (by omega) (by omega) (st_wG h.1 (by omega) (by omega) (by omega) (by omega))
      · exact IL_wG h (x := x) (by omega) (by omega) (endsBy_wG h.1 (by omega) (by omega) (by omega))
theorem IL_abort (h : IL m ρ) {x : Int} : IL (o_abort m ρ x).2.1 (o_abort m ρ x).2.2 := by
  unfold o_abort
  split
  · exact h
  · split
    · exact h
    · obtain ⟨-, g1, ⟨g2, g3⟩, -⟩ := abort_E h.1 (b := x) (by omega) (by omega) (by omega)
      exact IL_same h g1 g2 (fun k k0 k1 => g3 k (by omega) (by omega))
theorem IL_priority (h : IL m ρ) {x y : Int} : IL (o_priority m ρ x y).2.1 (o_priority m ρ x y).2.2 := by
  unfold o_priority
  split
  · exact h
  · exact IL_same h (Iv_prio h.1 (by omega) (by omega) (by omega)) (up_ne (by omega)) (fun k k0 k1 => up_ne (by omega))
theorem IL_run (h : IL m ρ) {x : Int} : IL (o_run m ρ x).2.1 (o_run m ρ x).2.2 := by
  have hn := (Iv_iff.mp h.1).1.n
  unfold o_run
  split
  · exact h
  · split
    · exact h
    · obtain ⟨g0, g1, g2, -⟩ := ticks_E h.1 x.toNat (by omega)
      show IL (s_ticks x.toNat m) (s_keep m ρ)
      refine IL_keep h ?_ (by rw [g1]; omega) (fun r r0 r1 => by rw [g2 _ (by omega)]; exact Int.le_refl _)
      rw [g1, show 12 * (m 1 + (x.toNat : Int)) = 12 * m 1 + 12 * (x.toNat : Int) by omega]
      exact g0
theorem IL_undo (h : IL m ρ) : IL (o_undo m ρ).2.1 (o_undo m ρ).2.2 := by
  obtain ⟨g1, g2, g3, g4, g5, g6⟩ := h
  have hr := g3
  unfold Ir at hr
  unfold o_undo
  split
  · exact ⟨g1, g2, g3, g4, g5, g6⟩
  · dsimp only
    have es : ∀ k, 0 ≤ k → k < 788 → cpyN (ρ 1) m (788 * (ρ 5 0 - 1)) 0 788 k = sv ρ (ρ 5 0 - 1) k := fun k k0 k1 => by
      unfold cpyN sv
      rw [if_pos (by omega)]
      congr 1
      omega
    have e5 : (ur ρ 5 (up (ρ 5) 0 (ρ 5 0 - 1))) 5 0 = ρ 5 0 - 1 := rfl
    have e51 : (ur ρ 5 (up (ρ 5) 0 (ρ 5 0 - 1))) 5 1 = ρ 5 1 := rfl
    obtain ⟨f1, f2, f3⟩ := g5 (ρ 5 0 - 1) (by omega) (by omega)
    refine ⟨?_, by rw [es 1 (by omega) (by omega)]; exact f2, ?_, g4, fun i i0 i1 => ?_, fun i j r i0 ij j1 r0 r1 => g6 i j r i0 ij (by rw [e5] at j1; omega) r0 r1⟩
    · rw [es 1 (by omega) (by omega)]
      exact Iv_congr f1 es
    · unfold Ir
      rw [e5, e51]
      omega
    · rw [e5] at i1
      obtain ⟨k1, k2, k3⟩ := g5 i i0 (by omega)
      refine ⟨k1, k2, fun r r0 r1 => ?_⟩
      rw [es _ (by omega) (by omega)]
      exact g6 i (ρ 5 0 - 1) r i0 (by omega) (by omega) r0 r1
theorem IL_type (h : IL m ρ) {x : Int} : IL (o_type m ρ x).2.1 (o_type m ρ x).2.2 := by
  obtain ⟨g1, g2, g3, g4, g5, g6⟩ := h
  have hr := g3
  unfold Ir at hr
  unfold o_type
  split
  · exact ⟨g1, g2, g3, g4, g5, g6⟩
  · split
    · exact ⟨g1, g2, g3, g4, g5, g6⟩
    · refine ⟨g1, g2, ?_, ?_, g5, g6⟩
      · unfold Ir
        show (0 ≤ ρ 5 0 ∧ ρ 5 0 ≤ 4) ∧ (0 ≤ ρ 5 1 + 1 ∧ ρ 5 1 + 1 ≤ 100)
        omega
      · show okT (up (ρ 2) (ρ 5 1) x) (ρ 5 1 + 1)
        refine ⟨by omega, fun k k0 k1 => ?_⟩
        unfold up
        split
        · omega
        · exact g4.2 k k0 (by omega)
theorem IL_clearText (h : IL m ρ) : IL (o_clearText m ρ).2.1 (o_clearText m ρ).2.2 := by
  obtain ⟨g1, g2, g3, g4, g5, g6⟩ := h
  unfold Ir at g3
  refine ⟨g1, g2, ?_, ⟨by show (0 : Int) ≤ 0 ∧ (0 : Int) ≤ 100; omega, fun k k0 k1 => ?_⟩, g5, g6⟩
  · unfold Ir
    show (0 ≤ ρ 5 0 ∧ ρ 5 0 ≤ 4) ∧ ((0 : Int) ≤ 0 ∧ (0 : Int) ≤ 100)
    omega
  · have : k < 0 := k1
    omega
end ILO

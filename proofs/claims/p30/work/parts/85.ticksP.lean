/-! ===== ticks of plant and journal; the order ===== -/
theorem p_cntB {m m' : Int → Int} {st : Int} : ∀ n : Nat, (∀ b : Int, 0 ≤ b → b < n → (m (548 + 10 * b + 5) = st → m' (548 + 10 * b + 5) = st)) → cntB m st n ≤ cntB m' st n
  | 0, _ => Int.le_refl _
  | n + 1, h => by
    have h1 := p_cntB n (fun b b0 b1 => h b b0 (by omega))
    have h2 := h n (by omega) (by omega)
    unfold cntB
    by_cases c : m (548 + 10 * (n : Int) + 5) = st
    · rw [if_pos c, if_pos (h2 c)]; omega
    · rw [if_neg c]
      split <;> omega
theorem p_cntBe {m m' : Int → Int} {st : Int} : ∀ n : Nat, (∀ b : Int, 0 ≤ b → b < n → m' (548 + 10 * b + 5) = m (548 + 10 * b + 5)) → cntB m' st n = cntB m st n
  | 0, _ => rfl
  | n + 1, h => by
    unfold cntB
    rw [p_cntBe n (fun b b0 b1 => h b b0 (by omega)), h n (by omega) (by omega)]
/-- one batch comes into the state, or leaves it -/
theorem p_cntB1 {m m' : Int → Int} {st x : Int} (hx : 0 ≤ x) (e : m (548 + 10 * x + 5) ≠ st) (e' : m' (548 + 10 * x + 5) = st) : ∀ n : Nat, x < n → (∀ b : Int, 0 ≤ b → b < n → b ≠ x → m' (548 + 10 * b + 5) = m (548 + 10 * b + 5)) → cntB m' st n = cntB m st n + 1
  | 0, h, _ => by omega
  | n + 1, hn, h => by
    unfold cntB
    by_cases c : x = n
    · rw [← c, if_neg e, if_pos e', p_cntBe n (fun b b0 b1 => h b b0 (by omega) (by omega))]
      omega
    · rw [p_cntB1 hx e e' n (by omega) (fun b b0 b1 bx => h b b0 (by omega) bx), h n (by omega) (by omega) (by omega)]
      omega
theorem ordL_cg {m m' : Int → Int} : ∀ n : Nat, (∀ b : Int, 0 ≤ b → b < n → m' (548 + 10 * b + 3) = m (548 + 10 * b + 3) ∧ m' (548 + 10 * b + 5) = m (548 + 10 * b + 5)) → ordL m' n = ordL m n
  | 0, _ => rfl
  | n + 1, h => by
    have ih := ordL_cg n (fun b b0 b1 => h b b0 (by omega))
    have hn := h n (by omega) (by omega)
    unfold ordL
    rw [hn.2, ih, insL_congr (m := m) (m' := m') (fun c hc => by
      rcases hc with hc | hc
      · rw [hc]; exact hn.1
      · have := (ordL_mem.mp hc).1
        exact (h c (by omega) (by omega)).1)]
/-- the order: descending priorities, ascending numbers -/
def lxL (m : Int → Int) (l : List Int) : Prop := l.Pairwise (fun a c => m (548 + 10 * c + 3) < m (548 + 10 * a + 3) ∨ (m (548 + 10 * c + 3) = m (548 + 10 * a + 3) ∧ a < c))
theorem insL_lx {m : Int → Int} {b : Int} : ∀ {l : List Int}, lxL m l → (∀ c ∈ l, c < b) → lxL m (insL m b l)
  | [], _, _ => by simp [insL, lxL]
  | d :: l, h, hb => by
    unfold lxL at h ⊢
    obtain ⟨h1, h2⟩ := List.pairwise_cons.mp h
    unfold insL
    split
    · next hd =>
      refine List.pairwise_cons.mpr ⟨fun c hc => ?_, h⟩
      rcases List.mem_cons.mp hc with e | e
      · subst e; omega
      · have := h1 c e; omega
    · next hd =>
      refine List.pairwise_cons.mpr ⟨fun c hc => ?_, insL_lx h2 (fun c hc => hb c (List.mem_cons_of_mem _ hc))⟩
      have hdb := hb d List.mem_cons_self
      rcases insL_mem.mp hc with e | e
      · subst e; omega
      · exact h1 c e
theorem ordL_lx {m : Int → Int} : ∀ {n : Nat}, lxL m (ordL m n)
  | 0 => by simp [ordL, lxL]
  | n + 1 => by
    unfold ordL
    split
    · exact insL_lx ordL_lx (fun c hc => by have := (ordL_mem.mp hc).1; omega)
    · exact ordL_lx
theorem ordL_cnt {m : Int → Int} : ∀ n : Nat, ((ordL m n).length : Int) = cntP (fun b => m (548 + 10 * b + 5) = 1 ∨ m (548 + 10 * b + 5) = 3) n
  | 0 => rfl
  | n + 1 => by
    unfold ordL cntP
    split
    · next h => rw [insL_len, ← ordL_cnt n]; omega
    · next h => rw [ordL_cnt n]; omega
section TKP
variable {m : Int → Int} {W : Int}
theorem JQ.clean (h : JQ m (-1)) (hR : RG m) : JQ (s_clean m (m 2)) (-1) := by
  have hR1 := hR.1
  have e : ∀ k, (k < 5 ∨ 53 ≤ k) → s_clean m (m 2) k = m k := fun k hk => s_clean_ne (by omega)
  refine JQ.to hR h (e 2 (by omega)) (e 3 (by omega)) (fun u w u0 u1 w0 w1 => s_clean_ne (by omega)) (fun u u0 u1 q => ?_) (fun y w y0 y1 w0 w1 w3 => e _ (by omega)) (fun k k0 k1 => e _ (by omega)) (fun y y0 y1 => mP_fr hR y0 y1 (fun w hw => e _ (by omega)) (fun k k0 k1 => e _ (by omega)))
  have q' : m (5 + 6 * u + 4) = 0 := q
  unfold s_clean
  rw [q']
  split
  · rfl
  · rfl
theorem tick_P (h : Iv m W) (hQ : JQ m (-1)) (hJ : JJ m) (ht : m 1 ≤ 59999) : (JQ (s_tick m) (-1) ∧ JJ (s_tick m)) ∧ sumU m 5 (m 2).toNat ≤ sumU (s_tick m) 5 (m 2).toNat ∧ sumU (s_tick m) 5 (m 2).toNat ≤ sumU m 5 (m 2).toNat + m 3 ∧ (∀ c l, ordL m (m 3).toNat = c :: l → s_reason (s_clean m (m 2)) 0 c = 0 → sumU m 5 (m 2).toNat + 1 ≤ sumU (s_tick m) 5 (m 2).toNat) := by
  have hc := clean_Iv h
  have hn := (Iv_iff.mp h).1.n
  have hR := RG.of (Iv_iff.mp h).1
  have e : ∀ k, (k < 5 ∨ 53 ≤ k) → s_clean m (m 2) k = m k := fun k hk => s_clean_ne (by omega)
  have hQc := hQ.clean hR
  have hJc : JJ (s_clean m (m 2)) := hJ.fr (by omega) (e 4 (by omega)) (fun k k0 k1 => e k (by omega)) (by rw [e 3 (by omega)]; exact Int.le_refl _) (by rw [e 1 (by omega)]; exact Int.le_refl _)
  have eo : ordL (s_clean m (m 2)) (s_clean m (m 2) 3).toNat = ordL m (m 3).toNat := by
    rw [e 3 (by omega)]
    exact ordL_cg _ (fun b b0 b1 => ⟨e _ (by omega), e _ (by omega)⟩)
  have es : sumU (s_clean m (m 2)) 5 (m 2).toNat = sumU m 5 (m 2).toNat := p_sumU _ (fun u u0 u1 => s_clean_ne (by omega))
  have hm : ∀ c, c ∈ ordL (s_clean m (m 2)) (s_clean m (m 2) 3).toNat → (0 ≤ c ∧ c < s_clean m (m 2) 3) ∧ s_actv (s_clean m (m 2)) c := fun c hc => by
    obtain ⟨c1, c2⟩ := ordL_mem.mp hc
    exact ⟨⟨c1.1, by have := e 3 (by omega); omega⟩, c2⟩
  have hF := fold_E _ (s_clean m (m 2)) W hc (ordL_nd (n := (s_clean m (m 2) 3).toNat)) hm
  obtain ⟨⟨g1, g2⟩, g3, g4, g5⟩ := JQ.fold _ (s_clean m (m 2)) W hc hQc hJc (ordL_nd (n := (s_clean m (m 2) 3).toNat)) hm
  have hl := ordL_len (m := m) (n := (m 3).toNat)
  rw [eo, e 2 (by omega), es] at g3 g4 g5
  have eT : s_tick m = up ((ordL m (m 3).toNat).foldl s_work (s_clean m (m 2))) 1 ((ordL m (m 3).toNat).foldl s_work (s_clean m (m 2)) 1 + 1) := by
    unfold s_tick
    try dsimp only
    rw [eo]
  rw [eo] at g1 g2 hF
  generalize hX : (ordL m (m 3).toNat).foldl s_work (s_clean m (m 2)) = X at *
  have hXn := (Iv_iff.mp hF.1).1.n
  have es2 : sumU (s_tick m) 5 (m 2).toNat = sumU X 5 (m 2).toNat := by
    rw [eT]
    exact p_sumU _ (fun u u0 u1 => up_ne (by omega))
  refine ⟨⟨?_, ?_⟩, by rw [es2]; exact g3, by rw [es2]; omega, fun c l q hr => by rw [es2]; exact g5 c l q hr⟩
  · rw [eT]
    exact g1.fr (RG.of (Iv_iff.mp hF.1).1) (fun k k0 k1 k2 k3 k4 => up_ne (by omega))
  · rw [eT]
    exact g2.fr (by omega) (up_ne (by omega)) (fun k k0 k1 => up_ne (by omega)) (by rw [up_ne (by omega)]; exact Int.le_refl _) (by rw [up_eq rfl]; omega)
theorem ticks_P (h : Iv m W) (hQ : JQ m (-1)) (hJ : JJ m) : ∀ n : Nat, m 1 + n ≤ 60000 → (JQ (s_ticks n m) (-1) ∧ JJ (s_ticks n m)) ∧ sumU m 5 (m 2).toNat ≤ sumU (s_ticks n m) 5 (m 2).toNat ∧ sumU (s_ticks n m) 5 (m 2).toNat ≤ sumU m 5 (m 2).toNat + m 3 * n ∧ (∀ c l, 1 ≤ n → ordL m (m 3).toNat = c :: l → s_reason (s_clean m (m 2)) 0 c = 0 → sumU m 5 (m 2).toNat + 1 ≤ sumU (s_ticks n m) 5 (m 2).toNat)
  | 0, _ => ⟨⟨hQ, hJ⟩, Int.le_refl _, by show sumU m 5 (m 2).toNat ≤ _; simp, fun c l q => by omega⟩
  | n + 1, hn => by
    obtain ⟨g0, g1, g2, -⟩ := ticks_E h n (by omega)
    obtain ⟨⟨q1, q2⟩, q3, q4, q5⟩ := ticks_P h hQ hJ n (by omega)
    obtain ⟨t1, t2, t3, t4⟩ := tick_P g0 q1 q2 (by omega)
    rw [g2 2 (by omega), g2 3 (by omega)] at *
    have e : m 3 * ((n + 1 : Nat) : Int) = m 3 * n + m 3 := by
      rw [show ((n + 1 : Nat) : Int) = (n : Int) + 1 from rfl, Int.mul_add, Int.mul_one]
    refine ⟨t1, ?_, ?_, fun c l _ q hr => ?_⟩
    · show _ ≤ sumU (s_tick (s_ticks n m)) 5 (m 2).toNat
      omega
    · show sumU (s_tick (s_ticks n m)) 5 (m 2).toNat ≤ _
      rw [e]; omega
    · show _ ≤ sumU (s_tick (s_ticks n m)) 5 (m 2).toNat
      by_cases hn0 : n = 0
      · subst hn0
        exact t4 c l q hr
      · have := q5 c l (by omega) q hr
        omega
/-- what is complete stays so -/
theorem ticks_6 (h : Iv m W) {b : Int} (b0 : 0 ≤ b) (b1 : b < m 3) : ∀ n k : Nat, m 1 + (n + k : Nat) ≤ 60000 → s_ticks n m (548 + 10 * b + 5) = 6 → s_ticks (n + k) m (548 + 10 * b + 5) = 6
  | n, 0, _, h6 => h6
  | n, k + 1, hn, h6 => by
    have ih := ticks_6 h b0 b1 n k (by omega) h6
    obtain ⟨g0, g1, g2, -⟩ := ticks_E h (n + k) (by omega)
    obtain ⟨-, -, -, -, -, t5⟩ := tick_E g0 (by omega)
    have := t5 b b0 (by rw [g2 3 (by omega)]; exact b1)
    show s_tick (s_ticks (n + k) m) (548 + 10 * b + 5) = 6
    omega
theorem to_spec {b : Int} : ∀ f n : Nat, (s_to m b f n = -4 ∧ ∀ j : Nat, n ≤ j → j ≤ n + f → s_ticks j m (548 + 10 * b + 5) ≠ 6) ∨ (∃ j : Nat, s_to m b f n = (j : Int) ∧ n ≤ j ∧ j ≤ n + f ∧ s_ticks j m (548 + 10 * b + 5) = 6 ∧ ∀ i : Nat, n ≤ i → i < j → s_ticks i m (548 + 10 * b + 5) ≠ 6)
  | 0, n => by
    unfold s_to
    split
    · next h => exact Or.inr ⟨n, rfl, Nat.le_refl _, by omega, h, fun i i0 i1 => by omega⟩
    · next h => exact Or.inl ⟨rfl, fun j j0 j1 => by rw [show j = n by omega]; exact h⟩
  | f + 1, n => by
    unfold s_to
    split
    · next h => exact Or.inr ⟨n, rfl, Nat.le_refl _, by omega, h, fun i i0 i1 => by omega⟩
    · next h =>
      rcases to_spec f (n + 1) with ⟨q1, q2⟩ | ⟨j, q1, q2, q3, q4, q5⟩
      · refine Or.inl ⟨q1, fun j j0 j1 => ?_⟩
        by_cases e : j = n
        · rw [e]; exact h
        · exact q2 j (by omega) (by omega)
      · refine Or.inr ⟨j, q1, by omega, by omega, q4, fun i i0 i1 => ?_⟩
        by_cases e : i = n
        · rw [e]; exact h
        · exact q5 i (by omega) i1
theorem to_iff (h : Iv m W) {b : Int} (b0 : 0 ≤ b) (b1 : b < m 3) {t : Nat} (ht : t ≤ 2000) (hm : m 1 + t ≤ 60000) : (s_to m b 2000 0 ≠ -4 ∧ s_to m b 2000 0 ≤ t) ↔ s_ticks t m (548 + 10 * b + 5) = 6 := by
  rcases to_spec (m := m) (b := b) 2000 0 with ⟨q1, q2⟩ | ⟨j, q1, q2, q3, q4, q5⟩
  · constructor
    · intro q; omega
    · intro q; exact absurd q (q2 t (by omega) (by omega))
  · constructor
    · intro q
      have := ticks_6 h b0 b1 j (t - j) (by omega) q4
      rwa [show j + (t - j) = t by omega] at this
    · intro q
      refine ⟨by omega, ?_⟩
      have : ¬ t < j := fun z => q5 t (by omega) z q
      omega
end TKP

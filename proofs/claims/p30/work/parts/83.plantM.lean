/-! ===== who has what, of the memory ===== -/
def mU (m : Int → Int) : Int → Int → Int := fun u w => m (5 + 6 * u + w)
def mB (m : Int → Int) : Int → Int → Int := fun b w => m (548 + 10 * b + w)
def mS (m : Int → Int) : Int → Int := fun k => m (53 + k)
def mP (m : Int → Int) : Int → Int := fun b => phB m b (m (548 + 10 * b + 6))
def JQ (m : Int → Int) (x : Int) : Prop := JA (mU m) (mB m) (mS m) (mP m) (m 2) (m 3) x
/-- the ranges that an index rests on -/
def RG (m : Int → Int) : Prop := (0 ≤ m 2 ∧ m 2 ≤ 8) ∧ (0 ≤ m 3 ∧ m 3 ≤ 12) ∧ ∀ b, 0 ≤ b → b < m 3 → (0 ≤ pgB m b ∧ pgB m b < 54) ∧ (0 ≤ m (548 + 10 * b + 6) ∧ m (548 + 10 * b + 6) ≤ 8) ∧ (-1 ≤ m (548 + 10 * b + 8) ∧ m (548 + 10 * b + 8) < 8)
theorem RG.of {m : Int → Int} {W : Int} (h : Iv0 m W) : RG m := by
  have hn := h.n
  refine ⟨by omega, by omega, fun b b0 b1 => ?_⟩
  have hb := h.b b0 b1
  have hp := h.page b0 b1
  unfold okB0 at hb
  exact ⟨hp.1, by omega, by omega⟩
section PLM
variable {m m' : Int → Int} {x b u w c v st : Int}
theorem upB (hc : 0 ≤ c ∧ c < 10) {y : Int} (hw : 0 ≤ w ∧ w < 10) : up m (548 + 10 * b + c) v (548 + 10 * y + w) = u2 (mB m) b c v y w := by
  unfold up u2 mB
  by_cases h : y = b ∧ w = c
  · rw [if_pos h, if_pos (by omega)]
  · rw [if_neg h, if_neg (by omega)]
theorem upU (hc : 0 ≤ c ∧ c < 6) {y : Int} (hw : 0 ≤ w ∧ w < 6) : up m (5 + 6 * u + c) v (5 + 6 * y + w) = u2 (mU m) u c v y w := by
  unfold up u2 mU
  by_cases h : y = u ∧ w = c
  · rw [if_pos h, if_pos (by omega)]
  · rw [if_neg h, if_neg (by omega)]
theorem mP_fr (hR : RG m) {y : Int} (y0 : 0 ≤ y) (y1 : y < m 3) (e : ∀ w, w = 0 ∨ w = 1 ∨ w = 6 → m' (548 + 10 * y + w) = m (548 + 10 * y + w)) (hV : ∀ k, 56 ≤ k → k < 549 → m' k = m k) : mP m' y = mP m y := by
  obtain ⟨h1, h2, -⟩ := hR.2.2 y y0 y1
  unfold mP phB
  rw [e 6 (by omega), pgB_eq (e 0 (by omega)) (e 1 (by omega))]
  exact hV _ (by omega) (by omega)
theorem JQ.to (hR : RG m) {U B : Int → Int → Int} {S P : Int → Int} (h : JA U B S P (m 2) (m 3) x) (e2 : m' 2 = m 2) (e3 : m' 3 = m 3) (eU : ∀ u w, 0 ≤ u → u < m 2 → 0 ≤ w → w < 4 → m' (5 + 6 * u + w) = U u w) (e4 : ∀ u, 0 ≤ u → u < m 2 → U u 4 = 0 → m' (5 + 6 * u + 4) = 0) (eB : ∀ b w, 0 ≤ b → b < m 3 → 0 ≤ w → w < 10 → w ≠ 3 → m' (548 + 10 * b + w) = B b w) (eS : ∀ k, 0 ≤ k → k < 3 → m' (53 + k) = S k) (eP : ∀ b, 0 ≤ b → b < m 3 → mP m' b = P b) : JQ m' x := by
  unfold JQ
  rw [e2, e3]
  exact h.congr eU e4 eB eS eP
/-- what none of it speaks of -/
theorem JQ.fr (h : JQ m x) (hR : RG m) (e : ∀ k, 2 ≤ k → k < 668 → k ≠ 4 → (5 ≤ k → k < 53 → (k - 5) % 6 ≠ 5) → (548 ≤ k → (k - 548) % 10 ≠ 3) → m' k = m k) : JQ m' x :=
  JQ.to hR h (e _ (by omega) (by omega) (by omega) (by omega) (by omega)) (e _ (by omega) (by omega) (by omega) (by omega) (by omega)) (fun u w u0 u1 w0 w1 => by have := hR.1; exact e _ (by omega) (by omega) (by omega) (by omega) (by omega)) (fun u u0 u1 q => by have := hR.1; rw [← q]; exact e _ (by omega) (by omega) (by omega) (by omega) (by omega)) (fun b w b0 b1 w0 w1 w3 => by have := hR.2.1; exact e _ (by omega) (by omega) (by omega) (by omega) (by omega)) (fun k k0 k1 => e _ (by omega) (by omega) (by omega) (by omega) (by omega)) (fun b b0 b1 => mP_fr hR b0 b1 (fun w hw => by have := hR.2.1; exact e _ (by omega) (by omega) (by omega) (by omega) (by omega)) (fun k k0 k1 => e _ (by omega) (by omega) (by omega) (by omega) (by omega)))
theorem JQ.note (h : JQ m x) (hR : RG m) : JQ (s_note m b w) x := h.fr hR (fun k _ _ _ _ _ => s_note_ne (by omega) (by omega))
theorem JQ.relS (h : JQ m x) (hR : RG m) : JQ (s_relS m b 3) x :=
  JQ.to hR (JA.relS (S' := fun k => if mS m k = b then -1 else mS m k) h (fun k _ _ => rfl)) (s_relS_ne (by omega)) (s_relS_ne (by omega)) (fun u w u0 u1 w0 w1 => by have := hR.1; exact s_relS_ne (by omega)) (fun u u0 u1 q => by have := hR.1; rw [← q]; exact s_relS_ne (by omega)) (fun b w b0 b1 w0 w1 w3 => s_relS_ne (by omega)) (fun k k0 k1 => by
    unfold s_relS mS
    by_cases hk : m (53 + k) = b
    · rw [if_pos (by omega), if_pos hk]
    · rw [if_neg (by omega), if_neg hk]) (fun y y0 y1 => mP_fr hR y0 y1 (fun w hw => s_relS_ne (by omega)) (fun k k0 k1 => s_relS_ne (by omega)))
theorem relS_no {k : Int} (k0 : 0 ≤ k) (k1 : k < 3) (hb : 0 ≤ b) : mS (s_relS m b 3) k ≠ b := by
  unfold mS s_relS
  by_cases hk : m (53 + k) = b
  · rw [if_pos (by omega)]; omega
  · rw [if_neg (by omega)]; exact hk
theorem RG.fr (h : RG m) (e : ∀ k, k = 2 ∨ k = 3 → m' k = m k) (eB : ∀ y w, 0 ≤ y → y < m 3 → w = 0 ∨ w = 1 ∨ w = 6 ∨ w = 8 → m' (548 + 10 * y + w) = m (548 + 10 * y + w)) : RG m' := by
  obtain ⟨h1, h2, h3⟩ := h
  refine ⟨by rw [e 2 (by omega)]; exact h1, by rw [e 3 (by omega)]; exact h2, fun y y0 y1 => ?_⟩
  rw [e 3 (by omega)] at y1
  rw [pgB_eq (eB y 0 y0 y1 (by omega)) (eB y 1 y0 y1 (by omega)), eB y 6 y0 y1 (by omega), eB y 8 y0 y1 (by omega)]
  exact h3 y y0 y1
theorem RG.relS (h : RG m) : RG (s_relS m b 3) := h.fr (fun k hk => s_relS_ne (by omega)) (fun y w y0 y1 hw => s_relS_ne (by omega))
theorem RG.note (h : RG m) : RG (s_note m b w) := h.fr (fun k hk => s_note_ne (by omega) (by omega)) (fun y w y0 y1 hw => by have := h.2.1; exact s_note_ne (by omega) (by omega))
theorem RG.up {k : Int} (h : RG m) (h2 : k ≠ 2) (h3 : k ≠ 3) (hk : k < 548 ∨ (k - 548) % 10 = 2 ∨ (k - 548) % 10 = 3 ∨ (k - 548) % 10 = 4 ∨ (k - 548) % 10 = 5 ∨ (k - 548) % 10 = 7 ∨ (k - 548) % 10 = 9) : RG (up m k v) := h.fr (fun j hj => up_ne (by omega)) (fun y w y0 y1 hw => up_ne (by omega))
/-- one cell of a batch -/
theorem JQ.toB (hR : RG m) (hc : c = 5 ∨ c = 7 ∨ c = 8 ∨ c = 9) (b0 : 0 ≤ b) (h : JA (mU m) (u2 (mB m) b c v) (mS m) (mP m) (m 2) (m 3) x) : JQ (up m (548 + 10 * b + c) v) x :=
  JQ.to hR h (up_ne (by omega)) (up_ne (by omega)) (fun u w u0 u1 w0 w1 => by have := hR.1; exact up_ne (by omega)) (fun u u0 u1 q => by have := hR.1; rw [← q]; exact up_ne (by omega)) (fun y w y0 y1 w0 w1 w3 => upB (by omega) (by omega)) (fun k k0 k1 => up_ne (by omega)) (fun y y0 y1 => mP_fr hR y0 y1 (fun w hw => up_ne (by omega)) (fun k k0 k1 => up_ne (by omega)))
theorem JQ.state (h : JQ m x) (hR : RG m) (b0 : 0 ≤ b) (b1 : b < m 3) (hold : m (548 + 10 * b + 5) ≠ 6) (hst : 1 ≤ st ∧ st ≤ 6) (h13 : st = 1 ∨ st = 3 → m (548 + 10 * b + 8) ≠ -1 → m (5 + 6 * m (548 + 10 * b + 8) + 3) = 0) (h3s : 3 < st → m (548 + 10 * b + 8) = -1) (hS : (∃ k, 0 ≤ k ∧ k < 3 ∧ mS m k = b) → st = 1 ∨ st = 3) (hs6 : st = 6 → m (548 + 10 * b + 4) ≠ -1 → m (548 + 10 * m (548 + 10 * b + 4) + 5) = 6) : JQ (up m (548 + 10 * b + 5) st) x :=
  JQ.toB hR (by omega) b0 (JA.state h b0 b1 hold hst h13 h3s hS hs6)
theorem JQ.done (h : JQ m x) (hR : RG m) (b0 : 0 ≤ b) (b1 : b < m 3) (h5a : m (548 + 10 * b + 5) ≠ 0) (hb : 0 < v → m (548 + 10 * b + 4) ≠ -1 → m (548 + 10 * m (548 + 10 * b + 4) + 5) = 6) : JQ (up m (548 + 10 * b + 7) v) x :=
  JQ.toB hR (by omega) b0 (JA.done h b0 b1 h5a hb)
theorem JQ.piece {j : Int} (h : JQ m x) (hR : RG m) (b0 : 0 ≤ b) (b1 : b < m 3) (hj : 0 ≤ j ∧ j < 3) (h5a : m (548 + 10 * b + 5) = 1 ∨ m (548 + 10 * b + 5) = 3) (h8 : m (548 + 10 * b + 8) ≠ -1) (hp : phB m b (m (548 + 10 * b + 6)) / 512 % 4 - 1 = j) : JQ (up m (53 + j) b) x :=
  JQ.to hR (JA.piece (S' := fun k => if k = j then b else mS m k) h b0 b1 h5a h8 hp (fun k _ _ => rfl)) (up_ne (by omega)) (up_ne (by omega)) (fun u w u0 u1 w0 w1 => by have := hR.1; exact up_ne (by omega)) (fun u u0 u1 q => by have := hR.1; rw [← q]; exact up_ne (by omega)) (fun y w y0 y1 w0 w1 w3 => up_ne (by omega)) (fun k k0 k1 => by
    unfold up mS
    by_cases hk : k = j
    · rw [if_pos (by omega), if_pos hk]
    · rw [if_neg (by omega), if_neg hk]) (fun y y0 y1 => mP_fr hR y0 y1 (fun w hw => up_ne (by omega)) (fun k k0 k1 => up_ne (by omega)))
theorem JQ.brk (h : JQ m x) (hR : RG m) (u0 : 0 ≤ u) (u1 : u < m 2) (hv : v = 0 ∨ m (5 + 6 * u + 2) = -1 ∨ ¬ (m (548 + 10 * m (5 + 6 * u + 2) + 5) = 1 ∨ m (548 + 10 * m (5 + 6 * u + 2) + 5) = 3)) : JQ (up m (5 + 6 * u + 3) v) x := by
  have hR' := hR.1
  exact JQ.to hR (JA.brk h hv) (up_ne (by omega)) (up_ne (by omega)) (fun y w y0 y1 w0 w1 => upU (by omega) (by omega)) (fun y y0 y1 q => by rw [up_ne (by omega)]; rwa [u2_ne (by omega)] at q) (fun y w y0 y1 w0 w1 w3 => up_ne (by omega)) (fun k k0 k1 => up_ne (by omega)) (fun y y0 y1 => mP_fr hR y0 y1 (fun w hw => up_ne (by omega)) (fun k k0 k1 => up_ne (by omega)))
theorem JQ.relU (h : JQ m x) (hR : RG m) (b0 : 0 ≤ b) (b1 : b < m 3) (hx : x = -1 ∨ x = b) (hS : ∀ k, 0 ≤ k → k < 3 → mS m k ≠ b) : JQ (s_relU m b) (-1) := by
  have hR1 := hR.1
  have hR2 := hR.2.1
  have hu := (hR.2.2 b b0 b1).2.2
  simp only [s_relU]
  split
  · next h8 =>
    rcases hx with hx | hx
    · rw [← hx]; exact h
    · subst hx
      exact JA.kind h (fun q => absurd h8 q)
  · next h8 =>
    have hJ := JA.relU (cl := up m (5 + 6 * m (548 + 10 * b + 8) + 2) (-1) 0) h b0 b1 hx h8 hS
    generalize hcl : up m (5 + 6 * m (548 + 10 * b + 8) + 2) (-1) 0 = cl at hJ ⊢
    generalize hh : m (548 + 10 * b + 8) = uu at *
    have hh' : mB m b 8 = uu := hh
    rw [hh'] at hJ
    refine JQ.to hR hJ ?_ ?_ (fun y w y0 y1 w0 w1 => ?_) (fun y y0 y1 q => ?_) (fun y w y0 y1 w0 w1 w3 => ?_) (fun k k0 k1 => ?_) (fun y y0 y1 => ?_)
    · rw [up_ne (by omega), up_ne (by omega), up_ne (by omega)]
    · rw [up_ne (by omega), up_ne (by omega), up_ne (by omega)]
    · rw [up_ne (by omega), up_ne (by omega), u2_ne (by omega)]
      exact upU (by omega) (by omega)
    · rw [up_ne (by omega)]
      unfold up
      unfold u2 mU at q
      by_cases e : y = uu
      · rw [if_pos (by omega)] at q ⊢
        exact q
      · rw [if_neg (by omega), if_neg (by omega)] at q ⊢
        exact q
    · rw [upB (by omega) (by omega)]
      unfold u2
      by_cases e : y = b ∧ w = 8
      · rw [if_pos e, if_pos e]
      · rw [if_neg e, if_neg e]
        unfold mB
        rw [up_ne (by omega), up_ne (by omega)]
    · rw [up_ne (by omega), up_ne (by omega), up_ne (by omega)]
      rfl
    · exact mP_fr hR y0 y1 (fun w hw => by rw [up_ne (by omega), up_ne (by omega), up_ne (by omega)]) (fun k k0 k1 => by rw [up_ne (by omega), up_ne (by omega), up_ne (by omega)])
theorem relU_B (hR : RG m) (b0 : 0 ≤ b) (b1 : b < m 3) {y : Int} (hw : 0 ≤ w ∧ w < 10) (y0 : 0 ≤ y) : s_relU m b (548 + 10 * y + w) = if y = b ∧ w = 8 then -1 else m (548 + 10 * y + w) := by
  have hu := (hR.2.2 b b0 b1).2.2
  simp only [s_relU]
  split
  · next h8 =>
    split
    · next e => rw [e.1, e.2]; exact h8
    · rfl
  · rw [upB (by omega) (by omega)]
    unfold u2
    split
    · rfl
    · unfold mB
      rw [up_ne (by omega), up_ne (by omega)]
theorem relU_ne (hR : RG m) (b0 : 0 ≤ b) (b1 : b < m 3) {k : Int} (hk : k < 5 ∨ 53 ≤ k) (h8 : k ≠ 548 + 10 * b + 8) : s_relU m b k = m k := by
  have hu := (hR.2.2 b b0 b1).2.2
  simp only [s_relU]
  split
  · rfl
  · rw [up_ne h8, up_ne (by omega), up_ne (by omega)]
theorem RG.relU (hR : RG m) (b0 : 0 ≤ b) (b1 : b < m 3) : RG (s_relU m b) := by
  have hR2 := hR.2.1
  refine ⟨by rw [relU_ne hR b0 b1 (by omega) (by omega)]; exact hR.1, by rw [relU_ne hR b0 b1 (by omega) (by omega)]; exact hR.2.1, fun y y0 y1 => ?_⟩
  rw [relU_ne hR b0 b1 (by omega) (by omega)] at y1
  have h := hR.2.2 y y0 y1
  rw [pgB_eq (m' := s_relU m b) (relU_ne hR b0 b1 (by omega) (by omega)) (relU_ne hR b0 b1 (by omega) (by omega)), relU_ne (k := 548 + 10 * y + 6) hR b0 b1 (by omega) (by omega), relU_B hR b0 b1 (by omega) y0]
  refine ⟨h.1, h.2.1, ?_⟩
  split <;> omega
/-- a batch comes to an end -/
theorem JQ.endsBy (h : JQ m x) (hR : RG m) (b0 : 0 ≤ b) (b1 : b < m 3) (hx : x = -1 ∨ x = b) (hold : m (548 + 10 * b + 5) ≠ 6) (hst : 4 ≤ st ∧ st ≤ 6) (hs6 : st = 6 → m (548 + 10 * b + 4) ≠ -1 → (0 ≤ m (548 + 10 * b + 4) ∧ m (548 + 10 * b + 4) < b) ∧ m (548 + 10 * m (548 + 10 * b + 4) + 5) = 6) : JQ (s_endsBy m b st w) (-1) := by
  have hR1 := hR.relS (b := b)
  have e3 : s_relS m b 3 3 = m 3 := s_relS_ne (by omega)
  have hb1 : b < s_relS m b 3 3 := by rw [e3]; exact b1
  have h1 := (h.relS hR (b := b)).relU hR1 b0 hb1 hx (fun k k0 k1 => relS_no k0 k1 b0)
  have hR2 := hR1.relU b0 hb1
  have eB : ∀ y w, 0 ≤ y → 0 ≤ w → w < 10 → ¬ (y = b ∧ w = 8) → s_relU (s_relS m b 3) b (548 + 10 * y + w) = m (548 + 10 * y + w) := fun y w y0 w0 w1 hn => by
    rw [relU_B hR1 b0 hb1 ⟨w0, w1⟩ y0, if_neg hn, s_relS_ne (by omega)]
  have e8 : s_relU (s_relS m b 3) b (548 + 10 * b + 8) = -1 := by rw [relU_B hR1 b0 hb1 (by omega) b0, if_pos ⟨rfl, rfl⟩]
  have e33 : s_relU (s_relS m b 3) b 3 = m 3 := by rw [relU_ne hR1 b0 hb1 (by omega) (by omega), e3]
  have h2 := h1.state hR2 (b := b) (st := st) b0 (by rw [e33]; exact b1) (by rw [eB b 5 b0 (by omega) (by omega) (by omega)]; exact hold) (by omega) (by omega) (fun _ => e8) (fun ⟨k, k0, k1, hk⟩ => by
    exfalso
    have h3 : mS (s_relU (s_relS m b 3) b) k = mS (s_relS m b 3) k := by unfold mS; exact relU_ne hR1 b0 hb1 (by omega) (by omega)
    rw [h3] at hk
    exact relS_no k0 k1 b0 hk) (fun q => by
    rw [eB b 4 b0 (by omega) (by omega) (by omega)]
    intro q4
    obtain ⟨g1, g2⟩ := hs6 q q4
    rw [eB _ 5 (by omega) (by omega) (by omega) (by omega)]
    exact g2)
  unfold s_endsBy
  exact h2.note (hR2.up (by omega) (by omega) (by omega))
theorem JQ.holds (h : JQ m x) (hR : RG m) (b0 : 0 ≤ b) (b1 : b < m 3) (hold : m (548 + 10 * b + 5) ≠ 6) : JQ (s_holds m b) x := by
  have hR1 := hR.relS (b := b)
  have e3 : s_relS m b 3 3 = m 3 := s_relS_ne (by omega)
  have h2 := (h.relS hR (b := b)).state hR1 (b := b) (st := 2) b0 (by rw [e3]; exact b1) (by rw [s_relS_ne (by omega)]; exact hold) (by omega) (by omega) (by omega) (fun ⟨k, k0, k1, hk⟩ => absurd hk (relS_no k0 k1 b0)) (by omega)
  unfold s_holds
  exact h2.note (hR1.up (by omega) (by omega) (by omega))
theorem JQ.take (h : JQ m x) (hR : RG m) (b0 : 0 ≤ b) (b1 : b < m 3) (u0 : 0 ≤ u) (u1 : u < m 2) (h5a : 1 ≤ m (548 + 10 * b + 5) ∧ m (548 + 10 * b + 5) ≤ 3) (h8 : m (548 + 10 * b + 8) = -1) (hf : m (5 + 6 * u + 2) = -1 ∧ m (5 + 6 * u + 3) = 0 ∧ m (5 + 6 * u + 4) = 0) (hk : m (5 + 6 * u + 0) = phB m b (m (548 + 10 * b + 6)) % 4) (hc : m (548 + 10 * b + 2) ≤ m (5 + 6 * u + 1)) : JQ (s_take m b u) x := by
  have hR1 := hR.1
  have hR2 := hR.2.1
  have hJ := JA.take h b0 b1 u0 u1 h5a h8 hf hk hc
  unfold s_take
  have hG : RG (up (up m (548 + 10 * b + 8) u) (5 + 6 * u + 2) b) := by
    refine ⟨by rw [up_ne (by omega), up_ne (by omega)]; exact hR1, by rw [up_ne (by omega), up_ne (by omega)]; exact hR2, fun y y0 y1 => ?_⟩
    rw [up_ne (by omega), up_ne (by omega)] at y1
    have hy := hR.2.2 y y0 y1
    rw [pgB_eq (m := m) (by rw [up_ne (by omega), up_ne (by omega)]) (by rw [up_ne (by omega), up_ne (by omega)]), up_ne (by omega), up_ne (by omega), up_ne (show 548 + 10 * y + 8 ≠ 5 + 6 * u + 2 by omega)]
    refine ⟨hy.1, hy.2.1, ?_⟩
    unfold up
    split <;> omega
  refine JQ.note ?_ hG
  refine JQ.to hR hJ ?_ ?_ (fun y w y0 y1 w0 w1 => ?_) (fun y y0 y1 q => ?_) (fun y w y0 y1 w0 w1 w3 => ?_) (fun k k0 k1 => ?_) (fun y y0 y1 => ?_)
  · rw [up_ne (by omega), up_ne (by omega)]
  · rw [up_ne (by omega), up_ne (by omega)]
  · rw [upU (by omega) (by omega)]
    unfold u2 mU
    by_cases e : y = u ∧ w = 2
    · rw [if_pos e, if_pos e]
    · rw [if_neg e, if_neg e, up_ne (by omega)]
  · rw [up_ne (by omega), up_ne (by omega)]
    rw [u2_ne (by omega)] at q
    exact q
  · rw [up_ne (by omega)]
    exact upB (by omega) (by omega)
  · rw [up_ne (by omega), up_ne (by omega)]
    rfl
  · exact mP_fr hR y0 y1 (fun w hw => by rw [up_ne (by omega), up_ne (by omega)]) (fun k k0 k1 => by rw [up_ne (by omega), up_ne (by omega)])
/-- the end of a phase, ahead of the choice -/
theorem JQ.pe {p : Int} (h : JQ m (-1)) (hR : RG m) (b0 : 0 ≤ b) (b1 : b < m 3) (h5a : m (548 + 10 * b + 5) ≠ 0) (h4 : m (548 + 10 * b + 4) ≠ -1 → (0 ≤ m (548 + 10 * b + 4) ∧ m (548 + 10 * b + 4) < b) ∧ m (548 + 10 * m (548 + 10 * b + 4) + 5) = 6) (ha : fA (m (548 + 10 * b + 9)) (p / 2048 % 128) ≤ szF (m (548 + 10 * b + 2))) (h6 : m (548 + 10 * b + 6) ≤ 7) : JQ (s_pe m b p) b := by
  have hR1 := hR.relS (b := b)
  have hR2 := hR.2.1
  have hR3 := hR.1
  have e3 : s_relS m b 3 3 = m 3 := s_relS_ne (by omega)
  have e2 : s_relS m b 3 2 = m 2 := s_relS_ne (by omega)
  have eB : ∀ y w, 0 ≤ y → 0 ≤ w → s_relS m b 3 (548 + 10 * y + w) = m (548 + 10 * y + w) := fun y w y0 w0 => s_relS_ne (by omega)
  unfold s_pe
  try dsimp only
  rw [up_ne (show 548 + 10 * b + 6 ≠ 548 + 10 * b + 9 by omega), eB b 6 b0 (by omega)]
  generalize hM : up (up (up (s_relS m b 3) (548 + 10 * b + 9) (fA (m (548 + 10 * b + 9)) (p / 2048 % 128))) (548 + 10 * b + 6) (m (548 + 10 * b + 6) + 1)) (548 + 10 * b + 7) 0 = M
  have eM : ∀ k, k ≠ 548 + 10 * b + 9 → k ≠ 548 + 10 * b + 6 → k ≠ 548 + 10 * b + 7 → M k = s_relS m b 3 k := fun k k9 k6 k7 => by rw [← hM, up_ne k7, up_ne k6, up_ne k9]
  have hG : RG M := by
    refine ⟨by rw [eM _ (by omega) (by omega) (by omega)]; exact hR1.1, by rw [eM _ (by omega) (by omega) (by omega)]; exact hR1.2.1, fun y y0 y1 => ?_⟩
    rw [eM _ (by omega) (by omega) (by omega), e3] at y1
    have hy := hR1.2.2 y y0 (by rw [e3]; exact y1)
    rw [pgB_eq (m := s_relS m b 3) (eM _ (by omega) (by omega) (by omega)) (eM _ (by omega) (by omega) (by omega)), eM (548 + 10 * y + 8) (by omega) (by omega) (by omega)]
    refine ⟨hy.1, ?_, hy.2.2⟩
    by_cases e : y = b
    · subst e
      rw [← hM, up_ne (by omega), up_eq rfl]
      have := (hR.2.2 y b0 b1).2.1
      omega
    · rw [eM _ (by omega) (by omega) (by omega)]
      exact hy.2.1
  refine JQ.note ?_ hG
  have hJ := JA.phase (P' := mP M) (a := fA (m (548 + 10 * b + 9)) (p / 2048 % 128)) (h.relS hR (b := b)) b0 (by rw [e3]; exact b1) (by show s_relS m b 3 (548 + 10 * b + 5) ≠ 0; rw [eB b 5 b0 (by omega)]; exact h5a) (fun k k0 k1 => relS_no k0 k1 b0) (by
    show s_relS m b 3 (548 + 10 * b + 4) ≠ -1 → s_relS m b 3 (548 + 10 * s_relS m b 3 (548 + 10 * b + 4) + 5) = 6
    rw [eB b 4 b0 (by omega)]
    intro q
    obtain ⟨g1, g2⟩ := h4 q
    rw [eB _ 5 (by omega) (by omega)]
    exact g2) (by show _ ≤ szF (s_relS m b 3 (548 + 10 * b + 2)); rw [eB b 2 b0 (by omega)]; exact ha) (fun y y0 y1 yb => by
    rw [e3] at y1
    exact mP_fr hR1 y0 (by rw [e3]; exact y1) (fun w hw => eM _ (by omega) (by omega) (by omega)) (fun k k0 k1 => eM _ (by omega) (by omega) (by omega)))
  refine JQ.to hR1 hJ (eM _ (by omega) (by omega) (by omega)) (eM _ (by omega) (by omega) (by omega)) (fun y w y0 y1 w0 w1 => eM _ (by omega) (by omega) (by omega)) (fun y y0 y1 q => by rw [eM _ (by omega) (by omega) (by omega)]; exact q) (fun y w y0 y1 w0 w1 w3 => ?_) (fun k k0 k1 => eM _ (by omega) (by omega) (by omega)) (fun y y0 y1 => rfl)
  rw [← hM, upB (by omega) (by omega)]
  unfold u2
  by_cases e7 : y = b ∧ w = 7
  · rw [if_pos e7, if_pos e7]
  · rw [if_neg e7, if_neg e7]
    unfold mB
    rw [upB (by omega) (by omega)]
    unfold u2
    by_cases e6 : y = b ∧ w = 6
    · rw [if_pos e6, if_pos e6, eB b 6 b0 (by omega)]
    · rw [if_neg e6, if_neg e6]
      unfold mB
      rw [upB (by omega) (by omega)]
      rfl
end PLM

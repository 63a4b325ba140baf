/-! ===== texts that the law writes: they are read without a fault ===== -/
section SEG
variable {T : Int → Int} {n : Int}
theorem cur_lt {a : Int} (h : a < n) : t_cur T n a = T a := if_pos h
def dgt (c : Int) : Prop := 48 ≤ c ∧ c ≤ 57
theorem num1 {a : Int} (h : a + 1 < n) (h0 : 49 ≤ T a ∧ T a ≤ 57) (h1 : ¬ dgt (T (a + 1))) : (t_num T n 2 99 a).1 = 0 ∧ (t_num T n 2 99 a).2.1 = a + 1 := by
  unfold dgt at h1
  have e : t_scan T n 2 a 0 = (a + 1, 10 * 0 + T a - 48) := by
    rw [t_scan, cur_lt (by omega), if_pos (by omega), t_scan, cur_lt h, if_neg h1]
  unfold t_num
  rw [e]
  dsimp only
  rw [if_neg (by omega), if_neg (by omega), cur_lt h, if_neg h1]
  exact ⟨rfl, rfl⟩
theorem num2 {a : Int} (h : a + 2 < n) (h0 : 49 ≤ T a ∧ T a ≤ 57) (h1 : dgt (T (a + 1))) (h2 : ¬ dgt (T (a + 2))) : (t_num T n 3 100 a).1 = 0 ∧ (t_num T n 3 100 a).2.1 = a + 2 := by
  unfold dgt at h1 h2
  have e2 : a + 1 + 1 = a + 2 := by omega
  have e : t_scan T n 3 a 0 = (a + 2, 10 * (10 * 0 + T a - 48) + T (a + 1) - 48) := by
    rw [t_scan, cur_lt (by omega), if_pos (by omega), t_scan, cur_lt (by omega), if_pos h1, t_scan, e2, cur_lt h, if_neg h2]
  unfold t_num
  rw [e]
  dsimp only
  rw [if_neg (by omega), if_neg (by omega), cur_lt h, if_neg h2]
  exact ⟨rfl, rfl⟩
/-- a phase as the law writes it, from a to a': s, y, q say which parts stand -/
def seg (T : Int → Int) (a a' : Int) : Prop := ∃ s y q : Int, (T a = 109 ∨ T a = 114 ∨ T a = 102) ∧ (49 ≤ T (a + 1) ∧ T (a + 1) ≤ 57) ∧ ((s = 0) ∨ (s = 1 ∧ T (a + 2) = 115 ∧ 48 ≤ T (a + 3) ∧ T (a + 3) ≤ 50)) ∧ ((y = 0) ∨ (y = 1 ∧ T (a + 2 + 2 * s) = 121 ∧ (49 ≤ T (a + 3 + 2 * s) ∧ T (a + 3 + 2 * s) ≤ 57) ∧ dgt (T (a + 4 + 2 * s)))) ∧ ((q = 0) ∨ (q = 1 ∧ T (a + 2 + 2 * s + 3 * y) = 97)) ∧ T (a + 2 + 2 * s + 3 * y + q) = 59 ∧ a' = a + 3 + 2 * s + 3 * y + q
theorem seg.lt {a a' : Int} (h : seg T a a') : a + 3 ≤ a' ∧ a' ≤ a + 9 := by
  obtain ⟨s, y, q, h1, h2, h3, h4, h5, h6, h7⟩ := h
  omega
theorem seg.congr {T' : Int → Int} {a a' : Int} (h : seg T a a') (e : ∀ j, a ≤ j → j < a' → T' j = T j) : seg T' a a' := by
  have hl := h.lt
  obtain ⟨s, y, q, h1, h2, h3, h4, h5, h6, h7⟩ := h
  refine ⟨s, y, q, ?_, ?_, ?_, ?_, ?_, ?_, h7⟩
  · rw [e _ (by omega) (by omega)]; exact h1
  · rw [e _ (by omega) (by omega)]; exact h2
  · rcases h3 with h3 | h3
    · exact Or.inl h3
    · right; rw [e _ (by omega) (by omega), e (a + 3) (by omega) (by omega)]; exact h3
  · rcases h4 with h4 | h4
    · exact Or.inl h4
    · right; rw [e _ (by omega) (by omega), e (a + 3 + 2 * s) (by omega) (by omega), e (a + 4 + 2 * s) (by omega) (by omega)]; exact h4
  · rcases h5 with h5 | h5
    · exact Or.inl h5
    · right; rw [e _ (by omega) (by omega)]; exact h5
  · rw [e _ (by omega) (by omega)]; exact h6
theorem seg_ph3 {a b q : Int} (kd dr pc yl : Int) (ha : b ≤ n) (h5 : (q = 0) ∨ (q = 1 ∧ T a = 97)) (h6 : T (a + q) = 59) (hb : b = a + q + 1) : (t_ph3 T n kd dr pc yl a).1 = 0 ∧ (t_ph3 T n kd dr pc yl a).2.1 = b := by
  have hm : t_mk T n a = q := by
    unfold t_mk
    rw [cur_lt (by omega)]
    rcases h5 with h5 | ⟨h5, h5'⟩
    · subst h5
      rw [show a + 0 = a by omega] at h6
      rw [if_neg (by omega)]
    · rw [if_pos h5', h5]
  unfold t_ph3
  rw [hm, cur_lt (by omega), if_pos h6]
  exact ⟨rfl, hb.symm⟩
theorem seg_ph2 {a b y q : Int} (kd dr pc : Int) (ha : b ≤ n) (h4 : (y = 0) ∨ (y = 1 ∧ T a = 121 ∧ (49 ≤ T (a + 1) ∧ T (a + 1) ≤ 57) ∧ dgt (T (a + 2)))) (h5 : (q = 0) ∨ (q = 1 ∧ T (a + 3 * y) = 97)) (h6 : T (a + 3 * y + q) = 59) (hb : b = a + 3 * y + q + 1) : (t_ph2 T n kd dr pc a).1 = 0 ∧ (t_ph2 T n kd dr pc a).2.1 = b := by
  have hy : (t_yld T n a).1 = 0 ∧ (t_yld T n a).2.1 = a + 3 * y := by
    unfold t_yld
    rw [cur_lt (by omega)]
    rcases h4 with h4 | ⟨h4, g1, g2, g3⟩
    · subst h4
      rw [show a + 3 * 0 = a by omega] at h5 h6 ⊢
      have : T a ≠ 121 := by
        rcases h5 with h5 | ⟨h5, h5'⟩
        · rw [h5, show a + 0 = a by omega] at h6; omega
        · omega
      rw [if_neg this]
      exact ⟨rfl, rfl⟩
    · subst h4
      rw [if_pos g1]
      have h3 : ¬ dgt (T (a + 1 + 2)) := by
        unfold dgt
        rw [show a + 1 + 2 = a + 3 * 1 by omega]
        rcases h5 with h5 | ⟨h5, h5'⟩
        · rw [h5, show a + 3 * 1 + 0 = a + 3 * 1 by omega] at h6; omega
        · omega
      have := num2 (T := T) (n := n) (a := a + 1) (by omega) g2 (by rw [show a + 1 + 1 = a + 2 by omega]; exact g3) h3
      rw [show a + 3 * 1 = a + 1 + 2 by omega]
      exact this
  unfold t_ph2
  rw [if_neg (by omega), hy.2]
  exact seg_ph3 kd dr pc _ ha h5 h6 hb
theorem seg_phase {a a' k : Int} (h : seg T a a') (ha : a' ≤ n) (hk : k ≠ 8) : (t_phase T n k a).1 = 0 ∧ (t_phase T n k a).2.1 = a' := by
  obtain ⟨s, y, q, h1, h2, h3, h4, h5, h6, h7⟩ := h
  have hk0 : t_kind (t_cur T n a) ≠ -1 := by
    rw [cur_lt (by omega)]
    unfold t_kind
    repeat' split
    all_goals omega
  have hnd : ¬ dgt (T (a + 2)) := by
    unfold dgt
    rcases h3 with h3 | ⟨h3, h3', -⟩
    · subst h3
      rw [show a + 2 + 2 * 0 = a + 2 by omega] at h4 h5 h6
      rcases h4 with h4 | ⟨h4, h4', -⟩
      · subst h4
        rw [show a + 2 + 3 * 0 = a + 2 by omega] at h5 h6
        rcases h5 with h5 | ⟨h5, h5'⟩
        · rw [h5, show a + 2 + 0 = a + 2 by omega] at h6; omega
        · omega
      · omega
    · omega
  have hn := num1 (T := T) (n := n) (a := a + 1) (by omega) h2 (by rw [show a + 1 + 1 = a + 2 by omega]; exact hnd)
  unfold t_phase
  rw [if_neg hk0, if_neg hk, if_neg (by omega), hn.2, show a + 1 + 1 = a + 2 by omega]
  unfold t_ph1
  rw [cur_lt (show a + 2 < n by omega)]
  rcases h3 with h3 | ⟨h3, h3', h3''⟩
  · subst h3
    have e0 : ∀ c : Int, a + c + 2 * 0 = a + c := fun c => by omega
    rw [e0 2, e0 3, e0 4] at h4
    rw [e0 2] at h5 h6
    have : T (a + 2) ≠ 115 := by
      rcases h4 with h4 | ⟨h4, h4', -⟩
      · subst h4
        rw [show a + 2 + 3 * 0 = a + 2 by omega] at h5 h6
        rcases h5 with h5 | ⟨h5, h5'⟩
        · rw [h5, show a + 2 + 0 = a + 2 by omega] at h6; omega
        · omega
      · omega
    rw [if_neg this]
    refine seg_ph2 _ _ _ ha ?_ h5 h6 (by omega)
    rw [show a + 2 + 1 = a + 3 by omega, show a + 2 + 2 = a + 4 by omega]
    exact h4
  · subst h3
    have e0 : ∀ c : Int, a + c + 2 * 1 = a + (c + 2) := fun c => by omega
    rw [e0 2, e0 3, e0 4] at h4
    rw [e0 2] at h5 h6
    rw [if_pos h3', show a + 2 + 1 = a + 3 by omega, cur_lt (by omega), if_pos h3'']
    refine seg_ph2 (y := y) (q := q) _ _ _ ha ?_ ?_ ?_ (by omega)
    · rw [show a + 2 + 2 = a + (2 + 2) by omega, show a + (2 + 2) + 1 = a + (3 + 2) by omega, show a + (2 + 2) + 2 = a + (4 + 2) by omega]
      exact h4
    · rw [show a + 2 + 2 = a + (2 + 2) by omega]
      exact h5
    · rw [show a + 2 + 2 = a + (2 + 2) by omega]
      exact h6
/-- a text of k phases -/
def segs (T : Int → Int) (k : Nat) (n : Int) : Prop := ∃ pos : Nat → Int, pos 0 = 0 ∧ pos k = n ∧ ∀ j, j < k → seg T (pos j) (pos (j + 1))
theorem segs_0 : segs T 0 0 := ⟨fun _ => 0, rfl, rfl, fun j h => by omega⟩
theorem segs_s {T' : Int → Int} {k : Nat} {n' : Int} (h : segs T k n) (e : ∀ j, 0 ≤ j → j < n → T' j = T j) (hs : seg T' n n') : segs T' (k + 1) n' := by
  obtain ⟨pos, p0, pk, hp⟩ := h
  have mono : ∀ i, i ≤ k → 0 ≤ pos i ∧ pos i ≤ pos k ∧ (i < k → pos (i + 1) ≤ pos k) := by
    have up1 : ∀ j, j ≤ k → ∀ i, i ≤ j → pos i ≤ pos j := by
      intro j
      induction j with
      | zero => intro _ i hi; rw [show i = 0 by omega]; exact Int.le_refl _
      | succ j ih =>
        intro hj i hi
        have := (hp j (by omega)).lt
        by_cases e : i = j + 1
        · rw [e]; exact Int.le_refl _
        · have := ih (by omega) i (by omega); omega
    intro i hi
    refine ⟨by have := up1 i hi 0 (by omega); omega, up1 k (Nat.le_refl _) i hi, fun q => up1 k (Nat.le_refl _) (i + 1) (by omega)⟩
  refine ⟨fun j => if j ≤ k then pos j else n', by dsimp only; rw [if_pos (by omega)]; exact p0, by dsimp only; rw [if_neg (by omega)], fun j hj => ?_⟩
  dsimp only
  rw [if_pos (by omega)]
  by_cases hjk : j + 1 ≤ k
  · rw [if_pos hjk]
    have m1 := mono j (by omega)
    refine (hp j (by omega)).congr (fun i i0 i1 => e i (by omega) ?_)
    have := m1.2.2 (by omega)
    omega
  · rw [if_neg hjk, show j = k by omega, pk]
    exact hs
theorem segs_go {k : Nat} (h : segs T k n) (hk : 1 ≤ k ∧ k ≤ 8) : (t_all T n).1 = 0 ∧ (t_all T n).2.2.length = k := by
  obtain ⟨pos, p0, pk, hp⟩ := h
  have mono : ∀ d i, i + d = k → pos i ≤ n ∧ (d ≠ 0 → pos i < n) := by
    intro d
    induction d with
    | zero => intro i hi; rw [show i = k by omega, pk]; exact ⟨Int.le_refl _, fun q => absurd rfl q⟩
    | succ d ih =>
      intro i hi
      have h1 := ih (i + 1) (by omega)
      have h2 := (hp i (by omega)).lt
      exact ⟨by omega, fun _ => by omega⟩
  have go : ∀ d f i (l : List Int), i + d = k → 1 ≤ d → d ≤ f → (t_go T n f (i : Int) (pos i) l).1 = 0 ∧ (t_go T n f (i : Int) (pos i) l).2.2.length = l.length + d := by
    intro d
    induction d with
    | zero => intro f i l hi h1 _; omega
    | succ d ih =>
      intro f i l hi _ hf
      obtain ⟨f', rfl⟩ : ∃ f', f = f' + 1 := ⟨f - 1, by omega⟩
      have hm := mono d (i + 1) (by omega)
      have hs := seg_phase (k := (i : Int)) (hp i (by omega)) hm.1 (by omega)
      unfold t_go
      rw [if_neg (by omega)]
      rw [hs.2]
      by_cases hd : d = 0
      · rw [if_neg (by rw [show i + 1 = k by omega, pk]; omega)]
        refine ⟨rfl, ?_⟩
        show (l ++ [_]).length = _
        rw [List.length_append]
        simp
        omega
      · rw [if_pos (hm.2 hd)]
        have := ih f' (i + 1) (l ++ [(t_phase T n (i : Int) (pos i)).2.2]) (by omega) (by omega) (by omega)
        rw [show (((i + 1 : Nat)) : Int) = (i : Int) + 1 from rfl] at this
        refine ⟨this.1, ?_⟩
        rw [this.2, List.length_append]
        simp
        omega
  have := go k 9 0 [] (by omega) hk.1 (by omega)
  rw [p0, show ((0 : Nat) : Int) = 0 from rfl] at this
  unfold t_all
  refine ⟨this.1, ?_⟩
  rw [this.2]
  simp
end SEG
/-- a letter more -/
def txp (ρ : Nat → Int → Int) (c : Int) : Nat → Int → Int := ur (ur ρ 2 (up (ρ 2) (ρ 5 1) c)) 5 (up (ρ 5) 1 (ρ 5 1 + 1))
def tx0 (ρ : Nat → Int → Int) : Nat → Int → Int := ur ρ 5 (up (ρ 5) 1 0)
/-- the text is T0 of n0, and l behind -/
def Ap (T0 : Int → Int) (n0 : Int) (l : List Int) (ρ : Nat → Int → Int) : Prop := ρ 5 1 = n0 + l.length ∧ (∀ j, 0 ≤ j → j < n0 → ρ 2 j = T0 j) ∧ ∀ (i : Nat) (c : Int), l[i]? = some c → ρ 2 (n0 + i) = c
theorem rr_ur {σ : Nat → Int → Int} {i : Nat} {f : Int → Int} (h1 : Rr σ) (h2 : ∀ k, -2147483648 ≤ f k ∧ f k < 2147483648) : Rr (ur σ i f) := fun j k => by
  unfold ur
  split
  · exact h2 k
  · exact h1 j k
theorem rr_up {f : Int → Int} {a v : Int} (h : ∀ k, -2147483648 ≤ f k ∧ f k < 2147483648) (hv : -2147483648 ≤ v ∧ v < 2147483648) : ∀ k, -2147483648 ≤ up f a v k ∧ up f a v k < 2147483648 := fun k => by
  unfold up
  split
  · exact hv
  · exact h k
theorem JA.congrP {U B : Int → Int → Int} {S P P' : Int → Int} {n2 n3 x : Int} (h : JA U B S P n2 n3 x) (eP : ∀ b, 0 ≤ b → b < n3 → B b 8 ≠ -1 → P' b = P b) : JA U B S P' n2 n3 x := by
  obtain ⟨h1, h2, h3, h4, h5, h6, h7⟩ := h
  refine ⟨h1, h2, ?_, h4, h5, h6, ?_⟩
  · intro b b0 b1 bx b8
    rw [eP b b0 b1 b8]
    exact h3 b b0 b1 bx b8
  · intro k k0 k1 kS
    have := h7 k k0 k1 kS
    rw [eP _ this.1.1 this.1.2 this.2.2.2]
    exact this
section TXT
variable {G : xG} {e : Nat} {m : Int → Int} {ρ : Nat → Int → Int} {T0 : Int → Int} {n0 c : Int} {l : List Int}
theorem Ap.at (h : Ap T0 n0 l ρ) {i : Nat} {c : Int} (hi : l[i]? = some c) : ρ 2 (n0 + i) = c := h.2.2 i c hi
theorem Ap.nil (hn : ρ 5 1 = n0) (hT : ρ 2 = T0) : Ap T0 n0 [] ρ := ⟨by simp [hn], fun j _ _ => by rw [hT], fun i c h => by simp at h⟩
theorem Ap.put (h : Ap T0 n0 l ρ) : Ap T0 n0 (l ++ [c]) (txp ρ c) := by
  obtain ⟨h1, h2, h3⟩ := h
  have e5 : txp ρ c 5 1 = ρ 5 1 + 1 := by unfold txp; rw [ur_eq, up_eq rfl]
  have e2 : txp ρ c 2 = up (ρ 2) (ρ 5 1) c := by unfold txp; rw [ur_ne (by decide), ur_eq]
  refine ⟨by rw [e5, List.length_append]; simp; omega, fun j j0 j1 => ?_, fun i d hi => ?_⟩
  · rw [e2, up_ne (by omega)]
    exact h2 j j0 j1
  · rw [e2]
    rw [List.getElem?_append] at hi
    split at hi
    · next q => rw [up_ne (by omega)]; exact h3 i d hi
    · next q =>
      have hq : i - l.length = 0 := by
        by_cases z : i - l.length = 0
        · exact z
        · rw [List.getElem?_eq_none (by simp; omega)] at hi
          cases hi
      rw [hq] at hi
      have : c = d := Option.some.inj hi
      rw [up_eq (by omega)]
      exact this
theorem OK.txp (h : OK m ρ) (hc : 32 ≤ c ∧ c ≤ 126) (hl : ρ 5 1 < 100) : OK m (txp ρ c) := by
  have hI := IL_type h.I (x := c)
  unfold o_type at hI
  rw [if_neg (by omega), if_neg (by omega)] at hI
  have h0 := h.I.2.2.1.2
  exact ⟨hI, h.Q, h.J, rr_ur (rr_ur h.R (rr_up (h.R 2) (by omega))) (rr_up (h.R 5) (by omega)), h.2.2.2.2⟩
theorem OK.tx0 (h : OK m ρ) : OK m (tx0 ρ) := by
  have hI := IL_clearText h.I
  exact ⟨hI, h.Q, h.J, rr_ur h.R (rr_up (h.R 5) (by omega)), h.2.2.2.2⟩
theorem q_type (h : IL m ρ) (hc : 32 ≤ c ∧ c ≤ 126) (hl : ρ 5 1 < 100) : QD G e m ρ yX6_type cX6_type 2 ({ frames := 1, cells := 0, slots := 0, locals := 22 } : Room) [vi c] (ρ 5 1 + 1) m (txp ρ c) := by
  refine QD.of (fun l => c_X6_type h (by omega)) ?_
  unfold o_type
  rw [if_neg (by omega), if_neg (by omega)]
  rfl
theorem q_clearText (h : IL m ρ) : QD G e m ρ yX6_clearText cX6_clearText 2 ({ frames := 0, cells := 0, slots := 0, locals := 0 } : Room) [] (ρ 5 1) m (tx0 ρ) := QD.of (fun l => c_X6_clearText h) rfl
theorem q_faultN {w : Int} (h : IL m ρ) (hw : 0 ≤ w ∧ w ≤ 1) (ha : (t_all (ρ 2) (ρ 5 1)).1 = 0) : QD G e m ρ yX6_fault cX6_fault 2 ({ frames := 6, cells := 0, slots := 0, locals := 130 } : Room) [vi w] (-4) m ρ := by
  refine QD.of (fun l => c_X6_fault h (by omega)) ?_
  unfold o_fault
  rw [if_neg (by omega), if_pos ha]
theorem q_fault {w : Int} (h : IL m ρ) (hw : 0 ≤ w ∧ w ≤ 1) (ha : (t_all (ρ 2) (ρ 5 1)).1 ≠ 0) : QD G e m ρ yX6_fault cX6_fault 2 ({ frames := 6, cells := 0, slots := 0, locals := 130 } : Room) [vi w] (if w = 0 then (t_all (ρ 2) (ρ 5 1)).2.1 else (t_all (ρ 2) (ρ 5 1)).1) m ρ := by
  refine QD.of (fun l => c_X6_fault h (by omega)) ?_
  unfold o_fault
  rw [if_neg (by omega), if_neg ha]
theorem q_recipeF {r : Int} (h : IL m ρ) (hr : 0 ≤ r ∧ r ≤ 5) (ha : (t_all (ρ 2) (ρ 5 1)).1 = 0) (h9 : vr m r = 9) : QD G e m ρ yX6_recipe cX6_recipe 3 ({ frames := 6, cells := 0, slots := 0, locals := 130 } : Room) [vi r] (-3) m ρ := by
  unfold vr at h9
  refine QD.of (fun l => c_X6_recipe h (by omega)) ?_
  unfold o_recipe
  rw [if_neg (by omega), if_neg (by omega), if_pos h9]
theorem q_recipe {r : Int} (h : IL m ρ) (hr : 0 ≤ r ∧ r ≤ 5) (ha : (t_all (ρ 2) (ρ 5 1)).1 = 0) (h9 : vr m r ≠ 9) : QD G e m ρ yX6_recipe cX6_recipe 3 ({ frames := 6, cells := 0, slots := 0, locals := 130 } : Room) [vi r] (vr m r + 1) (s_recipe m r (t_all (ρ 2) (ρ 5 1)).2.2) (s_keep m ρ) := by
  unfold vr at *
  refine QD.of (fun l => c_X6_recipe h (by omega)) ?_
  unfold o_recipe
  rw [if_neg (by omega), if_neg (by omega), if_neg h9]
theorem OK_recipe {r : Int} (h : OK m ρ) (hm : ∀ k, -2147483648 ≤ m k ∧ m k < 2147483648) (hr : 0 ≤ r ∧ r ≤ 4) (ha : (t_all (ρ 2) (ρ 5 1)).1 = 0) (h9 : vr m r ≠ 9) : OK (s_recipe m r (t_all (ρ 2) (ρ 5 1)).2.2) (s_keep m ρ) ∧ (s_recipe m r (t_all (ρ 2) (ρ 5 1)).2.2 1 = m 1 ∧ s_recipe m r (t_all (ρ 2) (ρ 5 1)).2.2 2 = m 2 ∧ s_recipe m r (t_all (ρ 2) (ρ 5 1)).2.2 3 = m 3) ∧ vr (s_recipe m r (t_all (ρ 2) (ρ 5 1)).2.2) r = vr m r + 1 ∧ (0 < pq (s_recipe m r (t_all (ρ 2) (ρ 5 1)).2.2) r (vr m r + 1) ((t_all (ρ 2) (ρ 5 1)).2.2.length - 1) 1 ∧ pq (s_recipe m r (t_all (ρ 2) (ρ 5 1)).2.2) r (vr m r + 1) (t_all (ρ 2) (ρ 5 1)).2.2.length 0 = -4) := by
  have hb := h.I.b
  have hR := h.G
  have hall := (all_rg h.I.2.2.2.1).2.2 ha
  have hI := IL_recipe h.I (x := r)
  have hvs := (Iv_iff.mp h.I.1).1.vs (r := r) (by omega) (by omega)
  unfold vr at *
  unfold o_recipe at hI
  rw [if_neg (by omega), if_neg (by omega), if_neg h9] at hI
  generalize (t_all (ρ 2) (ρ 5 1)).2.2 = l at *
  obtain ⟨r1, r2, r3, r4, r5, r6, r7⟩ := Iv_recipe h.I.1 (r := r) (l := l) (by omega) (by omega) ⟨hall.2.1, hall.2.2⟩ hall.1
  have e : ∀ k, (k < 56 ∨ 548 ≤ k) → s_recipe m r l k = m k := r2
  refine ⟨h.keep hm hI ?_ (h.J.fr (by omega) (e 4 (by omega)) (fun k k0 k1 => e k (by omega)) (by rw [e 3 (by omega)]; exact Int.le_refl _) (by rw [e 1 (by omega)]; exact Int.le_refl _)) ?_, ⟨e 1 (by omega), e 2 (by omega), e 3 (by omega)⟩, r3, ?_, ?_⟩
  · unfold JQ
    rw [e 2 (by omega), e 3 (by omega)]
    refine (JA.congr (U' := mU (s_recipe m r l)) (B' := mB (s_recipe m r l)) (S' := mS (s_recipe m r l)) h.Q (fun u w u0 u1 w0 w1 => e _ (by omega)) (fun u u0 u1 q => by rw [← q]; exact e _ (by omega)) (fun y w y0 y1 w0 w1 w3 => e _ (by omega)) (fun k k0 k1 => e _ (by omega)) (fun _ _ _ => rfl)).congrP (fun y y0 y1 y8 => ?_)
    have y8' : m (548 + 10 * y + 8) ≠ -1 := by
      rw [← e (548 + 10 * y + 8) (by omega)]
      exact y8
    have hst := (h.st y0 y1).1 y8'
    have hB1 := ((Iv_iff.mp h.I.1).2.1 y y0 y1).2 (by omega)
    have hB := (Iv_iff.mp h.I.1).1.b y0 y1
    have hpp := (Iv_iff.mp h.I.1).1.page y0 y1
    unfold okB0 at hB
    have hp := (hR.2.2 y y0 y1)
    have hpg : pgB m y ≠ 9 * r + m (56 + r) := by
      unfold pgB
      intro q
      have hv := hB.2.1
      by_cases c : m (548 + 10 * y + 0) = r
      · rw [c] at hv q; omega
      · have hv2 := (Iv_iff.mp h.I.1).1.vs (r := m (548 + 10 * y + 0)) (by omega) (by omega)
        omega
    unfold mP phB
    rw [e (548 + 10 * y + 6) (by omega), pgB_eq (m := m) (e _ (by omega)) (e _ (by omega))]
    exact (r7 (pgB m y) (by omega) (by omega) hpg).2 _ (by omega) (by omega)
  · have := r4 5 (by omega) (by omega) (by omega)
    rw [show (56 : Int) + 5 = 61 by omega] at this
    rw [this]
    exact h.2.2.2.2
  · unfold pq
    rw [show (62 : Int) + 9 * r + (m (56 + r) + 1) - 1 = 62 + (9 * r + m (56 + r)) by omega, r5, if_pos (by omega), show (116 : Int) + 8 * (9 * r + (m (56 + r) + 1) - 1) + ((l.length : Int) - 1) = 116 + 8 * (9 * r + m (56 + r)) + ((l.length : Int) - 1) by omega, r6 _ (by omega) (by omega)]
    have hmem : l.getD ((l.length : Int) - 1).toNat 0 ∈ l := by
      have hlt : ((l.length : Int) - 1).toNat < l.length := by omega
      rw [List.getD_eq_getElem?_getD, List.getElem?_eq_getElem hlt]
      exact List.getElem_mem hlt
    have := hall.1 _ hmem
    unfold okP at this
    show 0 < l.getD ((l.length : Int) - 1).toNat 0 / 4 % 128
    omega
  · unfold pq
    rw [show (62 : Int) + 9 * r + (m (56 + r) + 1) - 1 = 62 + (9 * r + m (56 + r)) by omega, r5, if_neg (by omega)]
end TXT

/-! ===== texts: how they are read ===== -/
def t_cur (T : Int → Int) (n a : Int) : Int := if a < n then T a else -1
def t_flt (n a : Int) : Int := if a = n then 3 else 1
def t_scan (T : Int → Int) (n : Int) : Nat → Int → Int → Int × Int
  | 0, a, v => (a, v)
  | f + 1, a, v => if 48 ≤ t_cur T n a ∧ t_cur T n a ≤ 57 then t_scan T n f (a + 1) (10 * v + t_cur T n a - 48) else (a, v)
/-- a number: the reason of its fault, where reading stands, the number -/
def t_num (T : Int → Int) (n : Int) (f : Nat) (mx a : Int) : Int × Int × Int :=
  if (t_scan T n f a 0).1 = a then (t_flt n a, a, (t_scan T n f a 0).2) else if ¬ (1 ≤ (t_scan T n f a 0).2 ∧ (t_scan T n f a 0).2 ≤ mx) then (2, a, (t_scan T n f a 0).2) else
  if 48 ≤ t_cur T n (t_scan T n f a 0).1 ∧ t_cur T n (t_scan T n f a 0).1 ≤ 57 then (t_flt n (t_scan T n f a 0).1, (t_scan T n f a 0).1, (t_scan T n f a 0).2) else (0, (t_scan T n f a 0).1, (t_scan T n f a 0).2)
def t_kind (c : Int) : Int := if c = 109 then 0 else if c = 114 then 1 else if c = 102 then 2 else if c = 112 then 3 else -1
def t_yld (T : Int → Int) (n a : Int) : Int × Int × Int := if t_cur T n a = 121 then t_num T n 3 100 (a + 1) else (0, a, 100)
def t_mk (T : Int → Int) (n a : Int) : Int := if t_cur T n a = 97 then 1 else 0
/-- behind the yield -/
def t_ph3 (T : Int → Int) (n kd dr pc yl a : Int) : Int × Int × Int :=
  if t_cur T n (a + t_mk T n a) = 59 then (0, a + t_mk T n a + 1, kd + dr * 4 + (pc + 1) * 512 + yl * 2048 + t_mk T n a * 262144) else (t_flt n (a + t_mk T n a), a + t_mk T n a, 0)
/-- behind the piece of shared equipment -/
def t_ph2 (T : Int → Int) (n kd dr pc a : Int) : Int × Int × Int :=
  if (t_yld T n a).1 ≠ 0 then ((t_yld T n a).1, (t_yld T n a).2.1, 0) else t_ph3 T n kd dr pc (t_yld T n a).2.2 (t_yld T n a).2.1
/-- behind the duration -/
def t_ph1 (T : Int → Int) (n kd dr a : Int) : Int × Int × Int :=
  if t_cur T n a = 115 then (if 48 ≤ t_cur T n (a + 1) ∧ t_cur T n (a + 1) ≤ 50 then t_ph2 T n kd dr (t_cur T n (a + 1) - 48) (a + 2) else (t_flt n (a + 1), a + 1, 0)) else t_ph2 T n kd dr (-1) a
/-- a phase: the reason of its fault, where reading stands, the phase packed -/
def t_phase (T : Int → Int) (n k a : Int) : Int × Int × Int :=
  if t_kind (t_cur T n a) = -1 then (t_flt n a, a, 0) else if k = 8 then (4, a, 0) else
  if (t_num T n 2 99 (a + 1)).1 ≠ 0 then ((t_num T n 2 99 (a + 1)).1, (t_num T n 2 99 (a + 1)).2.1, 0) else t_ph1 T n (t_kind (t_cur T n a)) (t_num T n 2 99 (a + 1)).2.2 (t_num T n 2 99 (a + 1)).2.1
def t_go (T : Int → Int) (n : Int) : Nat → Int → Int → List Int → Int × Int × List Int
  | 0, _, a, l => (4, a, l)
  | f + 1, k, a, l => if (t_phase T n k a).1 ≠ 0 then ((t_phase T n k a).1, (t_phase T n k a).2.1, l) else if (t_phase T n k a).2.1 < n then t_go T n f (k + 1) (t_phase T n k a).2.1 (l ++ [(t_phase T n k a).2.2]) else (0, (t_phase T n k a).2.1, l ++ [(t_phase T n k a).2.2])
/-- a text: the reason of its fault, its place, its phases -/
def t_all (T : Int → Int) (n : Int) : Int × Int × List Int := t_go T n 9 0 0 []
section TX
variable {T : Int → Int} {n : Int}
def okT (T : Int → Int) (n : Int) : Prop := (0 ≤ n ∧ n ≤ 100) ∧ ∀ k, 0 ≤ k → k < n → 32 ≤ T k ∧ T k ≤ 126
theorem cur_rg (h : okT T n) {a : Int} (ha : 0 ≤ a) : (a < n ∧ 32 ≤ t_cur T n a ∧ t_cur T n a ≤ 126) ∨ (n ≤ a ∧ t_cur T n a = -1) := by
  unfold t_cur
  split
  · next q => exact Or.inl ⟨q, h.2 a ha q⟩
  · next q => exact Or.inr ⟨by omega, rfl⟩
theorem flt_rg (a : Int) : t_flt n a = 1 ∨ t_flt n a = 3 := by
  unfold t_flt
  split
  · exact Or.inr rfl
  · exact Or.inl rfl
theorem scan_rg (h : okT T n) : ∀ (f : Nat) (a v : Int), 0 ≤ a → 0 ≤ v → a ≤ (t_scan T n f a v).1 ∧ (t_scan T n f a v).1 ≤ a + f ∧ ((t_scan T n f a v).1 = a ∨ (t_scan T n f a v).1 ≤ n) ∧ 0 ≤ (t_scan T n f a v).2 ∧ (t_scan T n f a v).2 + 1 ≤ (v + 1) * ((10 ^ f : Nat) : Int)
  | 0, a, v, _, hv => by simp [t_scan]; omega
  | f + 1, a, v, ha, hv => by
    unfold t_scan
    split
    · next hd =>
      have hc := cur_rg h ha
      obtain ⟨h1, h2, h3, h4, h5⟩ := scan_rg h f (a + 1) (10 * v + t_cur T n a - 48) (by omega) (by omega)
      refine ⟨by omega, by omega, by omega, h4, Int.le_trans h5 ?_⟩
      have hp : (0 : Int) ≤ ((10 ^ f : Nat) : Int) := Int.natCast_nonneg _
      have e : ((10 ^ (f + 1) : Nat) : Int) = 10 * ((10 ^ f : Nat) : Int) := by rw [Nat.pow_succ]; omega
      rw [e, ← Int.mul_assoc]
      exact Int.mul_le_mul_of_nonneg_right (by omega) hp
    · have hp : (1 : Int) ≤ ((10 ^ (f + 1) : Nat) : Int) := by exact_mod_cast Nat.pow_pos (show 0 < 10 by decide)
      refine ⟨Int.le_refl _, by simp only; omega, Or.inl rfl, hv, ?_⟩
      simp only
      generalize ((10 ^ (f + 1) : Nat) : Int) = X at hp
      have := Int.mul_le_mul_of_nonneg_left hp (show 0 ≤ v + 1 by omega)
      rwa [Int.mul_one] at this
theorem num_rg (h : okT T n) {f : Nat} {mx a : Int} (ha : 0 ≤ a ∧ a ≤ n) : (0 ≤ (t_num T n f mx a).1 ∧ (t_num T n f mx a).1 ≤ 3) ∧ (a ≤ (t_num T n f mx a).2.1 ∧ (t_num T n f mx a).2.1 ≤ n) ∧ ((t_num T n f mx a).1 = 0 → 1 ≤ (t_num T n f mx a).2.2 ∧ (t_num T n f mx a).2.2 ≤ mx) ∧ (t_num T n f mx a).2.2 = (t_scan T n f a 0).2 := by
  obtain ⟨h1, h2, h3, h4, h5⟩ := scan_rg h f a 0 ha.1 (Int.le_refl 0)
  have q1 := flt_rg (n := n) a
  have q2 := flt_rg (n := n) (t_scan T n f a 0).1
  unfold t_num
  split
  · exact ⟨by simp only; omega, by simp only; omega, by simp only; omega, rfl⟩
  · split
    · exact ⟨by simp only; omega, by simp only; omega, by simp only; omega, rfl⟩
    · split
      · exact ⟨by simp only; omega, by simp only; omega, by simp only; omega, rfl⟩
      · exact ⟨by simp only; omega, by simp only; omega, by simp only; omega, rfl⟩
theorem kind_rg (c : Int) : -1 ≤ t_kind c ∧ t_kind c ≤ 3 ∧ (t_kind c ≠ -1 → c ≠ -1) := by
  unfold t_kind
  (repeat' split) <;> omega
theorem ph3_rg (h : okT T n) {kd dr pc yl a : Int} (ha : 0 ≤ a ∧ a ≤ n) (h1 : 0 ≤ kd ∧ kd ≤ 3) (h2 : 1 ≤ dr ∧ dr ≤ 99) (h3 : -1 ≤ pc ∧ pc ≤ 2) (h4 : 1 ≤ yl ∧ yl ≤ 100) : (0 ≤ (t_ph3 T n kd dr pc yl a).1 ∧ (t_ph3 T n kd dr pc yl a).1 ≤ 4) ∧ (0 ≤ (t_ph3 T n kd dr pc yl a).2.1 ∧ (t_ph3 T n kd dr pc yl a).2.1 ≤ n) ∧ ((t_ph3 T n kd dr pc yl a).1 = 0 → okP (t_ph3 T n kd dr pc yl a).2.2) := by
  have hc := cur_rg h ha.1
  have hm : (t_mk T n a = 1 ∧ a < n) ∨ t_mk T n a = 0 := by
    unfold t_mk
    split
    · left; omega
    · right; rfl
  have hc2 := cur_rg h (a := a + t_mk T n a) (by omega)
  have q := flt_rg (n := n) (a + t_mk T n a)
  unfold t_ph3
  split
  · refine ⟨by simp only; omega, by simp only; omega, fun _ => ?_⟩
    unfold okP
    simp only
    omega
  · exact ⟨by simp only; omega, by simp only; omega, by simp only; omega⟩
theorem yld_rg (h : okT T n) {a : Int} (ha : 0 ≤ a ∧ a ≤ n) : (0 ≤ (t_yld T n a).1 ∧ (t_yld T n a).1 ≤ 3) ∧ (a ≤ (t_yld T n a).2.1 ∧ (t_yld T n a).2.1 ≤ n) ∧ ((t_yld T n a).1 = 0 → 1 ≤ (t_yld T n a).2.2 ∧ (t_yld T n a).2.2 ≤ 100) := by
  have hc := cur_rg h ha.1
  unfold t_yld
  split
  · obtain ⟨g1, g2, g3, -⟩ := num_rg h (f := 3) (mx := 100) (a := a + 1) (by omega)
    exact ⟨g1, by omega, g3⟩
  · exact ⟨by simp only; omega, by simp only; omega, by simp only; omega⟩
theorem ph2_rg (h : okT T n) {kd dr pc a : Int} (ha : 0 ≤ a ∧ a ≤ n) (h1 : 0 ≤ kd ∧ kd ≤ 3) (h2 : 1 ≤ dr ∧ dr ≤ 99) (h3 : -1 ≤ pc ∧ pc ≤ 2) : (0 ≤ (t_ph2 T n kd dr pc a).1 ∧ (t_ph2 T n kd dr pc a).1 ≤ 4) ∧ (0 ≤ (t_ph2 T n kd dr pc a).2.1 ∧ (t_ph2 T n kd dr pc a).2.1 ≤ n) ∧ ((t_ph2 T n kd dr pc a).1 = 0 → okP (t_ph2 T n kd dr pc a).2.2) := by
  obtain ⟨g1, g2, g3⟩ := yld_rg h ha
  unfold t_ph2
  split
  · exact ⟨by simp only; omega, by simp only; omega, by simp only; omega⟩
  · exact ph3_rg h (by omega) h1 h2 h3 (by omega)
theorem ph1_rg (h : okT T n) {kd dr a : Int} (ha : 0 ≤ a ∧ a ≤ n) (h1 : 0 ≤ kd ∧ kd ≤ 3) (h2 : 1 ≤ dr ∧ dr ≤ 99) : (0 ≤ (t_ph1 T n kd dr a).1 ∧ (t_ph1 T n kd dr a).1 ≤ 4) ∧ (0 ≤ (t_ph1 T n kd dr a).2.1 ∧ (t_ph1 T n kd dr a).2.1 ≤ n) ∧ ((t_ph1 T n kd dr a).1 = 0 → okP (t_ph1 T n kd dr a).2.2) := by
  have hc := cur_rg h ha.1
  have hc1 := cur_rg h (a := a + 1) (by omega)
  have q := flt_rg (n := n) (a + 1)
  unfold t_ph1
  split
  · split
    · exact ph2_rg h (by omega) h1 h2 (by omega)
    · exact ⟨by simp only; omega, by simp only; omega, by simp only; omega⟩
  · exact ph2_rg h ha h1 h2 (by omega)
theorem phase_rg (h : okT T n) {k a : Int} (ha : 0 ≤ a ∧ a ≤ n) : (0 ≤ (t_phase T n k a).1 ∧ (t_phase T n k a).1 ≤ 4) ∧ (0 ≤ (t_phase T n k a).2.1 ∧ (t_phase T n k a).2.1 ≤ n) ∧ ((t_phase T n k a).1 = 0 → okP (t_phase T n k a).2.2 ∧ k ≠ 8) := by
  have hk := kind_rg (t_cur T n a)
  have hc := cur_rg h ha.1
  have q := flt_rg (n := n) a
  unfold t_phase
  split
  · exact ⟨by simp only; omega, by simp only; omega, by simp only; omega⟩
  · split
    · exact ⟨by simp only; omega, by simp only; omega, by simp only; omega⟩
    · obtain ⟨g1, g2, g3, -⟩ := num_rg h (f := 2) (mx := 99) (a := a + 1) (by omega)
      split
      · exact ⟨by simp only; omega, by simp only; omega, by simp only; omega⟩
      · next h8 h0 =>
        obtain ⟨f1, f2, f3⟩ := ph1_rg h (kd := t_kind (t_cur T n a)) (dr := (t_num T n 2 99 (a + 1)).2.2) (a := (t_num T n 2 99 (a + 1)).2.1) (by omega) (by omega) (by omega)
        exact ⟨f1, f2, fun z => ⟨f3 z, h8⟩⟩
theorem go_rg (h : okT T n) : ∀ (f : Nat) (k a : Int) (l : List Int), 0 ≤ a → a ≤ n → 0 ≤ k → k + f = 9 → l.length = k.toNat → (∀ p ∈ l, okP p) → (0 ≤ (t_go T n f k a l).1 ∧ (t_go T n f k a l).1 ≤ 4) ∧ (0 ≤ (t_go T n f k a l).2.1 ∧ (t_go T n f k a l).2.1 ≤ n) ∧ ((t_go T n f k a l).1 = 0 → (∀ p ∈ (t_go T n f k a l).2.2, okP p) ∧ 1 ≤ (t_go T n f k a l).2.2.length ∧ (t_go T n f k a l).2.2.length ≤ 8)
  | 0, k, a, l, a0, a1, _, _, _, _ => ⟨by simp [t_go], ⟨a0, a1⟩, fun q => by simp [t_go] at q⟩
  | f + 1, k, a, l, a0, a1, k0, kf, hl, hp => by
    obtain ⟨g1, g2, g3⟩ := phase_rg h (k := k) ⟨a0, a1⟩
    unfold t_go
    split
    · exact ⟨g1, g2, by simp only; omega⟩
    · next h0 =>
      have hq : ∀ p ∈ l ++ [(t_phase T n k a).2.2], okP p := fun p hpp => by
        rcases List.mem_append.mp hpp with e | e
        · exact hp p e
        · rw [List.mem_singleton.mp e]; exact (g3 (by omega)).1
      have hk8 := (g3 (by omega)).2
      split
      · exact go_rg h f (k + 1) _ _ g2.1 g2.2 (by omega) (by omega) (by rw [List.length_append, hl]; simp; omega) hq
      · refine ⟨by simp only; omega, g2, fun _ => ⟨hq, ?_, ?_⟩⟩
        · rw [List.length_append]; simp
        · rw [List.length_append, hl]; simp; omega
theorem all_rg (h : okT T n) : (0 ≤ (t_all T n).1 ∧ (t_all T n).1 ≤ 4) ∧ (0 ≤ (t_all T n).2.1 ∧ (t_all T n).2.1 ≤ n) ∧ ((t_all T n).1 = 0 → (∀ p ∈ (t_all T n).2.2, okP p) ∧ 1 ≤ (t_all T n).2.2.length ∧ (t_all T n).2.2.length ≤ 8) :=
  go_rg h 9 0 0 [] (by omega) h.1.1 (by omega) (by omega) rfl (fun p hp => by cases hp)
end TX
/-! the reference's notes while it reads: at, the reason, the number, the phases -/
def sc (ρ : Nat → Int → Int) (a fr nu : Int) : Int → Int := fun k => if k = 2 then a else if k = 3 then fr else if k = 4 then nu else ρ 5 k
section PTS
variable {G : xG} {b : Nat} {m : Int → Int} {ρ : Nat → Int → Int} {rd : Int → Int} {a fr nu v z : Int}
theorem sc_2 : up (sc ρ a fr nu) 2 v = sc ρ v fr nu := by
  funext k
  unfold up sc
  (repeat' split) <;> first | rfl | omega
theorem sc_3 : up (sc ρ a fr nu) 3 v = sc ρ a v nu := by
  funext k
  unfold up sc
  (repeat' split) <;> first | rfl | omega
theorem sc_4 : up (sc ρ a fr nu) 4 v = sc ρ a fr v := by
  funext k
  unfold up sc
  (repeat' split) <;> first | rfl | omega
end PTS

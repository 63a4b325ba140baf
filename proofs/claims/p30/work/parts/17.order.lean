/-! ===== the order as a list ===== -/
def insL (m : Int → Int) (b : Int) : List Int → List Int
  | [] => [b]
  | c :: l => if m (548 + 10 * c + 3) < m (548 + 10 * b + 3) then b :: c :: l else c :: insL m b l
def ordL (m : Int → Int) : Nat → List Int
  | 0 => []
  | n + 1 => if m (548 + 10 * (n : Int) + 5) = 1 ∨ m (548 + 10 * (n : Int) + 5) = 3 then insL m (n : Int) (ordL m n) else ordL m n
def lrep (o : Int → Int) (l : List Int) : Prop := ∀ k : Nat, k < l.length → l[k]? = some (o (k : Int))
theorem insL_mem {m : Int → Int} {b c : Int} : ∀ {l : List Int}, c ∈ insL m b l ↔ c = b ∨ c ∈ l
  | [] => by simp [insL]
  | d :: l => by
    unfold insL
    split
    · simp
    · rw [List.mem_cons, insL_mem (l := l), List.mem_cons]
      constructor
      · rintro (h | h | h)
        · exact Or.inr (Or.inl h)
        · exact Or.inl h
        · exact Or.inr (Or.inr h)
      · rintro (h | h | h)
        · exact Or.inr (Or.inl h)
        · exact Or.inl h
        · exact Or.inr (Or.inr h)
theorem insL_len {m : Int → Int} {b : Int} : ∀ {l : List Int}, (insL m b l).length = l.length + 1
  | [] => rfl
  | d :: l => by
    unfold insL
    split
    · rfl
    · rw [List.length_cons, insL_len (l := l), List.length_cons]
theorem ordL_mem {m : Int → Int} {c : Int} : ∀ {n : Nat}, c ∈ ordL m n ↔ (0 ≤ c ∧ c < n) ∧ (m (548 + 10 * c + 5) = 1 ∨ m (548 + 10 * c + 5) = 3)
  | 0 => by
    simp [ordL]
    omega
  | n + 1 => by
    unfold ordL
    split
    · next h =>
      rw [insL_mem, ordL_mem (n := n)]
      constructor
      · rintro (h1 | ⟨h1, h2⟩)
        · subst h1; exact ⟨by omega, h⟩
        · exact ⟨by omega, h2⟩
      · rintro ⟨h1, h2⟩
        by_cases e : c = n
        · exact Or.inl e
        · exact Or.inr ⟨by omega, h2⟩
    · next h =>
      rw [ordL_mem (n := n)]
      constructor
      · rintro ⟨h1, h2⟩; exact ⟨by omega, h2⟩
      · rintro ⟨h1, h2⟩
        refine ⟨?_, h2⟩
        by_cases e : c = n
        · subst e; exact absurd h2 h
        · omega
def sdL (m : Int → Int) (l : List Int) : Prop := l.Pairwise (fun a c => m (548 + 10 * c + 3) ≤ m (548 + 10 * a + 3))
theorem insL_sd {m : Int → Int} {b : Int} : ∀ {l : List Int}, sdL m l → sdL m (insL m b l)
  | [], _ => by simp [insL, sdL]
  | d :: l, h => by
    unfold sdL at h ⊢
    obtain ⟨h1, h2⟩ := List.pairwise_cons.mp h
    unfold insL
    split
    · next hd =>
      refine List.pairwise_cons.mpr ⟨fun c hc => ?_, h⟩
      rcases List.mem_cons.mp hc with e | e
      · subst e; omega
      · have := h1 c e; omega
    · next hd =>
      refine List.pairwise_cons.mpr ⟨fun c hc => ?_, insL_sd h2⟩
      rcases insL_mem.mp hc with e | e
      · subst e; omega
      · exact h1 c e
theorem ordL_sd {m : Int → Int} : ∀ {n : Nat}, sdL m (ordL m n)
  | 0 => by simp [ordL, sdL]
  | n + 1 => by
    unfold ordL
    split
    · exact insL_sd ordL_sd
    · exact ordL_sd
theorem insL_nd {m : Int → Int} {b : Int} : ∀ {l : List Int}, l.Nodup → b ∉ l → (insL m b l).Nodup
  | [], _, _ => by simp [insL]
  | d :: l, h, hb => by
    obtain ⟨h1, h2⟩ := List.nodup_cons.mp h
    have hb2 : b ≠ d ∧ b ∉ l := by
      constructor
      · intro e; exact hb (by rw [e]; exact List.mem_cons_self)
      · intro e; exact hb (List.mem_cons_of_mem _ e)
    unfold insL
    split
    · exact List.nodup_cons.mpr ⟨hb, h⟩
    · refine List.nodup_cons.mpr ⟨fun q => ?_, insL_nd h2 hb2.2⟩
      rcases insL_mem.mp q with e | e
      · exact hb2.1 e.symm
      · exact h1 e
theorem ordL_nd {m : Int → Int} : ∀ {n : Nat}, (ordL m n).Nodup
  | 0 => by simp [ordL]
  | n + 1 => by
    unfold ordL
    split
    · exact insL_nd ordL_nd (fun q => by have := (ordL_mem.mp q).1; omega)
    · exact ordL_nd
theorem ordL_len {m : Int → Int} : ∀ {n : Nat}, (ordL m n).length ≤ n
  | 0 => by simp [ordL]
  | n + 1 => by
    have := ordL_len (m := m) (n := n)
    unfold ordL
    split
    · rw [insL_len]; omega
    · omega
theorem insL_at {m : Int → Int} {b : Int} : ∀ {l : List Int} {p : Nat}, p ≤ l.length → (∀ k c, k < p → l[k]? = some c → ¬ m (548 + 10 * c + 3) < m (548 + 10 * b + 3)) → (∀ c, l[p]? = some c → m (548 + 10 * c + 3) < m (548 + 10 * b + 3)) → insL m b l = l.take p ++ b :: l.drop p
  | [], p, h, _, _ => by
    have : p = 0 := by simpa using h
    subst this
    rfl
  | d :: l, 0, h, h1, h2 => by
    unfold insL
    rw [if_pos (h2 d rfl)]
    rfl
  | d :: l, p + 1, h, h1, h2 => by
    unfold insL
    rw [if_neg (h1 0 d (by omega) rfl), insL_at (l := l) (p := p) (by simpa using h) (fun k c hk hc => h1 (k + 1) c (by omega) (by simpa using hc)) (fun c hc => h2 c (by simpa using hc))]
    rfl
theorem ipos_spec {m o : Int → Int} {pb : Int} : ∀ {n : Nat}, (s_ipos m o pb n = 0 ∨ ∃ j : Nat, s_ipos m o pb n = j + 1 ∧ ¬ m (548 + 10 * o (j : Int) + 3) < pb) ∧ ∀ k : Nat, s_ipos m o pb n ≤ k → k < n → m (548 + 10 * o (k : Int) + 3) < pb
  | 0 => ⟨Or.inl rfl, fun k _ h => by omega⟩
  | n + 1 => by
    obtain ⟨h1, h2⟩ := ipos_spec (m := m) (o := o) (pb := pb) (n := n)
    unfold s_ipos
    split
    · next h =>
      refine ⟨h1, fun k k0 k1 => ?_⟩
      by_cases e : k = n
      · subst e; exact h
      · exact h2 k k0 (by omega)
    · next h => exact ⟨Or.inr ⟨n, rfl, h⟩, fun k k0 k1 => by omega⟩
theorem ins_rep {m o : Int → Int} {l : List Int} {b : Int} (hr : lrep o l) (hs : sdL m l) : lrep (s_ins m o l.length b) (insL m b l) := by
  obtain ⟨h1, h2⟩ := ipos_spec (m := m) (o := o) (pb := m (548 + 10 * b + 3)) (n := l.length)
  have hle := s_ipos_le m o (m (548 + 10 * b + 3)) l.length
  generalize hp : s_ipos m o (m (548 + 10 * b + 3)) l.length = p at h1 h2 hle
  have e := insL_at (m := m) (b := b) (l := l) (p := p) hle (fun k c hk hc => by
    rcases h1 with h1 | ⟨j, h1, h3⟩
    · omega
    · have hj : l[j]? = some (o (j : Int)) := hr j (by omega)
      by_cases ek : k = j
      · subst ek
        have ec : c = o (k : Int) := Option.some.inj (hc.symm.trans hj)
        rw [ec]; exact h3
      · have hlt : k < j := by omega
        have hkl : k < l.length := by omega
        have hjl : j < l.length := by omega
        have hq := List.pairwise_iff_getElem.mp hs k j hkl hjl hlt
        rw [List.getElem?_eq_getElem hkl] at hc
        rw [List.getElem?_eq_getElem hjl] at hj
        have ec : l[k] = c := Option.some.inj hc
        have ej : l[j] = o (j : Int) := Option.some.inj hj
        rw [ec, ej] at hq
        omega) (fun c hc => by
    have hpl : p < l.length := (List.getElem?_eq_some_iff.mp hc).1
    have := h2 p (Nat.le_refl _) hpl
    have ec : c = o (p : Int) := Option.some.inj (hc.symm.trans (hr p hpl))
    rw [ec]; exact this)
  intro k hk
  rw [insL_len] at hk
  rw [e, List.getElem?_append]
  have hlt : (l.take p).length = p := by rw [List.length_take]; omega
  rw [hlt]
  unfold s_ins
  rw [hp]
  by_cases c1 : k < p
  · rw [if_pos c1, if_neg (by omega), if_neg (by omega), List.getElem?_take, if_pos c1]
    exact hr k (by omega)
  · rw [if_neg c1]
    by_cases c2 : k = p
    · subst c2
      rw [if_pos rfl, Nat.sub_self]
      rfl
    · rw [if_neg (by omega), if_pos (by omega)]
      obtain ⟨j, hj⟩ : ∃ j, k - p = j + 1 := ⟨k - p - 1, by omega⟩
      rw [hj]
      show (l.drop p)[j]? = _
      rw [List.getElem?_drop, show p + j = k - 1 by omega, hr (k - 1) (by omega), show ((k - 1 : Nat) : Int) = (k : Int) - 1 by omega]
theorem sort_rep {m od : Int → Int} : ∀ {n : Nat}, (s_sort m od n).2 = (ordL m n).length ∧ lrep (s_sort m od n).1 (ordL m n)
  | 0 => ⟨rfl, fun k h => by simp [ordL] at h⟩
  | n + 1 => by
    obtain ⟨h1, h2⟩ := sort_rep (m := m) (od := od) (n := n)
    unfold s_sort ordL
    split
    · refine ⟨by rw [insL_len]; exact congrArg (· + 1) h1, ?_⟩
      show lrep (s_ins m (s_sort m od n).1 (s_sort m od n).2 (n : Int)) _
      rw [h1]
      exact ins_rep h2 ordL_sd
    · exact ⟨h1, h2⟩
/-- fewer are active, the priorities are as they were: the order is what is left of the old one -/
theorem insL_filter {m : Int → Int} {b : Int} {q : Int → Bool} : ∀ {l : List Int}, sdL m l → (insL m b l).filter q = if q b then insL m b (l.filter q) else l.filter q
  | [], _ => by
    unfold insL
    cases hq : q b <;> simp [hq, insL]
  | d :: l, h => by
    obtain ⟨h1, h2⟩ := List.pairwise_cons.mp h
    have hh : ∀ (l' : List Int), (∀ c ∈ l', m (548 + 10 * c + 3) < m (548 + 10 * b + 3)) → insL m b l' = b :: l' := fun l' hl => by
      cases l' with
      | nil => rfl
      | cons c l' =>
        unfold insL
        rw [if_pos (hl c List.mem_cons_self)]
    rw [show insL m b (d :: l) = if m (548 + 10 * d + 3) < m (548 + 10 * b + 3) then b :: d :: l else d :: insL m b l from rfl]
    split
    · next hd =>
      have hall : ∀ c ∈ (d :: l).filter q, m (548 + 10 * c + 3) < m (548 + 10 * b + 3) := fun c hc => by
        have hc1 := (List.mem_filter.mp hc).1
        rcases List.mem_cons.mp hc1 with e | e
        · rw [e]; exact hd
        · have := h1 c e
          omega
      cases hq : q b with
      | true =>
        rw [if_pos rfl, hh _ hall, List.filter_cons, hq]
        rfl
      | false =>
        rw [if_neg (by decide), List.filter_cons, hq]
        rfl
    · next hd =>
      rw [List.filter_cons, insL_filter h2, List.filter_cons]
      cases hqd : q d with
      | true =>
        cases hq : q b with
        | true =>
          simp only [if_true]
          rw [show insL m b (d :: l.filter q) = if m (548 + 10 * d + 3) < m (548 + 10 * b + 3) then b :: d :: l.filter q else d :: insL m b (l.filter q) from rfl, if_neg hd]
        | false => rfl
      | false => rfl
theorem insL_congr {m m' : Int → Int} {b : Int} : ∀ {l : List Int}, (∀ c, c = b ∨ c ∈ l → m' (548 + 10 * c + 3) = m (548 + 10 * c + 3)) → insL m' b l = insL m b l
  | [], _ => rfl
  | d :: l, h => by
    unfold insL
    rw [h d (Or.inr List.mem_cons_self), h b (Or.inl rfl), insL_congr (l := l) (fun c hc => h c (by rcases hc with e | e; exact Or.inl e; exact Or.inr (List.mem_cons_of_mem _ e)))]
theorem ordL_filter {m m' : Int → Int} : ∀ {n : Nat}, (∀ b : Int, 0 ≤ b → b < n → m' (548 + 10 * b + 3) = m (548 + 10 * b + 3)) → (∀ b : Int, 0 ≤ b → b < n → (m' (548 + 10 * b + 5) = 1 ∨ m' (548 + 10 * b + 5) = 3) → (m (548 + 10 * b + 5) = 1 ∨ m (548 + 10 * b + 5) = 3)) → ordL m' n = (ordL m n).filter (fun b => decide (m' (548 + 10 * b + 5) = 1 ∨ m' (548 + 10 * b + 5) = 3))
  | 0, _, _ => rfl
  | n + 1, h1, h2 => by
    have ih := ordL_filter (m := m) (m' := m') (n := n) (fun b b0 b1 => h1 b b0 (by omega)) (fun b b0 b1 => h2 b b0 (by omega))
    have e : insL m' (n : Int) (ordL m' n) = insL m (n : Int) (ordL m' n) := insL_congr (fun c hc => by
      rcases hc with hc | hc
      · exact h1 c (by omega) (by omega)
      · have := (ordL_mem.mp hc).1; exact h1 c (by omega) (by omega))
    unfold ordL
    by_cases ha : m (548 + 10 * (n : Int) + 5) = 1 ∨ m (548 + 10 * (n : Int) + 5) = 3
    · rw [if_pos ha, insL_filter ordL_sd, ← ih]
      by_cases ha' : m' (548 + 10 * (n : Int) + 5) = 1 ∨ m' (548 + 10 * (n : Int) + 5) = 3
      · rw [if_pos ha', if_pos (decide_eq_true ha'), e]
      · rw [if_neg ha', if_neg (by rw [decide_eq_true_eq]; exact ha')]
    · have ha' : ¬ (m' (548 + 10 * (n : Int) + 5) = 1 ∨ m' (548 + 10 * (n : Int) + 5) = 3) := fun q => ha (h2 n (by omega) (by omega) q)
      rw [if_neg ha, if_neg ha', ih]
/-- a tick -/
def s_tick (m : Int → Int) : Int → Int :=
  let m1 := s_clean m (m 2)
  let m2 := (ordL m1 (m1 3).toNat).foldl s_work m1
  up m2 1 (m2 1 + 1)
def s_ticks : Nat → (Int → Int) → Int → Int
  | 0, m => m
  | n + 1, m => s_tick (s_ticks n m)

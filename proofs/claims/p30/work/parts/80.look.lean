/-! ===== what the executive answers when it is asked: numbers of m alone; rows for its calls ===== -/
section PEX
variable {G : xG} {e : Nat} {β : Nat → Int → Int} {m m' od : Int → Int} {ρ ρ' : Nat → Int → Int} {oc : Int} {q : Nat} {F : Nat → Option Nat} {T : Int → Int} {n pc rs pl at_ : Int} {vs : Nat → Int → Int} {N : Int} {S : Int → Int → Int} {H H1 : Heap}
theorem EX.kept (h : EX G e β m od oc q F T n pc rs pl at_ vs N S H) (hq : ∀ q' : Nat, e ≤ q' → q' < e + 198 → H1[q']? = H[q']?) : EX G e β m od oc q F T n pc rs pl at_ vs N S H1 :=
  h.setP (h.2.1.kept (fun q a b => hq q (by omega) (by omega)) (fun q a b => hq q (by omega) (by omega))) (fun q a b _ => hq q a b)
theorem PE.size (h : PE G e m ρ H) : e + 198 ≤ H.size := by
  obtain ⟨w, h, -⟩ := h
  exact h.size
theorem PE.kept (h : PE G e m ρ H) (hq : ∀ q' : Nat, e ≤ q' → q' < e + 198 → H1[q']? = H[q']?) : PE G e m ρ H1 := by
  obtain ⟨w, h, hw⟩ := h
  exact ⟨w, h.kept hq, hw⟩
theorem PE.eqR (h : PE G e m ρ H) (er : eqR ρ ρ') : PE G e m ρ' H := by
  obtain ⟨w, h, hw⟩ := h
  obtain ⟨e1, e2, e3, e4⟩ := er
  refine ⟨w, by rw [e3, e4]; exact h, ?_⟩
  unfold okW at hw ⊢
  have es : ∀ i, sv ρ' i = sv ρ i := fun i => by unfold sv; rw [e1]
  refine ⟨hw.1, by rw [e2]; exact hw.2.1, fun i i0 i1 k k0 k1 => ?_⟩
  rw [es]
  exact hw.2.2 i i0 (by rw [← e3]; exact i1) k k0 k1
theorem PE.rg (h : PE G e m ρ H) : ∀ k, -2147483648 ≤ m k ∧ m k < 2147483648 := by
  obtain ⟨w, h, -⟩ := h
  exact h.2.1.mok.2.2.2
theorem PE.congr (h : PE G e m ρ H) (ek : ∀ k, 0 ≤ k → k < 788 → m' k = m k) (hr : ∀ k, -2147483648 ≤ m' k ∧ m' k < 2147483648) : PE G e m' ρ H := by
  obtain ⟨w, h, hw⟩ := h
  exact ⟨w, h.setP (h.2.1.congr ek hr) (fun q a b c => rfl), hw⟩
end PEX
theorem eqR_ur {ρ : Nat → Int → Int} {i : Nat} {f : Int → Int} (h : i = 0 ∨ i = 4) : eqR (ur ρ i f) ρ := ⟨(ur_ne (by omega)).symm, (ur_ne (by omega)).symm, by rw [ur_ne (by omega)], by rw [ur_ne (by omega)]⟩
/-- a call of the executive: its answer, and what it is then -/
def QD (G : xG) (e : Nat) (m : Int → Int) (ρ : Nat → Int → Int) (y : MethodName) (cc : ByteArray) (nL : Nat) (rm : Room) (As : List Value) (r : Int) (m' : Int → Int) (ρ' : Nat → Int → Int) : Prop :=
  ∃ Q0 : Heap → Prop, (∀ l, CT G l y cc nL (some .int) rm 0 0 (.ref e :: As) (PE G e m ρ) (pI r Q0) (AE e)) ∧ ∀ H, Q0 H → PE G e m' ρ' H
theorem QD.of {G : xG} {e : Nat} {m : Int → Int} {ρ : Nat → Int → Int} {y : MethodName} {cc : ByteArray} {nL : Nat} {rm : Room} {As : List Value} {o : xO} {r : Int} {m' : Int → Int} {ρ' : Nat → Int → Int} (h : ∀ l, CT G l y cc nL (some .int) rm 0 0 (.ref e :: As) (PE G e m ρ) (pI o.1 (PE G e o.2.1 o.2.2)) (AE e)) (he : o = (r, m', ρ')) : QD G e m ρ y cc nL rm As r m' ρ' := by
  subst he
  exact ⟨_, h, fun H h => h⟩
theorem QD.to {G : xG} {e : Nat} {m : Int → Int} {ρ : Nat → Int → Int} {y : MethodName} {cc : ByteArray} {nL : Nat} {rm : Room} {As : List Value} {r : Int} {m' m2 : Int → Int} {ρ' ρ2 : Nat → Int → Int} (h : QD G e m ρ y cc nL rm As r m' ρ') (hh : ∀ H, PE G e m' ρ' H → PE G e m2 ρ2 H) : QD G e m ρ y cc nL rm As r m2 ρ2 := by
  obtain ⟨Q0, h1, h2⟩ := h
  exact ⟨Q0, h1, fun H h => hh H (h2 H h)⟩
section XR20
variable {Γ : xE} {G : xG} {cc : ByteArray} {own : String} {nL : Nat} {rm : Room} {A : Nat → Prop} {kc ks pc : Nat} {L : List (Nat × Value)} {st st0 : List Value}
variable {idx : Nat} {y : MethodName} {bytes : ByteArray} {nL' : Nat} {n : Nat} {rm' : Room} {e : Nat} {As : List Value} {m m' : Int → Int} {ρ ρ' : Nat → Int → Int}
theorem x_qd (B : XB Γ G cc own nL rm A) {r : Int} (lk : LkV own idx y bytes nL' (some .int) 6 n) (hM : QD G e m ρ y bytes nL' rm' As r m' ρ')
    (d : decode cc pc = .ok (.invokevirtual idx, 3)) (hst : st0 = As.reverse ++ .ref e :: st) (hn : As.length = n) (hR : rm'.cells = 0 ∧ rm'.slots = 0 ∧ rm'.frames + 1 ≤ rm.frames ∧ 8 + (nL' + 11) + rm'.locals ≤ rm.locals)
    (hf : kc ≤ rm.cells ∧ ks ≤ rm.slots) (hw : (st.map fun v => v.category).sum ≤ 8) (hAA : ∀ q, AE e q → A q)
    (kk : (-2147483648 ≤ r ∧ r < 2147483648) → XJ Γ kc ks (PE G e m' ρ') (pc + 3) L (vi r :: st)) : XJ Γ kc ks (PE G e m ρ) pc L st0 := by
  obtain ⟨Q0, h1, h2⟩ := hM
  exact x_callVg B lk h1 d hst hn hR hf hw hAA (fun H h => ⟨h, PE.rv H h⟩) (ι := PLift (-2147483648 ≤ r ∧ r < 2147483648)) (v := fun _ => some (vi r)) (P' := fun _ => PE G e m' ρ') (fun v' H H1 _ h _ _ => ⟨⟨h.2.1⟩, h.1, h2 _ h.2.2⟩) (fun i => kk i.down)
/-- a join of branches: what is known there, with a number on the stack or none -/
theorem x_cutI {P : Heap → Prop} (J : Nat) (C : Int → Prop) (k1 : (∀ z, C z → XJ Γ kc ks P J L (vi z :: st)) → XJ Γ kc ks P pc L st) (k2 : ∀ z, C z → XJ Γ kc ks P J L (vi z :: st)) : XJ Γ kc ks P pc L st := k1 k2
theorem x_cut0 {P : Heap → Prop} (J : Nat) (C : Prop) (k1 : (C → XJ Γ kc ks P J L st) → XJ Γ kc ks P pc L st) (k2 : C → XJ Γ kc ks P J L st) : XJ Γ kc ks P pc L st := k1 k2
end XR20
/-! a unit, a batch, a piece, a phase, the order, the journal -/
def ui (m : Int → Int) (u w : Int) : Int := if w = 2 ∧ m (5 + 6 * u + 2) = -1 then -4 else if w < 6 then m (5 + 6 * u + w) else if m (5 + 6 * u + 2) = -1 ∧ m (5 + 6 * u + 3) = 0 ∧ m (5 + 6 * u + 4) = 0 then 1 else 0
def bi (m : Int → Int) (b w : Int) : Int := s_bOf m b w
def hi (m : Int → Int) (k : Int) : Int := if m (53 + k) = -1 then -4 else m (53 + k)
def vr (m : Int → Int) (r : Int) : Int := m (56 + r)
def pq (m : Int → Int) (r v k w : Int) : Int := if k < m (62 + 9 * r + v - 1) then prt (m (116 + 8 * (9 * r + v - 1) + k)) w else -4
def cn (m : Int → Int) (w : Int) : Int := (o_count m (fun _ _ => 0) w).1
def wi (m : Int → Int) (b : Int) : Int := if m (548 + 10 * b + 5) = 1 ∨ m (548 + 10 * b + 5) = 3 then s_reason (s_clean m (m 2)) 0 b else -4
def oi (m : Int → Int) (k : Int) : Int := ((ordL m (m 3).toNat)[k.toNat]?).getD (-4)
def ev (m : Int → Int) (k w : Int) : Int := if k < m 4 then m (668 + 3 * k + w) else -4
def ti (m : Int → Int) (b : Int) : Int := s_to m b 2000 0
section QRD
variable {G : xG} {e : Nat} {m : Int → Int} {ρ : Nat → Int → Int}
theorem IL.b (h : IL m ρ) : (0 ≤ m 0 ∧ m 0 ≤ 30) ∧ (0 ≤ m 1 ∧ m 1 ≤ 50000) ∧ (0 ≤ m 2 ∧ m 2 ≤ 8) ∧ (0 ≤ m 3 ∧ m 3 ≤ 12) ∧ (0 ≤ m 4 ∧ m 4 ≤ 40) := by
  have := h.1.n
  have := h.2.1
  omega
theorem q_unitInfo {u w : Int} (h1 : IL m ρ) (h2 : 0 ≤ u ∧ u < m 2) (h3 : 0 ≤ w ∧ w ≤ 6) : QD G e m ρ yX6_unitInfo cX6_unitInfo 4 ({ frames := 2, cells := 0, slots := 0, locals := 42 } : Room) [vi u, vi w] (ui m u w) m ρ := by
  have hb := h1.b
  refine QD.of (fun l => c_X6_unitInfo h1 (by omega) (by omega)) ?_
  unfold o_unitInfo ui
  rw [if_neg (by omega)]
  split
  · rfl
  · split <;> rfl
theorem q_batchInfo {u w : Int} (h1 : IL m ρ) (h2 : 0 ≤ u ∧ u < m 3) (h3 : 0 ≤ w ∧ w ≤ 11) : QD G e m ρ yX6_batchInfo cX6_batchInfo 4 ({ frames := 3, cells := 0, slots := 0, locals := 66 } : Room) [vi u, vi w] (bi m u w) m ρ := by
  have hb := h1.b
  refine QD.of (fun l => c_X6_batchInfo h1 (by omega) (by omega)) ?_
  unfold o_batchInfo bi s_bOf
  rw [if_neg (by omega)]
theorem q_shared {k : Int} (h1 : IL m ρ) (h2 : 0 ≤ k ∧ k < 3) : QD G e m ρ yX6_shared cX6_shared 2 ({ frames := 2, cells := 0, slots := 0, locals := 42 } : Room) [vi k] (hi m k) m ρ := by
  refine QD.of (fun l => c_X6_shared h1 (by omega)) ?_
  unfold o_shared hi
  rw [if_neg (by omega)]
  split <;> rfl
theorem q_versions {r : Int} (h1 : IL m ρ) (h2 : 0 ≤ r ∧ r < 6) : QD G e m ρ yX6_versions cX6_versions 2 ({ frames := 2, cells := 0, slots := 0, locals := 42 } : Room) [vi r] (vr m r) m ρ := by
  refine QD.of (fun l => c_X6_versions h1 (by omega)) ?_
  unfold o_versions vr
  rw [if_pos (by omega)]
theorem q_phase {r v k w : Int} (h1 : IL m ρ) (h2 : 0 ≤ r ∧ r < 6) (h3 : 1 ≤ v ∧ v ≤ vr m r) (h4 : 0 ≤ k ∧ k < 2147483648) (h5 : 0 ≤ w ∧ w ≤ 4) : QD G e m ρ yX6_phase cX6_phase 5 ({ frames := 2, cells := 0, slots := 0, locals := 42 } : Room) [vi r, vi v, vi k, vi w] (pq m r v k w) m ρ := by
  have hv := (Iv_iff.mp h1.1).1.vs (r := r) (by omega) (by omega)
  unfold vr at h3
  refine QD.of (fun l => c_X6_phase h1 (by omega) (by omega) (by omega) (by omega)) ?_
  unfold o_phase pq
  rw [if_neg (by omega)]
  split <;> rfl
theorem q_count {w : Int} (h1 : IL m ρ) (h2 : (0 ≤ w ∧ w ≤ 13) ∨ (16 ≤ w ∧ w ≤ 17)) : QD G e m ρ yX6_count cX6_count 2 ({ frames := 2, cells := 0, slots := 0, locals := 43 } : Room) [vi w] (cn m w) m ρ := by
  refine QD.of (fun l => c_X6_count h1 (by omega)) ?_
  unfold cn o_count
  have a : ¬ w = 14 := by omega
  have b : ¬ w = 15 := by omega
  simp only [if_neg a, if_neg b]
theorem q_count14 (h1 : IL m ρ) : QD G e m ρ yX6_count cX6_count 2 ({ frames := 2, cells := 0, slots := 0, locals := 43 } : Room) [vi 14] (ρ 5 0) m ρ := QD.of (fun l => c_X6_count h1 (by omega)) rfl
theorem q_count15 (h1 : IL m ρ) : QD G e m ρ yX6_count cX6_count 2 ({ frames := 2, cells := 0, slots := 0, locals := 43 } : Room) [vi 15] (ρ 5 1) m ρ := QD.of (fun l => c_X6_count h1 (by omega)) rfl
theorem q_waits {b : Int} (h1 : IL m ρ) (h2 : 0 ≤ b ∧ b < m 3) : QD G e m ρ yX6_waits cX6_waits 2 ({ frames := 4, cells := 0, slots := 0, locals := 94 } : Room) [vi b] (wi m b) m ρ := by
  have hb := h1.b
  refine (?_ : QD _ _ _ _ _ _ _ _ _ _ m (o_waits m ρ b).2.2).to (fun H h => h.eqR ?_)
  · refine QD.of (fun l => c_X6_waits h1 (by omega)) ?_
    by_cases c : m (548 + 10 * b + 5) = 1 ∨ m (548 + 10 * b + 5) = 3
    · have q : o_waits m ρ b = (s_reason (s_clean m (m 2)) 0 b, m, ur ρ 0 (cpyN m (ρ 0) 0 0 788)) := by
        unfold o_waits
        rw [if_neg (by omega), if_neg (fun q => q c)]
      unfold wi
      rw [q, if_pos c]
    · have q : o_waits m ρ b = (-4, m, ρ) := by
        unfold o_waits
        rw [if_neg (by omega), if_pos c]
      unfold wi
      rw [q, if_neg c]
  · unfold o_waits
    split
    · exact ⟨rfl, rfl, rfl, rfl⟩
    · split
      · exact ⟨rfl, rfl, rfl, rfl⟩
      · exact eqR_ur (Or.inl rfl)
theorem q_inOrder {k : Int} (h1 : IL m ρ) (h2 : 0 ≤ k ∧ k < 2147483648) : QD G e m ρ yX6_inOrder cX6_inOrder 2 ({ frames := 2, cells := 0, slots := 0, locals := 43 } : Room) [vi k] (oi m k) m ρ := by
  refine (?_ : QD _ _ _ _ _ _ _ _ _ _ m (o_inOrder m ρ k).2.2).to (fun H h => h.eqR ?_)
  · refine QD.of (fun l => c_X6_inOrder h1 (by omega)) ?_
    obtain ⟨g1, g2⟩ := sort_rep (m := m) (od := ρ 4) (n := (m 3).toNat)
    unfold o_inOrder oi
    rw [if_neg (by omega)]
    refine Prod.ext ?_ rfl
    show (if k < _ then _ else _) = _
    by_cases hk : k < ((s_sort m (ρ 4) (m 3).toNat).2 : Int)
    · rw [if_pos hk]
      have := g2 k.toNat (by omega)
      rw [this, show ((k.toNat : Nat) : Int) = k by omega]
      rfl
    · rw [if_neg hk, List.getElem?_eq_none (by omega)]
      rfl
  · unfold o_inOrder
    split
    · exact ⟨rfl, rfl, rfl, rfl⟩
    · exact eqR_ur (Or.inr rfl)
theorem q_event {k w : Int} (h1 : IL m ρ) (h2 : 0 ≤ k ∧ k < 2147483648) (h3 : 0 ≤ w ∧ w ≤ 2) : QD G e m ρ yX6_event cX6_event 3 ({ frames := 1, cells := 0, slots := 0, locals := 23 } : Room) [vi k, vi w] (ev m k w) m ρ := by
  refine QD.of (fun l => c_X6_event h1 (by omega) (by omega)) ?_
  unfold o_event ev
  rw [if_neg (by omega)]
  split <;> rfl
theorem q_ticksTo {b : Int} (h1 : IL m ρ) (h2 : 0 ≤ b ∧ b < m 3) : QD G e m ρ yX6_ticksTo cX6_ticksTo 5 ({ frames := 6, cells := 0, slots := 0, locals := 140 } : Room) [vi b] (ti m b) m ρ := by
  have hb := h1.b
  refine QD.of (fun l => c_X6_ticksTo h1 (by omega)) ?_
  unfold o_ticksTo ti
  rw [if_neg (by omega)]
end QRD

/-! ===== the law: its script, its two objects ===== -/
def xz (xs : Nat → Int32) (z : Int) : Int := (xs z.toNat).toInt
theorem xz_rg {xs : Nat → Int32} {z : Int} : -2147483648 ≤ xz xs z ∧ xz xs z < 2147483648 := by
  have h1 := Int32.le_toInt (xs z.toNat)
  have h2 := Int32.toInt_lt (xs z.toNat)
  unfold xz
  omega
def XS (Γ : xE) (b N : Nat) (xs : Nat → Int32) : Prop :=
  match Γ with
  | (_, _, _, _, s, _, _, _, _, _, A, _) => va_X b N xs s s.heap ∧ b < s.heap.size ∧ ¬ A b
section LAWR
variable {Γ : xE} {G : xG} {cc : ByteArray} {own : String} {nL : Nat} {rm : Room} {A : Nat → Prop} {kc ks pc : Nat} {P : Heap → Prop} {L : List (Nat × Value)} {st st0 : List Value} {b N : Nat} {xs : Nat → Int32}
theorem x_slen (B : XB Γ G cc own nL rm A) (S : XS Γ b N xs) (d : decode cc pc = .ok (.arraylength, 1)) (k : XJ Γ kc ks P (pc + 1) L (vi (N : Int) :: st)) : XJ Γ kc ks P pc L (.ref b :: st) := by
  obtain ⟨p, l, e, R, s, m, args, below, meth, c, A', Q⟩ := Γ
  obtain ⟨hx, hb, hml, -⟩ := B
  obtain ⟨h1, h2, h3⟩ := S
  intro H locs ls hP hS hL
  refine va_slen hx hb h1 h2 h3 hS d ?_
  rw [← Int32.ofInt_eq_ofNat]
  exact k H locs ls hP hS hL
theorem x_sld (B : XB Γ G cc own nL rm A) (S : XS Γ b N xs) {z : Int} (hz : 0 ≤ z ∧ z < N) (hN : N ≤ 2560) (d : decode cc pc = .ok (.iaload, 1)) (k : XJ Γ kc ks P (pc + 1) L (vi (xz xs z) :: st)) : XJ Γ kc ks P pc L (vi z :: .ref b :: st) := by
  obtain ⟨p, l, e, R, s, m, args, below, meth, c, A', Q⟩ := Γ
  obtain ⟨hx, hb, hml, -⟩ := B
  obtain ⟨h1, h2, h3⟩ := S
  intro H locs ls hP hS hL
  have e1 : Int32.ofInt z = nI z.toNat := by
    have e2 : z = ((z.toNat : Nat) : Int) := by omega
    rw [e2, Int32.ofInt_eq_ofNat]
    rfl
  refine va_sld hx hb h1 h2 h3 hS (i := Int32.ofInt z) ?_ d ?_
  · rw [e1]
    exact vp_in_nI (by omega) (by omega)
  · rw [e1, nI_clamp (by omega)]
    have e3 : Value.int (xs z.toNat) = vi (xz xs z) := by
      unfold vi xz
      rw [Int32.ofInt_toInt]
    rw [e3]
    exact k H locs ls hP hS hL
theorem x_and31 (B : XB Γ G cc own nL rm A) {x : Int} (d : decode cc pc = .ok (.iand, 1)) (k : ∀ w : Int, -2147483648 ≤ w ∧ w < 2147483648 → XJ Γ kc ks P (pc + 1) L (vi w :: st)) : XJ Γ kc ks P pc L (vi 31 :: vi x :: st) := by
  have h1 := Int32.le_toInt (Int32.ofInt x &&& Int32.ofInt 31)
  have h2 := Int32.toInt_lt (Int32.ofInt x &&& Int32.ofInt 31)
  exact x_iand (w := (Int32.ofInt x &&& Int32.ofInt 31).toInt) B d (by rw [Int32.ofInt_toInt]) (k _ (by omega))
end LAWR
section LAWP
variable {G : xG} {e : Nat} {β : Nat → Int → Int} {m m' m1 od : Int → Int} {ρ ρ' ρ1 : Nat → Int → Int} {oc : Int} {q : Nat} {F : Nat → Option Nat} {T : Int → Int} {n pc rs pl at_ : Int} {vs : Nat → Int → Int} {N : Int} {S : Int → Int → Int} {H H1 : Heap}
theorem PM.size {b : Nat} (h : PM G b m ρ H) : b + 7 ≤ H.size := by
  have := h.2.2.2.2.2.2.1.lt
  omega
theorem EX.kept (h : EX G e β m od oc q F T n pc rs pl at_ vs N S H) (hq : ∀ q' : Nat, e ≤ q' → q' < e + 198 → H1[q']? = H[q']?) : EX G e β m od oc q F T n pc rs pl at_ vs N S H1 :=
  h.setP (h.2.1.kept (fun q a b => hq q (by omega) (by omega)) (fun q a b => hq q (by omega) (by omega))) (fun q a b _ => hq q a b)
theorem PE.size (h : PE G e m ρ H) : e + 198 ≤ H.size := by
  obtain ⟨w, h, -⟩ := h
  exact h.size
theorem PE.kept (h : PE G e m ρ H) (hq : ∀ q' : Nat, e ≤ q' → q' < e + 198 → H1[q']? = H[q']?) : PE G e m ρ H1 := by
  obtain ⟨w, h, hw⟩ := h
  exact ⟨w, h.kept hq, hw⟩
theorem PE.eqR (h : PE G e m ρ H) (er : eqR ρ ρ') : PE G e m ρ' H := by
  obtain ⟨w, h, hw⟩ := h
  obtain ⟨e1, e2, e3, e4⟩ := er
  refine ⟨w, by rw [e3, e4]; exact h, ?_⟩
  unfold okW at hw ⊢
  have es : ∀ i, sv ρ' i = sv ρ i := fun i => by unfold sv; rw [e1]
  refine ⟨hw.1, by rw [e2]; exact hw.2.1, fun i i0 i1 k k0 k1 => ?_⟩
  rw [es]
  exact hw.2.2 i i0 (by rw [← e3]; exact i1) k k0 k1
theorem PMx.of {b : Nat} (h : PM G b m ρ H) : PMx G b m ρ H := ⟨ρ, ⟨rfl, rfl, rfl, rfl⟩, h⟩
def LA (G : xG) (e : Nat) (m : Int → Int) (ρ : Nat → Int → Int) (m1 : Int → Int) (ρ1 : Nat → Int → Int) (H : Heap) : Prop := PE G e m ρ H ∧ PM G (e + 198) m1 ρ1 H
def LB (G : xG) (e : Nat) (m : Int → Int) (ρ : Nat → Int → Int) (m1 : Int → Int) (ρ1 : Nat → Int → Int) (H : Heap) : Prop := PE G e m ρ H ∧ PMx G (e + 198) m1 ρ1 H
end LAWP
section LAWC
variable {Γ : xE} {G : xG} {cc : ByteArray} {own : String} {nL : Nat} {rm : Room} {kc ks pc e : Nat} {L : List (Nat × Value)} {st st0 : List Value} {m m' m1 m1' : Int → Int} {ρ ρ' ρ1 ρ1' : Nat → Int → Int}
variable {idx : Nat} {y : MethodName} {bytes : ByteArray} {nL' : Nat} {ret : Option FieldType} {n : Nat} {rm' : Room} {As : List Value} {Q0 : Heap → Prop}
/-- a call of the executive -/
theorem x_lE (B : XB Γ G cc own nL rm (fun q => e ≤ q)) {r : Int} (lk : LkV own idx y bytes nL' ret 6 n) (hM : ∀ l, CT G l y bytes nL' ret rm' 0 0 (.ref e :: As) (PE G e m ρ) (pI r (PE G e m' ρ')) (AE e))
    (d : decode cc pc = .ok (.invokevirtual idx, 3)) (hst : st0 = As.reverse ++ .ref e :: st) (hn : As.length = n) (hR : rm'.cells = 0 ∧ rm'.slots = 0 ∧ rm'.frames + 1 ≤ rm.frames ∧ 8 + (nL' + 11) + rm'.locals ≤ rm.locals)
    (hf : kc ≤ rm.cells ∧ ks ≤ rm.slots) (hw : (st.map fun v => v.category).sum ≤ 8)
    (kk : (-2147483648 ≤ r ∧ r < 2147483648) → XJ Γ kc ks (LA G e m' ρ' m1 ρ1) (pc + 3) L (vi r :: st)) : XJ Γ kc ks (LA G e m ρ m1 ρ1) pc L st0 :=
  x_fV B lk hM d hst hn hR hf hw (fun q h => h.1) (fun H h => ⟨h.1, PE.rv H h.1⟩) (fun H H1 h hp hs hq => ⟨hp, h.2.kept (fun q a b => hq q (by have := h.2.size; omega) (by unfold AE; omega))⟩) kk
/-- a call of the reference -/
theorem x_lM (B : XB Γ G cc own nL rm (fun q => e ≤ q)) {r : Int} (lk : LkV own idx y bytes nL' ret 7 n) (hM : ∀ l, CT G l y bytes nL' ret rm' 0 0 (.ref (e + 198) :: As) (PM G (e + 198) m1 ρ1) (pI r Q0) (AM (e + 198))) (hQ0 : ∀ H, Q0 H → PMx G (e + 198) m1' ρ1' H)
    (d : decode cc pc = .ok (.invokevirtual idx, 3)) (hst : st0 = As.reverse ++ .ref (e + 198) :: st) (hn : As.length = n) (hR : rm'.cells = 0 ∧ rm'.slots = 0 ∧ rm'.frames + 1 ≤ rm.frames ∧ 8 + (nL' + 11) + rm'.locals ≤ rm.locals)
    (hf : kc ≤ rm.cells ∧ ks ≤ rm.slots) (hw : (st.map fun v => v.category).sum ≤ 8)
    (kk : (-2147483648 ≤ r ∧ r < 2147483648) → XJ Γ kc ks (LB G e m ρ m1' ρ1') (pc + 3) L (vi r :: st)) : XJ Γ kc ks (LA G e m ρ m1 ρ1) pc L st0 :=
  x_fV B lk hM d hst hn hR hf hw (fun q h => by have := h.1; omega) (fun H h => ⟨h.2, PM.rv H h.2⟩) (fun H H1 h hp hs hq => ⟨h.1.kept (fun q a b => hq q (by have := h.1.size; omega) (by unfold AM; omega)), hQ0 _ hp⟩) kk
/-- the notes that the reference left open get a name -/
theorem x_LB (k : ∀ ρ', eqR ρ ρ' → (∀ j k, -2147483648 ≤ ρ' j k ∧ ρ' j k < 2147483648) → XJ Γ kc ks (LA G e m ρ' m ρ') pc L st) : XJ Γ kc ks (LB G e m ρ m ρ) pc L st :=
  x_ex (P' := fun ρ' H => (eqR ρ ρ' ∧ ∀ j k, -2147483648 ≤ ρ' j k ∧ ρ' j k < 2147483648) ∧ LA G e m ρ' m ρ' H) (fun H h => by
    obtain ⟨h1, ρ', er, h2⟩ := h
    exact ⟨ρ', ⟨er, h2.2.2.2.2.2.2.2.2⟩, h1.eqR er, h2⟩) (fun ρ' => x_fact (fun H h => h.1) (fun hr => x_weak (fun H h => h.2) (k ρ' hr.1 hr.2)))
end LAWC
section ILR
variable {m : Int → Int} {ρ : Nat → Int → Int}
theorem eqR_ur {i : Nat} {f : Int → Int} (h : i = 0 ∨ i = 4) : eqR ρ (ur ρ i f) := ⟨ur_ne (by omega), ur_ne (by omega), by rw [ur_ne (by omega)], by rw [ur_ne (by omega)]⟩
theorem IL_unitInfo (h : IL m ρ) {x y : Int} : IL (o_unitInfo m ρ x y).2.1 (o_unitInfo m ρ x y).2.2 := by
  unfold o_unitInfo
  repeat' split
  all_goals exact h
theorem IL_shared (h : IL m ρ) {x : Int} : IL (o_shared m ρ x).2.1 (o_shared m ρ x).2.2 := by
  unfold o_shared
  repeat' split
  all_goals exact h
theorem IL_versions (h : IL m ρ) {x : Int} : IL (o_versions m ρ x).2.1 (o_versions m ρ x).2.2 := by
  unfold o_versions
  repeat' split
  all_goals exact h
theorem IL_phase (h : IL m ρ) {r v k w : Int} : IL (o_phase m ρ r v k w).2.1 (o_phase m ρ r v k w).2.2 := by
  unfold o_phase
  repeat' split
  all_goals exact h
theorem IL_event (h : IL m ρ) {x y : Int} : IL (o_event m ρ x y).2.1 (o_event m ρ x y).2.2 := by
  unfold o_event
  repeat' split
  all_goals exact h
theorem IL_count (h : IL m ρ) {x : Int} : IL (o_count m ρ x).2.1 (o_count m ρ x).2.2 := h
theorem IL_fault (h : IL m ρ) {x : Int} : IL (o_fault m ρ x).2.1 (o_fault m ρ x).2.2 := h
theorem IL_waits (h : IL m ρ) {x : Int} : IL (o_waits m ρ x).2.1 (o_waits m ρ x).2.2 := by
  unfold o_waits
  split
  · exact h
  · split
    · exact h
    · exact h.eqR (eqR_ur (Or.inl rfl))
theorem IL_inOrder (h : IL m ρ) {x : Int} : IL (o_inOrder m ρ x).2.1 (o_inOrder m ρ x).2.2 := by
  unfold o_inOrder
  split
  · exact h
  · exact h.eqR (eqR_ur (Or.inr rfl))
theorem IL_ticksTo (h : IL m ρ) {x : Int} : IL (o_ticksTo m ρ x).2.1 (o_ticksTo m ρ x).2.2 := by
  unfold o_ticksTo
  split
  · exact h
  · exact h
theorem IL_batchInfo (h : IL m ρ) {x y : Int} : IL (o_batchInfo m ρ x y).2.1 (o_batchInfo m ρ x y).2.2 := by
  unfold o_batchInfo
  split
  · exact h
  · exact h
end ILR

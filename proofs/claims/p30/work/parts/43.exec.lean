/-! ===== the executive: what of the heap it is ===== -/
def AE (e : Nat) : Nat → Prop := fun q => e ≤ q ∧ q < e + 198
def pA (e q i : Nat) : Nat := e + 78 + 30 * ((i + q) % 4)
section PSC
variable {G : xG} {a κ : Nat} {β β' : Nat → Int → Int} {m m' od : Int → Int} {oc : Int} {H H1 : Heap}
theorem PS.congr (h : PS G a κ β m od oc H) (e : ∀ k, 0 ≤ k → k < 788 → m' k = m k) (hr : ∀ k, -2147483648 ≤ m' k ∧ m' k < 2147483648) : PS G a κ β m' od oc H := by
  obtain ⟨⟨⟨h0, hu, hb, hh, hv, hj, ho, hU, hB⟩, hm, hod⟩, hk, hbk, hka⟩ := h
  have e0 := e 0 (by omega) (by omega)
  have e1 := e 1 (by omega) (by omega)
  have e2 := e 2 (by omega) (by omega)
  have e3 := e 3 (by omega) (by omega)
  have e4 := e 4 (by omega) (by omega)
  unfold mOK at hm
  refine ⟨⟨⟨by rw [e0, e1, e2, e3]; exact h0, hu, hb, hh.congr (fun k k0 k1 => (e _ (by omega) (by omega)).symm), hv.congr (fun k k0 k1 => (e _ (by omega) (by omega)).symm), hj.congr e4 (fun k k0 k1 => e _ (by omega) (by omega)), ho, ?_, ?_⟩, ?_, hod⟩, hk, hbk.congr (fun k k0 k1 => e _ (by omega) (by omega)), hka⟩
  · rw [e2]; exact hU.congr (fun u u0 u1 w w0 w1 => e _ (by omega) (by omega))
  · rw [e3]; exact hB.congr (fun x x0 x1 w w0 w1 => e _ (by omega) (by omega))
  · unfold mOK
    rw [e2, e3, e4]
    exact ⟨hm.1, hm.2.1, hm.2.2.1, hr⟩
theorem PS.book (h : PS G a κ β m od oc H) (hq : ∀ q : Nat, a ≤ q → q < a + 30 → H1[q]? = H[q]?) (hk : bkH G κ β' H1) (hb : bkOK β' m) : PS G a κ β' m od oc H1 := ⟨h.1.kept hq, hk, hb, h.2.2.2⟩
end PSC
def EX (G : xG) (e : Nat) (β : Nat → Int → Int) (m od : Int → Int) (oc : Int) (q : Nat) (F : Nat → Option Nat) (T : Int → Int) (n pc rs pl at_ : Int) (vs : Nat → Int → Int) (N : Int) (S : Int → Int → Int) (H : Heap) : Prop :=
  oat G e 6 [.ref (e + 1), .ref (e + 9), .ref (e + 17), .ref (e + 47), .ref (e + 77), vi N] H ∧ PS G (e + 17) (e + 1) β m od oc H ∧ TX G (e + 9) T n pc rs pl at_ vs H ∧ JS G (e + 47) (e + 1) H ∧ rat G 5 (e + 77) 4 F H ∧ (∀ s : Nat, s < 4 → JS G (e + 78 + 30 * s) (e + 1) H) ∧ (∀ i : Nat, (i : Int) < N → ∃ od oc, PS G (pA e q i) (e + 1) β (S i) od oc H) ∧ (0 ≤ N ∧ N ≤ 4)
section EXS
variable {G : xG} {e : Nat} {β : Nat → Int → Int} {m m' od od' : Int → Int} {oc oc' : Int} {q : Nat} {F : Nat → Option Nat} {T T' : Int → Int} {n pc rs pl at_ n' pc' rs' pl' at_' : Int} {vs vs' : Nat → Int → Int} {N : Int} {S : Int → Int → Int} {H H1 : Heap}
theorem pA_rg {e q i : Nat} : e + 78 ≤ pA e q i ∧ pA e q i + 30 ≤ e + 198 := by unfold pA; omega
theorem EX.o (h : EX G e β m od oc q F T n pc rs pl at_ vs N S H) : oat G e 6 [.ref (e + 1), .ref (e + 9), .ref (e + 17), .ref (e + 47), .ref (e + 77), vi N] H := h.1
theorem EX.rv : ∀ H, EX G e β m od oc q F T n pc rs pl at_ vs N S H → ∃ fs, oat G e 6 fs H := fun _ h => ⟨_, h.1⟩
theorem EX.g5 : ∀ H, EX G e β m od oc q F T n pc rs pl at_ vs N S H → ∃ fs, oat G e 6 fs H ∧ fs[5]? = some (vi N) ∧ (-2147483648 ≤ N ∧ N < 2147483648) := fun _ h => ⟨_, h.1, rfl, by have := h.2.2.2.2.2.2.2; omega⟩
theorem EX.hN (h : EX G e β m od oc q F T n pc rs pl at_ vs N S H) : 0 ≤ N ∧ N ≤ 4 := h.2.2.2.2.2.2.2
theorem EX.lf {X : Heap → Prop} (f : ∀ H, PS G (e + 17) (e + 1) β m od oc H → X H) : ∀ H, EX G e β m od oc q F T n pc rs pl at_ vs N S H → X H := fun H h => f H h.2.1
theorem EX.lt {X : Heap → Prop} (f : ∀ H, TX G (e + 9) T n pc rs pl at_ vs H → X H) : ∀ H, EX G e β m od oc q F T n pc rs pl at_ vs N S H → X H := fun H h => f H h.2.2.1
theorem EX.size (h : EX G e β m od oc q F T n pc rs pl at_ vs N S H) : e + 198 ≤ H.size := by
  have := (h.2.2.2.2.2.1 3 (by omega)).size
  omega
theorem EX.setP (h : EX G e β m od oc q F T n pc rs pl at_ vs N S H) (hp : PS G (e + 17) (e + 1) β m' od' oc' H1) (hq : ∀ q' : Nat, e ≤ q' → q' < e + 198 → ¬ (e + 17 ≤ q' ∧ q' < e + 47) → H1[q']? = H[q']?) : EX G e β m' od' oc' q F T n pc rs pl at_ vs N S H1 := by
  obtain ⟨h1, h2, h3, h4, h5, h6, h7, h8⟩ := h
  refine ⟨h1.kept (hq _ (by omega) (by omega) (by omega)), hp, h3.kept (fun q a b => hq q (by omega) (by omega) (by omega)), h4.kept (fun q a b => hq q (by omega) (by omega) (by omega)), h5.kept (hq _ (by omega) (by omega) (by omega)), fun s hs => (h6 s hs).kept (fun q a b => hq q (by omega) (by omega) (by omega)), fun i hi => ?_, h8⟩
  obtain ⟨od1, oc1, p⟩ := h7 i hi
  have hg := pA_rg (e := e) (q := q) (i := i)
  exact ⟨od1, oc1, p.kept (fun q a b => hq q (by omega) (by omega) (by omega)) (fun q a b => hq q (by omega) (by omega) (by omega))⟩
theorem EX.setT (h : EX G e β m od oc q F T n pc rs pl at_ vs N S H) (ht : TX G (e + 9) T' n' pc' rs' pl' at_' vs' H1) (hq : ∀ q' : Nat, e ≤ q' → q' < e + 198 → ¬ (e + 9 ≤ q' ∧ q' < e + 17) → H1[q']? = H[q']?) : EX G e β m od oc q F T' n' pc' rs' pl' at_' vs' N S H1 := by
  obtain ⟨h1, h2, h3, h4, h5, h6, h7, h8⟩ := h
  refine ⟨h1.kept (hq _ (by omega) (by omega) (by omega)), h2.kept (fun q a b => hq q (by omega) (by omega) (by omega)) (fun q a b => hq q (by omega) (by omega) (by omega)), ht, h4.kept (fun q a b => hq q (by omega) (by omega) (by omega)), h5.kept (hq _ (by omega) (by omega) (by omega)), fun s hs => (h6 s hs).kept (fun q a b => hq q (by omega) (by omega) (by omega)), fun i hi => ?_, h8⟩
  obtain ⟨od1, oc1, p⟩ := h7 i hi
  have hg := pA_rg (e := e) (q := q) (i := i)
  exact ⟨od1, oc1, p.kept (fun q a b => hq q (by omega) (by omega) (by omega)) (fun q a b => hq q (by omega) (by omega) (by omega))⟩
/-- the frame of a call on the present State -/
theorem EX.faP : ∀ q, AS (e + 17) q → AE e q := fun q h => by unfold AS at h; unfold AE; omega
theorem EX.fbP : ∀ H, EX G e β m od oc q F T n pc rs pl at_ vs N S H → PS G (e + 17) (e + 1) β m od oc H ∧ ∃ fs, oat G (e + 17) 3 fs H := fun H h => ⟨h.2.1, PS.rv H h.2.1⟩
theorem EX.fcP : ∀ H H1, EX G e β m od oc q F T n pc rs pl at_ vs N S H → PS G (e + 17) (e + 1) β m' od' oc' H1 → H.size ≤ H1.size → (∀ q : Nat, q < H.size → ¬ AS (e + 17) q → H1[q]? = H[q]?) → EX G e β m' od' oc' q F T n pc rs pl at_ vs N S H1 := fun H H1 h hp _ hq => h.setP hp (fun q a b c => hq q (by have := h.size; omega) (by unfold AS; omega))
/-- the frame of a call on the text -/
theorem EX.faT : ∀ q, AT (e + 9) q → AE e q := fun q h => by unfold AT at h; unfold AE; omega
theorem EX.fbT : ∀ H, EX G e β m od oc q F T n pc rs pl at_ vs N S H → TX G (e + 9) T n pc rs pl at_ vs H ∧ ∃ fs, oat G (e + 9) 4 fs H := fun H h => ⟨h.2.2.1, TX.rv H h.2.2.1⟩
theorem EX.fcT : ∀ H H1, EX G e β m od oc q F T n pc rs pl at_ vs N S H → TX G (e + 9) T' n' pc' rs' pl' at_' vs' H1 → H.size ≤ H1.size → (∀ q : Nat, q < H.size → ¬ AT (e + 9) q → H1[q]? = H[q]?) → EX G e β m od oc q F T' n' pc' rs' pl' at_' vs' N S H1 := fun H H1 h hp _ hq => h.setT hp (fun q a b c => hq q (by have := h.size; omega) (by unfold AT; omega))
/-- a write into the present State -/
theorem EX.lp {d ci k : Nat} {v : Value} (hd : e + 17 ≤ d ∧ d < e + 47) (f : ∀ H, PS G (e + 17) (e + 1) β m od oc H → ∃ fs, oat G d ci fs H ∧ k < fs.length ∧ ∀ H1, oat G d ci (fs.set k v) H1 → H1.size = H.size → (∀ q : Nat, q ≠ d → H1[q]? = H[q]?) → PS G (e + 17) (e + 1) β m' od' oc' H1) : ∀ H, EX G e β m od oc q F T n pc rs pl at_ vs N S H → ∃ fs, oat G d ci fs H ∧ k < fs.length ∧ ∀ H1, oat G d ci (fs.set k v) H1 → H1.size = H.size → (∀ q : Nat, q ≠ d → H1[q]? = H[q]?) → EX G e β m' od' oc' q F T n pc rs pl at_ vs N S H1 := fun H h => by
  obtain ⟨fs, h1, h2, h3⟩ := f H h.2.1
  exact ⟨fs, h1, h2, fun H1 g1 g2 g3 => h.setP (h3 H1 g1 g2 g3) (fun q a b c => g3 q (by omega))⟩
theorem EX.la {d : Nat} {nn : Nat} {g : Int → Int} {z v : Int} (hd : e + 17 ≤ d ∧ d < e + 47) (f : ∀ H, PS G (e + 17) (e + 1) β m od oc H → aat G 0 d nn g H ∧ ∀ H1, aat G 0 d nn (up g z v) H1 → H1.size = H.size → (∀ q : Nat, q ≠ d → H1[q]? = H[q]?) → PS G (e + 17) (e + 1) β m' od' oc' H1) : ∀ H, EX G e β m od oc q F T n pc rs pl at_ vs N S H → aat G 0 d nn g H ∧ ∀ H1, aat G 0 d nn (up g z v) H1 → H1.size = H.size → (∀ q : Nat, q ≠ d → H1[q]? = H[q]?) → EX G e β m' od' oc' q F T n pc rs pl at_ vs N S H1 := fun H h => by
  obtain ⟨h1, h3⟩ := f H h.2.1
  exact ⟨h1, fun H1 g1 g2 g3 => h.setP (h3 H1 g1 g2 g3) (fun q a b c => g3 q (by omega))⟩
theorem EX.lpT {d ci k : Nat} {v : Value} (hd : e + 9 ≤ d ∧ d < e + 17) (f : ∀ H, TX G (e + 9) T n pc rs pl at_ vs H → ∃ fs, oat G d ci fs H ∧ k < fs.length ∧ ∀ H1, oat G d ci (fs.set k v) H1 → H1.size = H.size → (∀ q : Nat, q ≠ d → H1[q]? = H[q]?) → TX G (e + 9) T' n' pc' rs' pl' at_' vs' H1) : ∀ H, EX G e β m od oc q F T n pc rs pl at_ vs N S H → ∃ fs, oat G d ci fs H ∧ k < fs.length ∧ ∀ H1, oat G d ci (fs.set k v) H1 → H1.size = H.size → (∀ q : Nat, q ≠ d → H1[q]? = H[q]?) → EX G e β m od oc q F T' n' pc' rs' pl' at_' vs' N S H1 := fun H h => by
  obtain ⟨fs, h1, h2, h3⟩ := f H h.2.2.1
  exact ⟨fs, h1, h2, fun H1 g1 g2 g3 => h.setT (h3 H1 g1 g2 g3) (fun q a b c => g3 q (by omega))⟩
/-- fewer past States -/
theorem EX.setN {N' : Int} {S' : Int → Int → Int} {q' : Nat} (h : EX G e β m od oc q F T n pc rs pl at_ vs N S H) (hN : 0 ≤ N' ∧ N' ≤ 4) (ho : oat G e 6 [.ref (e + 1), .ref (e + 9), .ref (e + 17), .ref (e + 47), .ref (e + 77), vi N'] H1) (hq : ∀ q : Nat, q ≠ e → H1[q]? = H[q]?) (hS : ∀ i : Nat, (i : Int) < N' → ∃ i' : Nat, (i' : Int) < N ∧ pA e q' i = pA e q i' ∧ S' i = S i') : EX G e β m od oc q' F T n pc rs pl at_ vs N' S' H1 := by
  obtain ⟨h1, h2, h3, h4, h5, h6, h7, h8⟩ := h
  refine ⟨ho, h2.kept (fun q a b => hq q (by omega)) (fun q a b => hq q (by omega)), h3.kept (fun q a b => hq q (by omega)), h4.kept (fun q a b => hq q (by omega)), h5.kept (hq _ (by omega)), fun s hs => (h6 s hs).kept (fun q a b => hq q (by omega)), fun i hi => ?_, hN⟩
  obtain ⟨i', g1, g2, g3⟩ := hS i hi
  obtain ⟨od1, oc1, p⟩ := h7 i' g1
  have hg := pA_rg (e := e) (q := q) (i := i')
  exact ⟨od1, oc1, by rw [g2, g3]; exact p.kept (fun q a b => hq q (by omega)) (fun q a b => hq q (by omega))⟩
/-- another order of the past States -/
theorem EX.setF {F' : Nat → Option Nat} (h : EX G e β m od oc q F T n pc rs pl at_ vs N S H) (hf : rat G 5 (e + 77) 4 F' H1) (hq : ∀ q : Nat, q ≠ e + 77 → H1[q]? = H[q]?) : EX G e β m od oc q F' T n pc rs pl at_ vs N S H1 := by
  obtain ⟨h1, h2, h3, h4, h5, h6, h7, h8⟩ := h
  refine ⟨h1.kept (hq _ (by omega)), h2.kept (fun q a b => hq q (by omega)) (fun q a b => hq q (by omega)), h3.kept (fun q a b => hq q (by omega)), h4.kept (fun q a b => hq q (by omega)), hf, fun s hs => (h6 s hs).kept (fun q a b => hq q (by omega)), fun i hi => ?_, h8⟩
  obtain ⟨od1, oc1, p⟩ := h7 i hi
  have hg := pA_rg (e := e) (q := q) (i := i)
  exact ⟨od1, oc1, p.kept (fun q a b => hq q (by omega)) (fun q a b => hq q (by omega))⟩
end EXS
/-- what the executive's picture leaves open -/
abbrev xW : Type := (Nat → Int → Int) × (Int → Int) × Int × Nat × (Nat → Option Nat) × (Int → Int) × Int × Int × Int × Int × (Nat → Int → Int) × (Int → Int → Int)
def okW (e q : Nat) (F : Nat → Option Nat) (T : Int → Int) (S : Int → Int → Int) (ρ : Nat → Int → Int) : Prop := (∀ k : Nat, k < 4 → F k = some (pA e q k)) ∧ T = ρ 2 ∧ ∀ i, 0 ≤ i → i < ρ 5 0 → ∀ k, 0 ≤ k → k < 788 → S i k = sv ρ i k
def PE (G : xG) (e : Nat) (m : Int → Int) (ρ : Nat → Int → Int) (H : Heap) : Prop := ∃ w : xW, EX G e w.1 m w.2.1 w.2.2.1 w.2.2.2.1 w.2.2.2.2.1 w.2.2.2.2.2.1 (ρ 5 1) w.2.2.2.2.2.2.1 w.2.2.2.2.2.2.2.1 w.2.2.2.2.2.2.2.2.1 w.2.2.2.2.2.2.2.2.2.1 w.2.2.2.2.2.2.2.2.2.2.1 (ρ 5 0) w.2.2.2.2.2.2.2.2.2.2.2 H ∧ okW e w.2.2.2.1 w.2.2.2.2.1 w.2.2.2.2.2.1 w.2.2.2.2.2.2.2.2.2.2.2 ρ
theorem PE.of {G : xG} {e : Nat} {β : Nat → Int → Int} {m od : Int → Int} {oc : Int} {q : Nat} {F : Nat → Option Nat} {T : Int → Int} {n pc rs pl at_ : Int} {vs : Nat → Int → Int} {N : Int} {S : Int → Int → Int} {ρ : Nat → Int → Int} {H : Heap} (h : EX G e β m od oc q F T n pc rs pl at_ vs N S H) (hn : n = ρ 5 1) (hN : N = ρ 5 0) (hw : okW e q F T S ρ) : PE G e m ρ H := by
  subst hn
  subst hN
  exact ⟨⟨β, od, oc, q, F, T, pc, rs, pl, at_, vs, S⟩, h, hw⟩
theorem PE.rv {G : xG} {e : Nat} {m : Int → Int} {ρ : Nat → Int → Int} : ∀ H, PE G e m ρ H → ∃ fs, oat G e 6 fs H := fun _ h => by
  obtain ⟨w, h, -⟩ := h
  exact ⟨_, h.1⟩
section XR12
variable {Γ : xE} {G : xG} {cc : ByteArray} {own : String} {nL : Nat} {rm : Room} {A : Nat → Prop} {kc ks pc : Nat} {P : Heap → Prop} {L : List (Nat × Value)} {st st0 : List Value}
variable {idx : Nat} {y : MethodName} {bytes : ByteArray} {nL' : Nat} {ret : Option FieldType} {ci n : Nat} {rm' : Room} {b : Nat} {As : List Value} {P' P0 Q0 : Heap → Prop} {A0 : Nat → Prop}
theorem x_fV (B : XB Γ G cc own nL rm A) {r : Int} (lk : LkV own idx y bytes nL' ret ci n) (hM : ∀ l, CT G l y bytes nL' ret rm' 0 0 (.ref b :: As) P0 (pI r Q0) A0)
    (d : decode cc pc = .ok (.invokevirtual idx, 3)) (hst : st0 = As.reverse ++ .ref b :: st) (hn : As.length = n) (hR : rm'.cells = 0 ∧ rm'.slots = 0 ∧ rm'.frames + 1 ≤ rm.frames ∧ 8 + (nL' + 11) + rm'.locals ≤ rm.locals)
    (hf : kc ≤ rm.cells ∧ ks ≤ rm.slots) (hw : (st.map fun v => v.category).sum ≤ 8) (hAA : ∀ q, A0 q → A q) (hP : ∀ H, P H → P0 H ∧ ∃ fs, oat G b ci fs H)
    (hQ : ∀ H H1, P H → Q0 H1 → H.size ≤ H1.size → (∀ q : Nat, q < H.size → ¬ A0 q → H1[q]? = H[q]?) → P' H1)
    (kk : (-2147483648 ≤ r ∧ r < 2147483648) → XJ Γ kc ks P' (pc + 3) L (vi r :: st)) : XJ Γ kc ks P pc L st0 :=
  x_callVg B lk hM d hst hn hR hf hw hAA hP (ι := PLift (-2147483648 ≤ r ∧ r < 2147483648)) (v := fun _ => some (vi r)) (P' := fun _ => P') (fun v' H H1 hp h hs hq => ⟨⟨h.2.1⟩, h.1, hQ H H1 hp h.2.2 hs hq⟩) (fun i => kk i.down)
theorem x_fZ (B : XB Γ G cc own nL rm A) {c : Prop} [Decidable c] (lk : LkV own idx y bytes nL' ret ci n) (hM : ∀ l, CT G l y bytes nL' ret rm' 0 0 (.ref b :: As) P0 (pZ c Q0) A0)
    (d : decode cc pc = .ok (.invokevirtual idx, 3)) (hst : st0 = As.reverse ++ .ref b :: st) (hn : As.length = n) (hR : rm'.cells = 0 ∧ rm'.slots = 0 ∧ rm'.frames + 1 ≤ rm.frames ∧ 8 + (nL' + 11) + rm'.locals ≤ rm.locals)
    (hf : kc ≤ rm.cells ∧ ks ≤ rm.slots) (hw : (st.map fun v => v.category).sum ≤ 8) (hAA : ∀ q, A0 q → A q) (hP : ∀ H, P H → P0 H ∧ ∃ fs, oat G b ci fs H)
    (hQ : ∀ H H1, P H → Q0 H1 → H.size ≤ H1.size → (∀ q : Nat, q < H.size → ¬ A0 q → H1[q]? = H[q]?) → P' H1)
    (kk : XJ Γ kc ks P' (pc + 3) L (vi (bz c) :: st)) : XJ Γ kc ks P pc L st0 :=
  x_callVg B lk hM d hst hn hR hf hw hAA hP (ι := Unit) (v := fun _ => some (vi (bz c))) (P' := fun _ => P') (fun v' H H1 hp h hs hq => ⟨(), h.1, hQ H H1 hp h.2 hs hq⟩) (fun _ => kk)
theorem x_fN (B : XB Γ G cc own nL rm A) (lk : LkV own idx y bytes nL' ret ci n) (hM : ∀ l, CT G l y bytes nL' ret rm' 0 0 (.ref b :: As) P0 (pV Q0) A0)
    (d : decode cc pc = .ok (.invokevirtual idx, 3)) (hst : st0 = As.reverse ++ .ref b :: st) (hn : As.length = n) (hR : rm'.cells = 0 ∧ rm'.slots = 0 ∧ rm'.frames + 1 ≤ rm.frames ∧ 8 + (nL' + 11) + rm'.locals ≤ rm.locals)
    (hf : kc ≤ rm.cells ∧ ks ≤ rm.slots) (hw : (st.map fun v => v.category).sum ≤ 8) (hAA : ∀ q, A0 q → A q) (hP : ∀ H, P H → P0 H ∧ ∃ fs, oat G b ci fs H)
    (hQ : ∀ H H1, P H → Q0 H1 → H.size ≤ H1.size → (∀ q : Nat, q < H.size → ¬ A0 q → H1[q]? = H[q]?) → P' H1)
    (kk : XJ Γ kc ks P' (pc + 3) L st) : XJ Γ kc ks P pc L st0 :=
  x_callVg B lk hM d hst hn hR hf hw hAA hP (ι := Unit) (v := fun _ => none) (P' := fun _ => P') (fun v' H H1 hp h hs hq => ⟨(), h.1, hQ H H1 hp h.2 hs hq⟩) (fun _ => kk)
end XR12
theorem x_PE {Γ : xE} {G : xG} {e kc ks pc : Nat} {m : Int → Int} {ρ : Nat → Int → Int} {L : List (Nat × Value)} {st : List Value} (k : ∀ β od oc q F T pc0 rs pl at_ vs S, okW e q F T S ρ → (∀ k, -2147483648 ≤ m k ∧ m k < 2147483648) → XJ Γ kc ks (EX G e β m od oc q F T (ρ 5 1) pc0 rs pl at_ vs (ρ 5 0) S) pc L st) : XJ Γ kc ks (PE G e m ρ) pc L st :=
  x_ex (fun H h => h) (fun w => x_fact (fun H h => (⟨h.2, h.1.2.1.mok.2.2.2⟩ : _ ∧ _)) (fun hw => x_weak (fun H h => h.1) (k w.1 w.2.1 w.2.2.1 w.2.2.2.1 w.2.2.2.2.1 w.2.2.2.2.2.1 w.2.2.2.2.2.2.1 w.2.2.2.2.2.2.2.1 w.2.2.2.2.2.2.2.2.1 w.2.2.2.2.2.2.2.2.2.1 w.2.2.2.2.2.2.2.2.2.2.1 w.2.2.2.2.2.2.2.2.2.2.2 hw.1 hw.2)))
/-- the end of a public method -/
theorem x_retE {Γ : xE} {G : xG} {cc : ByteArray} {own : String} {nL : Nat} {rm : Room} {A : Nat → Prop} {kc ks pc e : Nat} {L : List (Nat × Value)} {nm : String} {o : Int × (Int → Int) × (Nat → Int → Int)} {z : Int} {m' : Int → Int} {ρ' : Nat → Int → Int} {β : Nat → Int → Int} {od : Int → Int} {oc : Int} {q : Nat} {F : Nat → Option Nat} {T : Int → Int} {n pc0 rs pl at_ : Int} {vs : Nat → Int → Int} {N : Int} {S : Int → Int → Int} (B : XB Γ G cc own nL rm A) (R : XR Γ nm (some .int) kc ks (xQ (pI o.1 (PE G e o.2.1 o.2.2)) A)) (d : decode cc pc = .ok (.ireturn, 1)) (he : o = (z, m', ρ')) (hz : -2147483648 ≤ z ∧ z < 2147483648) (hn : n = ρ' 5 1) (hN : N = ρ' 5 0) (hw : okW e q F T S ρ') : XJ Γ kc ks (EX G e β m' od oc q F T n pc0 rs pl at_ vs N S) pc L [vi z] := by
  subst he
  exact x_retI B R d rfl hz (fun H h => PE.of h hn hN hw)

/-! ===== the class: copies of journals and States ===== -/
theorem cpy_40 {f g : Int → Int} {n : Int} : ∀ k : Int, 0 ≤ k → k < n → cpyN f g 0 0 n k = f k := fun k k0 k1 => by
  unfold cpyN
  rw [if_pos (by omega)]
  congr 1
  omega
theorem c_X2_copyFrom {G : xG} {l : Launch} {j j' : Nat} {nx ln nx' ln' : Int} {j0 j1 j2 i0 i1 i2 : Int → Int} (hap : j + 4 ≤ j' ∨ j' + 4 ≤ j) : CT G l yX2_copyFrom cX2_copyFrom 2 none ({ frames := 1, cells := 0, slots := 0, locals := 32 } : Room) 0 0 [.ref j, .ref j'] (fun H => JR G j nx ln j0 j1 j2 H ∧ JR G j' nx' ln' i0 i1 i2 H) (pV (fun H => JR G j nx' ln' i0 i1 i2 H ∧ JR G j' nx' ln' i0 i1 i2 H)) (fun q => j ≤ q ∧ q < j + 4) := by
  refine x_met1 (own := RX2) (nm := "copyFrom") (L := [(0, .ref j), (1, .ref j')]) (by decide) rfl rfl (fun _ => rfl) (Nat.le_of_ble_eq_true rfl) rfl rfl ?_
  intro Γ B R
  refine x_fact (fun H h => (⟨JR.rg h.1, JR.rg h.2⟩ : _ ∧ _)) (fun hr => ?_)
  obtain ⟨⟨a1, a2, a3⟩, ⟨b1, b2, b3⟩⟩ := hr
  refine x_aload_n B dX2_copyFrom_0 rfl ?_
  refine x_get B fgX2_9 dX2_copyFrom_1 (fun H h => ⟨_, h.2.1, rfl⟩) ?_
  refine x_iconst B dX2_copyFrom_4 ?_
  refine x_aload_n B dX2_copyFrom_5 rfl ?_
  refine x_get B fgX2_9 dX2_copyFrom_6 (fun H h => ⟨_, h.1.1, rfl⟩) ?_
  refine x_iconst B dX2_copyFrom_9 ?_
  refine x_bipush B dX2_copyFrom_10 (by decide) ?_
  refine x_copyi (P' := fun H => JR G j nx ln i0 j1 j2 H ∧ JR G j' nx' ln' i0 i1 i2 H) B xnX2_28 dX2_copyFrom_12 (by omega) (by decide) (by constructor <;> omega) (Nat.le_of_ble_eq_true rfl) (by decide) ((fun H h => ⟨h.2.2.1, h.1.2.1, fun H1 e _ hq => ⟨⟨h.1.1.kept (hq _ (by omega)), e.congr (fun k k0 k1 => cpy_40 k k0 k1), h.1.2.2.1.kept (hq _ (by omega)), h.1.2.2.2.1.kept (hq _ (by omega)), a1, a2, fun k => ⟨(b3 k).1, (a3 k).2⟩⟩, h.2.kept (fun q q0 q1 => hq q (by omega))⟩⟩)) ?_
  refine x_aload_n B dX2_copyFrom_15 rfl ?_
  refine x_get B fgX2_15 dX2_copyFrom_16 (fun H h => ⟨_, h.2.1, rfl⟩) ?_
  refine x_iconst B dX2_copyFrom_19 ?_
  refine x_aload_n B dX2_copyFrom_20 rfl ?_
  refine x_get B fgX2_15 dX2_copyFrom_21 (fun H h => ⟨_, h.1.1, rfl⟩) ?_
  refine x_iconst B dX2_copyFrom_24 ?_
  refine x_bipush B dX2_copyFrom_25 (by decide) ?_
  refine x_copyi (P' := fun H => JR G j nx ln i0 i1 j2 H ∧ JR G j' nx' ln' i0 i1 i2 H) B xnX2_28 dX2_copyFrom_27 (by omega) (by decide) (by constructor <;> omega) (Nat.le_of_ble_eq_true rfl) (by decide) ((fun H h => ⟨h.2.2.2.1, h.1.2.2.1, fun H1 e _ hq => ⟨⟨h.1.1.kept (hq _ (by omega)), h.1.2.1.kept (hq _ (by omega)), e.congr (fun k k0 k1 => cpy_40 k k0 k1), h.1.2.2.2.1.kept (hq _ (by omega)), a1, a2, fun k => ⟨(b3 k).1, (b3 k).2.1, (a3 k).2.2⟩⟩, h.2.kept (fun q q0 q1 => hq q (by omega))⟩⟩)) ?_
  refine x_aload_n B dX2_copyFrom_30 rfl ?_
  refine x_get B fgX2_18 dX2_copyFrom_31 (fun H h => ⟨_, h.2.1, rfl⟩) ?_
  refine x_iconst B dX2_copyFrom_34 ?_
  refine x_aload_n B dX2_copyFrom_35 rfl ?_
  refine x_get B fgX2_18 dX2_copyFrom_36 (fun H h => ⟨_, h.1.1, rfl⟩) ?_
  refine x_iconst B dX2_copyFrom_39 ?_
  refine x_bipush B dX2_copyFrom_40 (by decide) ?_
  refine x_copyi (P' := fun H => JR G j nx ln i0 i1 i2 H ∧ JR G j' nx' ln' i0 i1 i2 H) B xnX2_28 dX2_copyFrom_42 (by omega) (by decide) (by constructor <;> omega) (Nat.le_of_ble_eq_true rfl) (by decide) ((fun H h => ⟨h.2.2.2.2.1, h.1.2.2.2.1, fun H1 e _ hq => ⟨⟨h.1.1.kept (hq _ (by omega)), h.1.2.1.kept (hq _ (by omega)), h.1.2.2.1.kept (hq _ (by omega)), e.congr (fun k k0 k1 => cpy_40 k k0 k1), a1, a2, b3⟩, h.2.kept (fun q q0 q1 => hq q (by omega))⟩⟩)) ?_
  refine x_aload_n B dX2_copyFrom_45 rfl ?_
  refine x_aload_n B dX2_copyFrom_46 rfl ?_
  refine x_get B fgX2_25 dX2_copyFrom_47 (fun H h => ⟨_, h.2.1, rfl⟩) ?_
  refine x_put (P' := fun H => JR G j nx ln' i0 i1 i2 H ∧ JR G j' nx' ln' i0 i1 i2 H) B fpX2_25 dX2_copyFrom_50 rfl rfl (by constructor <;> omega) (fun H h => ⟨_, h.1.1, Nat.le_of_ble_eq_true rfl, fun H1 e _ hq => ⟨⟨e, h.1.2.1.kept (hq _ (by omega)), h.1.2.2.1.kept (hq _ (by omega)), h.1.2.2.2.1.kept (hq _ (by omega)), a1, b2, b3⟩, h.2.kept (fun q q0 q1 => hq q (by omega))⟩⟩) ?_
  refine x_aload_n B dX2_copyFrom_53 rfl ?_
  refine x_aload_n B dX2_copyFrom_54 rfl ?_
  refine x_get B fgX2_21 dX2_copyFrom_55 (fun H h => ⟨_, h.2.1, rfl⟩) ?_
  refine x_put (P' := fun H => JR G j nx' ln' i0 i1 i2 H ∧ JR G j' nx' ln' i0 i1 i2 H) B fpX2_21 dX2_copyFrom_58 rfl rfl (by constructor <;> omega) (fun H h => ⟨_, h.1.1, Nat.le_of_ble_eq_true rfl, fun H1 e _ hq => ⟨⟨e, h.1.2.1.kept (hq _ (by omega)), h.1.2.2.1.kept (hq _ (by omega)), h.1.2.2.2.1.kept (hq _ (by omega)), b1, b2, b3⟩, h.2.kept (fun q q0 q1 => hq q (by omega))⟩⟩) ?_
  exact x_retV B R dX2_copyFrom_61 (fun H h => by exact h)
/-- a State that is being made a copy of another -/
def CP (G : xG) (a a' κ : Nat) (β : Nat → Int → Int) (m od' : Int → Int) (oc' c2 c3 oc c1 c0 : Int) (hf vf : Int → Int) (J : Heap → Prop) (od : Int → Int) (nu nb : Int) (H : Heap) : Prop := SG G a κ c2 c3 oc c1 c0 hf vf J od m nu nb H ∧ PS G a' κ β m od' oc' H
section CPS
variable {G : xG} {a a' κ jn' : Nat} {β : Nat → Int → Int} {m od od' hf vf : Int → Int} {oc oc' c2 c3 c1 c0 d2 d3 d1 d0 nu nb jn jl : Int} {j0 j1 j2 : Int → Int} {H H1 : Heap}
theorem CP.hd (h : CP G a a' κ β m od' oc' c2 c3 oc c1 c0 hf vf (JR G (a + 5) jn jl j0 j1 j2) od nu nb H) (hap : a + 30 ≤ a' ∨ a' + 30 ≤ a) (hκ : κ + 8 ≤ a) (e : oat G a 3 (hdS κ a d2 d3 oc d1 d0) H1) (hq : ∀ q : Nat, q ≠ a → H1[q]? = H[q]?) : CP G a a' κ β m od' oc' d2 d3 oc d1 d0 hf vf (JR G (a + 5) jn jl j0 j1 j2) od nu nb H1 := by
  obtain ⟨⟨h0, hu, hb, hh, hv, hj, ho, hU, hB⟩, hp⟩ := h
  exact ⟨⟨e, hu.kept (hq _ (by omega)), hb.kept (hq _ (by omega)), hh.kept (hq _ (by omega)), hv.kept (hq _ (by omega)), hj.kept (fun q q0 q1 => hq q (by omega)), ho.kept (hq _ (by omega)), hU.kept (fun q q0 q1 => hq q (by omega)), hB.kept (fun q q0 q1 => hq q (by omega))⟩, hp.kept (fun q q0 q1 => hq q (by omega)) (fun q q0 q1 => hq q (by omega))⟩
theorem CP.un (h : CP G a a' κ β m od' oc' c2 c3 oc c1 c0 hf vf (JR G (a + 5) jn jl j0 j1 j2) od nu nb H) (hap : a + 30 ≤ a' ∨ a' + 30 ≤ a) (hκ : κ + 8 ≤ a) (hn : 0 ≤ nu ∧ nu < 8) (e : oat G (uA a nu) 5 (fU m nu) H1) (hq : ∀ q : Nat, (q < a + 30 ∨ q < a' + 30) → q ≠ uA a nu → H1[q]? = H[q]?) : CP G a a' κ β m od' oc' c2 c3 oc c1 c0 hf vf (JR G (a + 5) jn jl j0 j1 j2) od (nu + 1) nb H1 := by
  obtain ⟨⟨h0, hu, hb, hh, hv, hj, ho, hU, hB⟩, hp⟩ := h
  have q' : ∀ q : Nat, q < a + 10 → H1[q]? = H[q]? := fun q q0 => hq q (by omega) (by unfold uA; omega)
  refine ⟨⟨h0.kept (q' _ (by omega)), hu.kept (q' _ (by omega)), hb.kept (q' _ (by omega)), hh.kept (q' _ (by omega)), hv.kept (q' _ (by omega)), hj.kept (fun q q0 q1 => q' q (by omega)), ho.kept (q' _ (by omega)), fun u u0 u1 => ?_, hB.kept (fun q q0 q1 => hq q (by omega) (by unfold uA; omega))⟩, hp.kept (fun q q0 q1 => hq q (by omega) (by unfold uA; omega)) (fun q q0 q1 => q' q (by omega))⟩
  by_cases eu : u = nu
  · subst eu
    exact ⟨_, e, rfl, fun _ => rfl⟩
  · obtain ⟨fs', g1, g2, g3⟩ := hU u u0 u1
    exact ⟨fs', g1.kept (hq _ (by unfold uA; omega) (by unfold uA; omega)), g2, fun q => g3 (by omega)⟩
theorem CP.bn (h : CP G a a' κ β m od' oc' c2 c3 oc c1 c0 hf vf (JR G (a + 5) jn jl j0 j1 j2) od nu nb H) (hap : a + 30 ≤ a' ∨ a' + 30 ≤ a) (hκ : κ + 8 ≤ a) (hn : 0 ≤ nb ∧ nb < 12) (e : oat G (bA a nb) 0 (fBt m nb) H1) (hq : ∀ q : Nat, (q < a + 30 ∨ q < a' + 30) → q ≠ bA a nb → H1[q]? = H[q]?) : CP G a a' κ β m od' oc' c2 c3 oc c1 c0 hf vf (JR G (a + 5) jn jl j0 j1 j2) od nu (nb + 1) H1 := by
  obtain ⟨⟨h0, hu, hb, hh, hv, hj, ho, hU, hB⟩, hp⟩ := h
  have q' : ∀ q : Nat, q < a + 18 → H1[q]? = H[q]? := fun q q0 => hq q (by omega) (by unfold bA; omega)
  refine ⟨⟨h0.kept (q' _ (by omega)), hu.kept (q' _ (by omega)), hb.kept (q' _ (by omega)), hh.kept (q' _ (by omega)), hv.kept (q' _ (by omega)), hj.kept (fun q q0 q1 => q' q (by omega)), ho.kept (q' _ (by omega)), hU.kept (fun q q0 q1 => q' q (by omega)), fun u u0 u1 => ?_⟩, hp.kept (fun q q0 q1 => hq q (by omega) (by unfold bA; omega)) (fun q q0 q1 => q' q (by omega))⟩
  by_cases eu : u = nb
  · subst eu
    exact ⟨_, e, rfl, fun _ => rfl⟩
  · obtain ⟨fs', g1, g2, g3⟩ := hB u u0 u1
    exact ⟨fs', g1.kept (hq _ (by unfold bA; omega) (by unfold bA; omega)), g2, fun q => g3 (by omega)⟩
theorem CP.hf' (h : CP G a a' κ β m od' oc' c2 c3 oc c1 c0 hf vf (JR G (a + 5) jn jl j0 j1 j2) od nu nb H) (hap : a + 30 ≤ a' ∨ a' + 30 ≤ a) (hκ : κ + 8 ≤ a) {f : Int → Int} (e : aat G 0 (a + 3) 3 f H1) (hq : ∀ q : Nat, q ≠ a + 3 → H1[q]? = H[q]?) : CP G a a' κ β m od' oc' c2 c3 oc c1 c0 f vf (JR G (a + 5) jn jl j0 j1 j2) od nu nb H1 := by
  obtain ⟨⟨h0, hu, hb, hh, hv, hj, ho, hU, hB⟩, hp⟩ := h
  exact ⟨⟨h0.kept (hq _ (by omega)), hu.kept (hq _ (by omega)), hb.kept (hq _ (by omega)), e, hv.kept (hq _ (by omega)), hj.kept (fun q q0 q1 => hq q (by omega)), ho.kept (hq _ (by omega)), hU.kept (fun q q0 q1 => hq q (by omega)), hB.kept (fun q q0 q1 => hq q (by omega))⟩, hp.kept (fun q q0 q1 => hq q (by omega)) (fun q q0 q1 => hq q (by omega))⟩
theorem CP.vf' (h : CP G a a' κ β m od' oc' c2 c3 oc c1 c0 hf vf (JR G (a + 5) jn jl j0 j1 j2) od nu nb H) (hap : a + 30 ≤ a' ∨ a' + 30 ≤ a) (hκ : κ + 8 ≤ a) {f : Int → Int} (e : aat G 0 (a + 4) 6 f H1) (hq : ∀ q : Nat, q ≠ a + 4 → H1[q]? = H[q]?) : CP G a a' κ β m od' oc' c2 c3 oc c1 c0 hf f (JR G (a + 5) jn jl j0 j1 j2) od nu nb H1 := by
  obtain ⟨⟨h0, hu, hb, hh, hv, hj, ho, hU, hB⟩, hp⟩ := h
  exact ⟨⟨h0.kept (hq _ (by omega)), hu.kept (hq _ (by omega)), hb.kept (hq _ (by omega)), hh.kept (hq _ (by omega)), e, hj.kept (fun q q0 q1 => hq q (by omega)), ho.kept (hq _ (by omega)), hU.kept (fun q q0 q1 => hq q (by omega)), hB.kept (fun q q0 q1 => hq q (by omega))⟩, hp.kept (fun q q0 q1 => hq q (by omega)) (fun q q0 q1 => hq q (by omega))⟩
theorem CP.jr (h : CP G a a' κ β m od' oc' c2 c3 oc c1 c0 hf vf (JR G (a + 5) jn jl j0 j1 j2) od nu nb H) (hap : a + 30 ≤ a' ∨ a' + 30 ≤ a) (hκ : κ + 8 ≤ a) {kn kl : Int} {i0 i1 i2 : Int → Int} (e : JR G (a + 5) kn kl i0 i1 i2 H1) (hq : ∀ q : Nat, (q < a + 30 ∨ q < a' + 30) → ¬ (a + 5 ≤ q ∧ q < a + 9) → H1[q]? = H[q]?) : CP G a a' κ β m od' oc' c2 c3 oc c1 c0 hf vf (JR G (a + 5) kn kl i0 i1 i2) od nu nb H1 := by
  obtain ⟨⟨h0, hu, hb, hh, hv, hj, ho, hU, hB⟩, hp⟩ := h
  exact ⟨⟨h0.kept (hq _ (by omega) (by omega)), hu.kept (hq _ (by omega) (by omega)), hb.kept (hq _ (by omega) (by omega)), hh.kept (hq _ (by omega) (by omega)), hv.kept (hq _ (by omega) (by omega)), e, ho.kept (hq _ (by omega) (by omega)), hU.kept (fun q q0 q1 => hq q (by omega) (by omega)), hB.kept (fun q q0 q1 => hq q (by omega) (by omega))⟩, hp.kept (fun q q0 q1 => hq q (by omega) (by omega)) (fun q q0 q1 => hq q (by omega) (by omega))⟩
theorem CP.size (h : CP G a a' κ β m od' oc' c2 c3 oc c1 c0 hf vf (JR G (a + 5) jn jl j0 j1 j2) od nu nb H) : a + 30 ≤ H.size ∧ a' + 30 ≤ H.size := by
  obtain ⟨fs, h1, -⟩ := h.1.2.2.2.2.2.2.2.2 11 (by omega) (by omega)
  have h2 := h1.lt
  unfold bA at h2
  exact ⟨by omega, h.2.size.1⟩
theorem CP.done (h : CP G a a' κ β m od' oc' (m 2) (m 3) oc (m 1) (m 0) (fun k => m (53 + k)) (fun k => m (56 + k)) (JR G (a + 5) jn (m 4) j0 j1 j2) od (m 2) (m 3) H) (hκ : κ + 8 ≤ a) (hj : jOK m jn j0 j1 j2) (hod : ∀ k, -2147483648 ≤ od k ∧ od k < 2147483648) (hoc : 0 ≤ oc ∧ oc ≤ 12) : PS G a κ β m od oc H ∧ PS G a' κ β m od' oc' H := by
  obtain ⟨⟨h0, hu, hb, hh, hv, hjr, ho, hU, hB⟩, hp⟩ := h
  exact ⟨⟨⟨⟨h0, hu, hb, hh, hv, ⟨_, _, _, _, hjr, hj⟩, ho, hU, hB⟩, hp.mok, hod, hoc⟩, hp.2.1, hp.2.2.1, hκ⟩, hp⟩
end CPS
/-- a State's cells, whatever they hold -/
def JSb (G : xG) (a κ : Nat) (I : Nat → Int) (F : Nat → Int → Int) (H : Heap) : Prop := SG G a κ (I 0) (I 1) (I 2) (I 3) (I 4) (F 0) (F 1) (JR G (a + 5) (I 5) (I 6) (F 2) (F 3) (F 4)) (F 5) (F 6) (I 7) (I 8) H ∧ (∀ k, -2147483648 ≤ F 5 k ∧ F 5 k < 2147483648) ∧ (0 ≤ I 2 ∧ I 2 ≤ 12)
def JS (G : xG) (a κ : Nat) (H : Heap) : Prop := ∃ I F, JSb G a κ I F H
theorem JS.of {G : xG} {a κ : Nat} {c2 c3 oc c1 c0 nx ln nu nb : Int} {hf vf j0 j1 j2 od m : Int → Int} {H : Heap} (h : SG G a κ c2 c3 oc c1 c0 hf vf (JR G (a + 5) nx ln j0 j1 j2) od m nu nb H) (hod : ∀ k, -2147483648 ≤ od k ∧ od k < 2147483648) (hoc : 0 ≤ oc ∧ oc ≤ 12) : JS G a κ H :=
  ⟨fun n => match n with | 0 => c2 | 1 => c3 | 2 => oc | 3 => c1 | 4 => c0 | 5 => nx | 6 => ln | 7 => nu | _ => nb, fun n => match n with | 0 => hf | 1 => vf | 2 => j0 | 3 => j1 | 4 => j2 | 5 => od | _ => m, h, hod, hoc⟩
theorem JS.kept {G : xG} {a κ : Nat} {H H1 : Heap} (h : JS G a κ H) (hq : ∀ q : Nat, a ≤ q → q < a + 30 → H1[q]? = H[q]?) : JS G a κ H1 := by
  obtain ⟨I, F, h1, h2⟩ := h
  exact ⟨I, F, h1.kept (h1.2.2.2.2.2.1.kept (fun q q0 q1 => hq q (by omega) (by omega))) hq, h2⟩
theorem JS.o {G : xG} {a κ : Nat} {H : Heap} (h : JS G a κ H) : ∃ fs, oat G a 3 fs H := by
  obtain ⟨I, F, h1, -⟩ := h
  exact ⟨_, h1.1⟩
theorem JS.size {G : xG} {a κ : Nat} {H : Heap} (h : JS G a κ H) : a + 30 ≤ H.size := by
  obtain ⟨I, F, h1, -⟩ := h
  obtain ⟨fs, h1, -⟩ := h1.2.2.2.2.2.2.2.2 11 (by omega) (by omega)
  have h2 := h1.lt
  unfold bA at h2
  omega
theorem PS.js {G : xG} {a κ : Nat} {β : Nat → Int → Int} {m od : Int → Int} {oc : Int} {H : Heap} (h : PS G a κ β m od oc H) : JS G a κ H := by
  obtain ⟨⟨⟨h0, hu, hb, hh, hv, ⟨nx, j0, j1, j2, hj, -⟩, ho, hU, hB⟩, hm, hod⟩, -⟩ := h
  exact JS.of (hf := fun k => m (53 + k)) (vf := fun k => m (56 + k)) ⟨h0, hu, hb, hh, hv, hj, ho, hU, hB⟩ hod.1 hod.2
theorem c_X3_copyFrom {G : xG} {l : Launch} {a a' κ : Nat} {β : Nat → Int → Int} {m od' : Int → Int} {oc' : Int} (hap : a + 30 ≤ a' ∨ a' + 30 ≤ a) (hκ : κ + 8 ≤ a) (hbr : ∀ u, 0 ≤ u → u < m 2 → 0 ≤ m (5 + 6 * u + 3) ∧ m (5 + 6 * u + 3) ≤ 1) : CT G l yX3_copyFrom cX3_copyFrom 3 none ({ frames := 2, cells := 0, slots := 0, locals := 53 } : Room) 0 0 [.ref a, .ref a'] (fun H => JS G a κ H ∧ PS G a' κ β m od' oc' H) (pV (fun H => (∃ od oc, PS G a κ β m od oc H) ∧ PS G a' κ β m od' oc' H)) (AS a) := by
  refine x_met1 (own := RX3) (nm := "copyFrom") (L := [(0, .ref a), (1, .ref a')]) (by decide) rfl rfl (fun _ => rfl) (Nat.le_of_ble_eq_true rfl) rfl rfl ?_
  intro Γ B R
  refine x_ex (ι := (Nat → Int) × (Nat → Int → Int)) (P' := fun i H => JSb G a κ i.1 i.2 H ∧ PS G a' κ β m od' oc' H) (fun H h => ⟨(h.1.choose, h.1.choose_spec.choose), h.1.choose_spec.choose_spec, h.2⟩) (fun i => ?_)
  obtain ⟨I, F⟩ := i
  refine x_fact (fun H h => h.1.2) (fun hh => ?_)
  obtain ⟨hod, hoc⟩ := hh
  refine x_weak (P' := fun H => SG G a κ (I 0) (I 1) (I 2) (I 3) (I 4) (F 0) (F 1) (JR G (a + 5) (I 5) (I 6) (F 2) (F 3) (F 4)) (F 5) (F 6) (I 7) (I 8) H ∧ PS G a' κ β m od' oc' H) (fun H h => ⟨h.1.1, h.2⟩) ?_
  simp only at hod hoc
  generalize I 0 = c2 at *
  generalize I 1 = c3 at *
  generalize I 2 = oc at *
  generalize I 3 = c1 at *
  generalize I 4 = c0 at *
  generalize I 5 = jn at *
  generalize I 6 = jl at *
  generalize I 7 = nu0 at *
  generalize I 8 = nb0 at *
  generalize F 0 = hf at *
  generalize F 1 = vf at *
  generalize F 2 = j0 at *
  generalize F 3 = j1 at *
  generalize F 4 = j2 at *
  generalize F 5 = od at *
  generalize F 6 = m0 at *
  refine x_weak (P' := CP G a a' κ β m od' oc' c2 c3 oc c1 c0 hf vf (JR G (a + 5) jn jl j0 j1 j2) od 0 0) (fun H h => ⟨⟨h.1.1, h.1.2.1, h.1.2.2.1, h.1.2.2.2.1, h.1.2.2.2.2.1, h.1.2.2.2.2.2.1, h.1.2.2.2.2.2.2.1, fun u u0 u1 => by
      obtain ⟨fs, e1, e2, -⟩ := h.1.2.2.2.2.2.2.2.1 u u0 u1
      exact ⟨fs, e1, e2, fun q => by omega⟩, fun u u0 u1 => by
      obtain ⟨fs, e1, e2, -⟩ := h.1.2.2.2.2.2.2.2.2 u u0 u1
      exact ⟨fs, e1, e2, fun q => by omega⟩⟩, h.2⟩) ?_
  refine x_fact (fun H h => PS.mok h.2) (fun hm => ?_)
  unfold mOK at hm
  have tail78 : ∀ c3', c3' = m 3 → XJ Γ 0 0 (CP G a a' κ β m od' oc' (m 2) c3' oc c1 c0 hf vf (JR G (a + 5) jn jl j0 j1 j2) od (m 2) (m 3)) 78 [(0, .ref a), (1, .ref a')] [] := by
    intro c3' ec
    subst ec
    have tail118 : ∀ kn i0 i1 i2, jOK m kn i0 i1 i2 → XJ Γ 0 0 (CP G a a' κ β m od' oc' (m 2) (m 3) oc c1 c0 (fun k => m (53 + k)) (fun k => m (56 + k)) (JR G (a + 5) kn (m 4) i0 i1 i2) od (m 2) (m 3)) 118 [(0, .ref a), (1, .ref a')] [] := by
      intro kn i0 i1 i2 hj
      refine x_aload_n B dX3_copyFrom_118 rfl ?_
      refine x_aload_n B dX3_copyFrom_119 rfl ?_
      refine x_getI B fgX3_72 dX3_copyFrom_120 (fun H h => PS.g10 H h.2) (fun r120 => ?_)
      refine x_put B fpX3_72 dX3_copyFrom_123 rfl rfl (by unfold AS; omega) (fun H h => ⟨_, h.1.1, Nat.le_of_ble_eq_true rfl, fun H1 e _ hq => CP.hd (d2 := m 2) (d3 := m 3) (d1 := m 1) (d0 := c0) h hap hκ e hq⟩) ?_
      refine x_aload_n B dX3_copyFrom_126 rfl ?_
      refine x_aload_n B dX3_copyFrom_127 rfl ?_
      refine x_getI B fgX3_40 dX3_copyFrom_128 (fun H h => PS.g11 H h.2) (fun r128 => ?_)
      refine x_put B fpX3_40 dX3_copyFrom_131 rfl rfl (by unfold AS; omega) (fun H h => ⟨_, h.1.1, Nat.le_of_ble_eq_true rfl, fun H1 e _ hq => CP.hd (d2 := m 2) (d3 := m 3) (d1 := m 1) (d0 := m 0) h hap hκ e hq⟩) ?_
      exact x_retV B R dX3_copyFrom_134 (fun H h => by exact (CP.done h hκ hj hod hoc).imp_left (fun q => ⟨_, _, q⟩))
    have call115 : XJ Γ 0 0 (CP G a a' κ β m od' oc' (m 2) (m 3) oc c1 c0 (fun k => m (53 + k)) (fun k => m (56 + k)) (JR G (a + 5) jn jl j0 j1 j2) od (m 2) (m 3)) 115 [(0, .ref a), (1, .ref a')] [.ref (a' + 5), .ref (a + 5)] := by
      refine x_ex (ι := Int × (Int → Int) × (Int → Int) × (Int → Int)) (P' := fun i H => CP G a a' κ β m od' oc' (m 2) (m 3) oc c1 c0 (fun k => m (53 + k)) (fun k => m (56 + k)) (JR G (a + 5) jn jl j0 j1 j2) od (m 2) (m 3) H ∧ JR G (a' + 5) i.1 (m 4) i.2.1 i.2.2.1 i.2.2.2 H ∧ jOK m i.1 i.2.1 i.2.2.1 i.2.2.2) (fun H h => by
        obtain ⟨nx, i0, i1, i2, h1, h2⟩ := h.2.1.1.2.2.2.2.2.1
        exact ⟨(nx, i0, i1, i2), h, h1, h2⟩) (fun i => ?_)
      obtain ⟨nx, i0, i1, i2⟩ := i
      refine x_callVg (ι := PLift (jOK m nx i0 i1 i2)) (v := fun _ => none) (P' := fun _ => CP G a a' κ β m od' oc' (m 2) (m 3) oc c1 c0 (fun k => m (53 + k)) (fun k => m (56 + k)) (JR G (a + 5) nx (m 4) i0 i1 i2) od (m 2) (m 3)) B mvX3_69 (fun l => c_X2_copyFrom (by omega)) dX3_copyFrom_115 rfl rfl (by decide) (by decide) (Nat.le_of_ble_eq_true rfl) (fun q hq => by unfold AS; omega) (fun H h => ⟨⟨h.1.1.2.2.2.2.2.1, h.2.1⟩, _, h.1.1.2.2.2.2.2.1.1⟩) (fun v' H H1 hp hpost hsz hq => ⟨⟨hp.2.2⟩, hpost.1, hp.1.jr hap hκ hpost.2.1 (fun q q0 q1 => hq q (by have := hp.1.size; omega) q1)⟩) (fun i => tail118 nx i0 i1 i2 i.down)
    refine x_aload_n B dX3_copyFrom_78 rfl ?_
    refine x_get B fgX3_23 dX3_copyFrom_79 (fun H h => ⟨_, PS.o h.2, rfl⟩) ?_
    refine x_iconst B dX3_copyFrom_82 ?_
    refine x_aload_n B dX3_copyFrom_83 rfl ?_
    refine x_get B fgX3_23 dX3_copyFrom_84 (fun H h => ⟨_, h.1.1, rfl⟩) ?_
    refine x_iconst B dX3_copyFrom_87 ?_
    refine x_iconst B dX3_copyFrom_88 ?_
    refine x_copyi B xnX3_63 dX3_copyFrom_89 (by omega) (by decide) (by unfold AS; omega) (Nat.le_of_ble_eq_true rfl) (by decide) ((fun H h => ⟨h.2.1.1.2.2.2.1, h.1.2.2.2.1, fun H1 e _ hq => CP.hf' h hap hκ (f := fun k => m (53 + k)) (e.congr (fun k k0 k1 => cpy_40 k k0 k1)) hq⟩)) ?_
    refine x_aload_n B dX3_copyFrom_92 rfl ?_
    refine x_get B fgX3_27 dX3_copyFrom_93 (fun H h => ⟨_, PS.o h.2, rfl⟩) ?_
    refine x_iconst B dX3_copyFrom_96 ?_
    refine x_aload_n B dX3_copyFrom_97 rfl ?_
    refine x_get B fgX3_27 dX3_copyFrom_98 (fun H h => ⟨_, h.1.1, rfl⟩) ?_
    refine x_iconst B dX3_copyFrom_101 ?_
    refine x_bipush B dX3_copyFrom_102 (by decide) ?_
    refine x_copyi B xnX3_63 dX3_copyFrom_104 (by omega) (by decide) (by unfold AS; omega) (Nat.le_of_ble_eq_true rfl) (by decide) ((fun H h => ⟨h.2.1.1.2.2.2.2.1, h.1.2.2.2.2.1, fun H1 e _ hq => CP.vf' h hap hκ (f := fun k => m (56 + k)) (e.congr (fun k k0 k1 => cpy_40 k k0 k1)) hq⟩)) ?_
    refine x_aload_n B dX3_copyFrom_107 rfl ?_
    refine x_get B fgX3_33 dX3_copyFrom_108 (fun H h => ⟨_, h.1.1, rfl⟩) ?_
    refine x_aload_n B dX3_copyFrom_111 rfl ?_
    refine x_get B fgX3_33 dX3_copyFrom_112 (fun H h => ⟨_, PS.o h.2, rfl⟩) ?_
    exact call115
  have loopB : ∀ (f : Nat) (i : Int) (L : List (Nat × Value)), 0 ≤ i → i ≤ m 3 → m 3 - i < f → (∀ q ∈ [(0, Value.ref a), (1, .ref a'), (2, vi i)], lget L q.1 = some q.2) → XJ Γ 0 0 (CP G a a' κ β m od' oc' (m 2) (m 3) oc c1 c0 hf vf (JR G (a + 5) jn jl j0 j1 j2) od (m 2) i) 49 L [] := by
    intro f
    induction f with
    | zero => intro i L _ _ _ _; omega
    | succ f ih =>
      intro i L i0 i1 hf' hL
      refine x_locs hL ?_
      have call : i < m 3 → XJ Γ 0 0 (CP G a a' κ β m od' oc' (m 2) (m 3) oc c1 c0 hf vf (JR G (a + 5) jn jl j0 j1 j2) od (m 2) i) 69 [(0, .ref a), (1, .ref a'), (2, vi i)] [.ref (bA a' i), .ref (bA a i)] := by
        intro hlt
        refine x_ex (ι := Value × Value × Value × Value × Value × Value × Value × Value × Value × Value) (P' := fun f H => CP G a a' κ β m od' oc' (m 2) (m 3) oc c1 c0 hf vf (JR G (a + 5) jn jl j0 j1 j2) od (m 2) i H ∧ oat G (bA a i) 0 [f.1, f.2.1, f.2.2.1, f.2.2.2.1, f.2.2.2.2.1, f.2.2.2.2.2.1, f.2.2.2.2.2.2.1, f.2.2.2.2.2.2.2.1, f.2.2.2.2.2.2.2.2.1, f.2.2.2.2.2.2.2.2.2] H) (fun H h => by
          obtain ⟨fs, e1, e2, -⟩ := h.1.2.2.2.2.2.2.2.2 i i0 (by omega)
          obtain ⟨f0, f1, f2, f3, f4, f5, f6, f7, f8, f9, ef⟩ := len10 e2
          exact ⟨(f0, f1, f2, f3, f4, f5, f6, f7, f8, f9), h, by rw [← ef]; exact e1⟩) (fun f => ?_)
        refine x_callVg (ι := Unit) (v := fun _ => none) (P' := fun _ => CP G a a' κ β m od' oc' (m 2) (m 3) oc c1 c0 hf vf (JR G (a + 5) jn jl j0 j1 j2) od (m 2) (i + 1)) B mvX3_60 (fun l => c_X0_copyFrom (by unfold bA; omega)) dX3_copyFrom_69 rfl rfl (by decide) (by decide) (Nat.le_of_ble_eq_true rfl) (fun q hq => by unfold AS; unfold bA at hq; omega) (fun H h => ⟨⟨h.2, PS.ob ⟨i0, hlt⟩ H h.1.2⟩, _, h.2⟩) (fun v' H H1 hp hpost hsz hq => ⟨(), hpost.1, hp.1.bn hap hκ (by omega) hpost.2.1 (fun q q0 q1 => hq q (by have := hp.1.size; omega) q1)⟩) (fun _ => ?_)
        refine x_iinc B dX3_copyFrom_72 rfl (by decide) ?_
        refine x_goto (tgt := 49) B dX3_copyFrom_75 (by decide) ?_
        exact ih (i + 1) _ (by omega) (by omega) (by omega) (xl_cons rfl (xl_cons rfl (xl_cons rfl xl_nil)))
      refine x_iload_n B dX3_copyFrom_49 rfl ?_
      refine x_aload_n B dX3_copyFrom_50 rfl ?_
      refine x_getI B fgX3_57 dX3_copyFrom_51 (fun H h => ⟨_, h.1.1, rfl, hm.2.2.2 3⟩) (fun r51 => ?_)
      refine x_icmp_ge (tgt := 78) B dX3_copyFrom_54 (by decide) (by omega) (by omega) (fun c54 => ?_) (fun c54 => ?_)
      · rw [show i = m 3 by omega]
        exact x_locs (xl_cons rfl (xl_cons rfl xl_nil)) (tail78 _ rfl)
      · refine x_aload_n B dX3_copyFrom_57 rfl ?_
        refine x_get B fgX3_19 dX3_copyFrom_58 (fun H h => ⟨_, h.1.1, rfl⟩) ?_
        refine x_iload_n B dX3_copyFrom_61 rfl ?_
        refine x_aald (j := 4) B dX3_copyFrom_62 rfl (by omega) (by decide) (fun H h => ⟨h.1.2.2.1, rfl⟩) ?_
        refine x_aload_n B dX3_copyFrom_63 rfl ?_
        refine x_get B fgX3_19 dX3_copyFrom_64 (fun H h => ⟨_, PS.o h.2, rfl⟩) ?_
        refine x_iload_n B dX3_copyFrom_67 rfl ?_
        refine x_aald (j := 4) B dX3_copyFrom_68 rfl (by omega) (by decide) (fun H h => PS.ab (by omega) H h.2) ?_
        exact call (by omega)
  have loopU : ∀ (f : Nat) (i : Int) (L : List (Nat × Value)), 0 ≤ i → i ≤ m 2 → m 2 - i < f → (∀ q ∈ [(0, Value.ref a), (1, .ref a'), (2, vi i)], lget L q.1 = some q.2) → XJ Γ 0 0 (CP G a a' κ β m od' oc' (m 2) c3 oc c1 c0 hf vf (JR G (a + 5) jn jl j0 j1 j2) od i 0) 10 L [] := by
    intro f
    induction f with
    | zero => intro i L _ _ _ _; omega
    | succ f ih =>
      intro i L i0 i1 hf' hL
      refine x_locs hL ?_
      have call : i < m 2 → XJ Γ 0 0 (CP G a a' κ β m od' oc' (m 2) c3 oc c1 c0 hf vf (JR G (a + 5) jn jl j0 j1 j2) od i 0) 30 [(0, .ref a), (1, .ref a'), (2, vi i)] [.ref (uA a' i), .ref (uA a i)] := by
        intro hlt
        refine x_ex (ι := Value × Value × Value × Value × Value × Value) (P' := fun f H => CP G a a' κ β m od' oc' (m 2) c3 oc c1 c0 hf vf (JR G (a + 5) jn jl j0 j1 j2) od i 0 H ∧ oat G (uA a i) 5 [f.1, f.2.1, f.2.2.1, f.2.2.2.1, f.2.2.2.2.1, f.2.2.2.2.2] H) (fun H h => by
          obtain ⟨fs, e1, e2, -⟩ := h.1.2.2.2.2.2.2.2.1 i i0 (by omega)
          obtain ⟨f0, f1, f2, f3, f4, f5, ef⟩ := len6 e2
          exact ⟨(f0, f1, f2, f3, f4, f5), h, by rw [← ef]; exact e1⟩) (fun f => ?_)
        refine x_callVg (ι := Unit) (v := fun _ => none) (P' := fun _ => CP G a a' κ β m od' oc' (m 2) c3 oc c1 c0 hf vf (JR G (a + 5) jn jl j0 j1 j2) od (i + 1) 0) B mvX3_53 (fun l => c_X5_copyFrom (by unfold uA; omega) (hbr i i0 hlt)) dX3_copyFrom_30 rfl rfl (by decide) (by decide) (Nat.le_of_ble_eq_true rfl) (fun q hq => by unfold AS; unfold uA at hq; omega) (fun H h => ⟨⟨h.2, PS.ou ⟨i0, hlt⟩ H h.1.2⟩, _, h.2⟩) (fun v' H H1 hp hpost hsz hq => ⟨(), hpost.1, hp.1.un hap hκ (by omega) hpost.2.1 (fun q q0 q1 => hq q (by have := hp.1.size; omega) q1)⟩) (fun _ => ?_)
        refine x_iinc B dX3_copyFrom_33 rfl (by decide) ?_
        refine x_goto (tgt := 10) B dX3_copyFrom_36 (by decide) ?_
        exact ih (i + 1) _ (by omega) (by omega) (by omega) (xl_cons rfl (xl_cons rfl (xl_cons rfl xl_nil)))
      refine x_iload_n B dX3_copyFrom_10 rfl ?_
      refine x_aload_n B dX3_copyFrom_11 rfl ?_
      refine x_getI B fgX3_50 dX3_copyFrom_12 (fun H h => ⟨_, h.1.1, rfl, hm.2.2.2 2⟩) (fun r12 => ?_)
      refine x_icmp_ge (tgt := 39) B dX3_copyFrom_15 (by decide) (by omega) (by omega) (fun c15 => ?_) (fun c15 => ?_)
      · rw [show i = m 2 by omega]
        refine x_aload_n B dX3_copyFrom_39 rfl ?_
        refine x_aload_n B dX3_copyFrom_40 rfl ?_
        refine x_getI B fgX3_57 dX3_copyFrom_41 (fun H h => PS.g8 H h.2) (fun r41 => ?_)
        refine x_put B fpX3_57 dX3_copyFrom_44 rfl rfl (by unfold AS; omega) (fun H h => ⟨_, h.1.1, Nat.le_of_ble_eq_true rfl, fun H1 e _ hq => CP.hd (d2 := m 2) (d3 := m 3) (d1 := c1) (d0 := c0) h hap hκ e hq⟩) ?_
        refine x_iconst B dX3_copyFrom_47 ?_
        refine x_istore_n B dX3_copyFrom_48 (by decide) ?_
        exact loopB 13 0 _ (by omega) (by omega) (by omega) (xl_cons rfl (xl_cons rfl (xl_cons rfl xl_nil)))
      · refine x_aload_n B dX3_copyFrom_18 rfl ?_
        refine x_get B fgX3_11 dX3_copyFrom_19 (fun H h => ⟨_, h.1.1, rfl⟩) ?_
        refine x_iload_n B dX3_copyFrom_22 rfl ?_
        refine x_aald (j := 3) B dX3_copyFrom_23 rfl (by omega) (by decide) (fun H h => ⟨h.1.2.1, rfl⟩) ?_
        refine x_aload_n B dX3_copyFrom_24 rfl ?_
        refine x_get B fgX3_11 dX3_copyFrom_25 (fun H h => ⟨_, PS.o h.2, rfl⟩) ?_
        refine x_iload_n B dX3_copyFrom_28 rfl ?_
        refine x_aald (j := 3) B dX3_copyFrom_29 rfl (by omega) (by decide) (fun H h => PS.au (by omega) H h.2) ?_
        exact call (by omega)
  refine x_aload_n B dX3_copyFrom_0 rfl ?_
  refine x_aload_n B dX3_copyFrom_1 rfl ?_
  refine x_getI B fgX3_50 dX3_copyFrom_2 (fun H h => PS.g7 H h.2) (fun r2 => ?_)
  refine x_put B fpX3_50 dX3_copyFrom_5 rfl rfl (by unfold AS; omega) (fun H h => ⟨_, h.1.1, Nat.le_of_ble_eq_true rfl, fun H1 e _ hq => CP.hd (d2 := m 2) (d3 := c3) (d1 := c1) (d0 := c0) h hap hκ e hq⟩) ?_
  refine x_iconst B dX3_copyFrom_8 ?_
  refine x_istore_n B dX3_copyFrom_9 (by decide) ?_
  exact loopU 9 0 _ (by omega) (by omega) (by omega) (xl_cons rfl (xl_cons rfl (xl_cons rfl xl_nil)))

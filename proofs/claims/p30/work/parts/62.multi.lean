/-! ===== an array of arrays of numbers ===== -/
section XR14
variable {Γ : xE} {G : xG} {cc : ByteArray} {own : String} {nL : Nat} {rm : Room} {A : Nat → Prop} {kc ks pc : Nat} {P P' : Heap → Prop} {L : List (Nat × Value)} {st : List Value}
theorem cell_eq {c1 c2 : Cell} (h1 : c1.cls = c2.cls) (h2 : c1.vm = c2.vm) (h4 : c1.monitor = c2.monitor) (h5 : c1.hash = c2.hash) (h3 : c1.slots = c2.slots) : c1 = c2 := by
  cases c1
  cases c2
  simp_all
theorem outer_mh (c : ClassId) (N h0 : Nat) : ∀ i : Nat, (Jvm.Free.Multi.outerC c N h0 i).monitor = (Jvm.Free.Multi.outerC c N h0 0).monitor ∧ (Jvm.Free.Multi.outerC c N h0 i).hash = (Jvm.Free.Multi.outerC c N h0 0).hash
  | 0 => ⟨rfl, rfl⟩
  | i + 1 => by
    obtain ⟨h1, h2⟩ := outer_mh c N h0 i
    exact ⟨h1, h2⟩
theorem x_multi (B : XB Γ G cc own nL rm A) {idx a N M : Nat} {n k0 : Int} (d : decode cc pc = .ok (.multianewarray idx 2, 4)) (hw : Cond.classLink own idx "[[I" ∈ xw) (hn : n = N ∧ N ≤ 1000) (hk : k0 = M ∧ M ≤ 1000) (hc : kc + (1 + N) ≤ rm.cells ∧ ks + (N + N * M) ≤ rm.slots)
    (hv : ∀ H, P H → H.size = a ∧ ∀ H1, rat G 2 a N (fun k => some (a + 1 + k)) H1 → (∀ w : Nat, w < N → aat G 0 (a + 1 + w) M (fun _ => 0) H1) → H1.size = a + 1 + N → (∀ q : Nat, q < a → H1[q]? = H[q]?) → P' H1) (k : XJ Γ (kc + 1 + N) (ks + N + N * M) P' (pc + 4) L (.ref a :: st)) : XJ Γ kc ks P pc L (vi k0 :: vi n :: st) := by
  obtain ⟨p, l, e, R, s, m, args, below, meth, c, A', Q⟩ := Γ
  obtain ⟨hx, hb, hml, ho, hts, ⟨hK, hN⟩, hRR, hAA⟩ := B
  subst hRR
  intro H locs ls hP hS hL
  obtain ⟨hsz, hv⟩ := hv H hP
  have ei : ∀ z : Int, 0 ≤ z → z ≤ 1000 → (Int32.ofInt z).toInt = z := fun z z0 z1 => Int32.toInt_ofInt_of_le (by omega) (by omega)
  have en : ∀ z : Int, 0 ≤ z → z ≤ 1000 → (Int32.ofInt z).toNatClampNeg = z.toNat := fun z z0 z1 => by show (Int32.ofInt z).toInt.toNat = _; rw [ei z z0 z1]
  have neg : ∀ z : Int, 0 ≤ z → z ≤ 1000 → ¬ Int32.ofInt z < 0 := fun z z0 z1 q => by
    rw [Int32.lt_iff_toInt_lt, ei z z0 z1] at q
    have h0 : (0 : Int32).toInt = 0 := rfl
    omega
  have e1 : (Int32.ofInt n).toNatClampNeg = N := by rw [en n (by omega) (by omega)]; omega
  have e2 : (Int32.ofInt k0).toNatClampNeg = M := by rw [en k0 (by omega) (by omega)]; omega
  intro T hT X
  obtain ⟨vm₁, cA, comp, hW1, hfA, hfC, -, -, X1, step⟩ := X.multianewarray2F hx (own := own) (index := idx) (ty := .int) ho (hts _ hw) hN.2.2.2.2 (hts _ aw_int) (g := F0 m pc ls (vi k0 :: vi n :: st)) rfl (by rw [hb]; exact d) (n := Int32.ofInt n) (k := Int32.ofInt k0) (rest := st) rfl (neg n (by omega) (by omega)) (neg k0 (by omega) (by omega))
    (by rw [e1]; omega) (by rw [e2]; show M * 4 ≤ _; omega) (by rw [e2]; omega) rfl rfl (by rw [e1]; exact hc.1) (by rw [e1, e2]; exact hc.2)
  rw [e1, e2] at X1 step
  obtain ⟨f1, f2, f3, f4⟩ := Jvm.Free.Multi.fill_facts (T.setVm vm₁) cA comp N M (defaultValue .int) N
  have hh : (T.setVm vm₁).heap = H := by rw [← hT]; rfl
  have hTs : T.heap.size = a := by rw [hT, hsz]
  have hcA : cA = G.2 2 := Option.some.inj (hfA.symm.trans (hK.2 2 _ rfl).2)
  have hcC : comp = G.2 0 := Option.some.inj (hfC.symm.trans (hK.2 0 _ rfl).2)
  subst hcA
  subst hcC
  have fi := Jvm.Free.Multi.fill_inner (T.setVm vm₁) (G.2 2) (G.2 0) N M (defaultValue .int) N
  have fo := fun (x : Nat) (hxx : x < (T.setVm vm₁).heap.size) => Jvm.Free.Multi.fill_old (T.setVm vm₁) (G.2 2) (G.2 0) N M (defaultValue .int) hxx N
  rw [hh, hsz] at f1 f2 fi fo
  obtain ⟨o1, o2, o3⟩ := Jvm.Free.Multi.outerC_facts (G.2 2) N a N
  have hout : Jvm.Free.Multi.outerC (G.2 2) N a N = vp_cell (G.2 2) (N, .inr (.inr (.inr (.inr (fun k => some (a + 1 + k)))))) := by
    rw [vp_cell_q]
    refine cell_eq o1 o2 (outer_mh (G.2 2) N a N).1 (outer_mh (G.2 2) N a N).2 (Array.ext_getElem? (fun j => ?_))
    by_cases hj : j < N
    · rw [Jvm.Free.Multi.outerC_slot (G.2 2) N a N j hj, if_pos hj, arrV_read _ _ hj]
      rfl
    · rw [Array.getElem?_eq_none (by rw [o3]; omega), Array.getElem?_eq_none (by rw [arrV_size]; omega)]
  have hin : Jvm.Free.Multi.innerC (G.2 0) M (defaultValue .int) = vp_cell (G.2 0) (M, .inl (fun _ => Int32.ofInt 0)) := by
    rw [vp_cell_i, ← arrV_new]
    rfl
  generalize hH1 : (Jvm.Free.Multi.fill (T.setVm vm₁) (G.2 2) (G.2 0) N M (defaultValue .int) N).heap = H1 at *
  obtain ⟨t, a1, b1⟩ := k H1 locs ls (hv H1 (by show H1[a]? = some (vp_cell _ _); rw [f2, hout]) (fun w hw => by show H1[a + 1 + w]? = some (vp_cell _ _); rw [fi w hw, hin]) f1 fo) ⟨Nat.le_trans hS.1 (by omega), fun x h1 h2 => (fo x (by have := hS.1; omega)).trans (hS.2.1 x h1 h2), hS.2.2⟩ hL _ hH1 X1
  rw [hTs] at step
  exact ⟨t, step t a1, b1⟩
end XR14

/-! ===== rows that make: objects, arrays ===== -/
section XR13
variable {Γ : xE} {G : xG} {cc : ByteArray} {own : String} {nL : Nat} {rm : Room} {A : Nat → Prop} {kc ks pc : Nat} {P P' : Heap → Prop} {L : List (Nat × Value)} {st : List Value}
/-- the call of Object's constructor -/
theorem x_oi (B : XB Γ G cc own nL rm A) {idx a : Nat} (hlk : Cond.methodLink own idx objectInit ∈ xw) (d : decode cc pc = .ok (.invokespecial idx, 3)) (hR : 1 ≤ rm.frames ∧ (st.map fun v => v.category).sum + 12 ≤ rm.locals) (k : XJ Γ kc ks P (pc + 3) L st) : XJ Γ kc ks P pc L (.ref a :: st) := by
  obtain ⟨p, l, e, R, s, m, args, below, meth, c, A', Q⟩ := Γ
  obtain ⟨hx, hb, hml, ho, hts, hK, hRR, hAA⟩ := B
  subst hRR
  intro H locs ls hP hS hL
  exact W.objInit hx hb ho (hts _ hlk) (hts _ oi_1) (hts _ oi_2) rfl (by rw [hL.1.1]) rfl d hR.1 (by show 2 * 0 + _ + _ ≤ _; have := hR.2; omega) (k H locs ls hP hS hL)
/-- a new object -/
theorem x_new (B : XB Γ G cc own nL rm A) {idx ci a N : Nat} {fs : List Value} (lk : LkN own idx ci) (d : decode cc pc = .ok (.new idx, 3)) (hfs : ∀ (C : String) (T : u_T) (N' : Nat) (tys : Nat → FieldType), vwCl[ci]? = some (C, T, N') → (∀ k, k < N' → parseFieldDescriptor (T k).2.2.1 = some (tys k)) → N' = N ∧ ∀ j, j < N' → defaultValue (tys j) = vp_V fs j) (hc : kc + 1 ≤ rm.cells ∧ ks + N ≤ rm.slots)
    (hv : ∀ H, P H → H.size = a ∧ ∀ H1, oat G a ci fs H1 → H1.size = a + 1 → (∀ q : Nat, q < a → H1[q]? = H[q]?) → P' H1) (k : XJ Γ (kc + 1) (ks + N) P' (pc + 3) L (.ref a :: st)) : XJ Γ kc ks P pc L st := by
  obtain ⟨p, l, e, R, s, m, args, below, meth, c, A', Q⟩ := Γ
  obtain ⟨hx, hb, hml, ho, hts, ⟨hK, hN⟩, hRR, hAA⟩ := B
  subst hRR
  obtain ⟨C, T, N', tys, hc0, hin, hty, w1, w2, w3⟩ := lk
  obtain ⟨hNN, hdf⟩ := hfs C T N' tys hc0 hty
  subst hNN
  intro H locs ls hP hS hL
  obtain ⟨hsz, hv⟩ := hv H hP
  have hKn := hK.1 ci _ hc0
  refine W.newcK hx hb ho (hts _ w1) (hts _ w2) (hts _ w3) rfl d hc.1 hc.2 hKn.2.1 rfl fun H1 kC hkC e1 z1 o1 => ?_
  rw [hsz] at e1 z1 o1
  rw [hsz]
  have h1 : oat G a ci fs H1 := ⟨_, hc0, (u_born tys hts hin hKn hkC e1 hty).to hdf⟩
  exact k H1 locs ls (hv H1 h1 z1 o1) ⟨Nat.le_trans hS.1 (by omega), fun x h1 h2 => (o1 x (by have := hS.1; omega)).trans (hS.2.1 x h1 h2), hS.2.2⟩ hL
/-- a new array of numbers or characters -/
theorem x_newa (B : XB Γ G cc own nL rm A) {atype : ArrayType} {t : FieldType} {j a N : Nat} {n : Int} (hat : newarray.typeOf atype = t) (hint : t = .int ∨ t = .char) (hj : (xTys G)[j]? = some (G.2 j, t)) (d : decode cc pc = .ok (.newarray atype, 2)) (hw : Cond.arrayClass t ∈ xw) (hn : n = N ∧ N ≤ 100000) (hc : kc + 1 ≤ rm.cells ∧ ks + N ≤ rm.slots)
    (hv : ∀ H, P H → H.size = a ∧ ∀ H1, aat G j a N (fun _ => 0) H1 → H1.size = a + 1 → (∀ q : Nat, q < a → H1[q]? = H[q]?) → P' H1) (k : XJ Γ (kc + 1) (ks + N) P' (pc + 2) L (.ref a :: st)) : XJ Γ kc ks P pc L (vi n :: st) := by
  obtain ⟨p, l, e, R, s, m, args, below, meth, c, A', Q⟩ := Γ
  obtain ⟨hx, hb, hml, ho, hts, ⟨hK, hN⟩, hRR, hAA⟩ := B
  subst hRR
  intro H locs ls hP hS hL
  obtain ⟨hsz, hv⟩ := hv H hP
  have hni : (Int32.ofInt n).toInt = n := Int32.toInt_ofInt_of_le (by omega) (by omega)
  have hnn : (Int32.ofInt n).toNatClampNeg = N := by show (Int32.ofInt n).toInt.toNat = N; rw [hni]; omega
  have hneg : ¬ Int32.ofInt n < 0 := fun q => by
    rw [Int32.lt_iff_toInt_lt, hni] at q
    have h0 : (0 : Int32).toInt = 0 := rfl
    omega
  subst hat
  obtain ⟨-, hname⟩ := hK.2 j _ hj
  have hb4 : N * componentBytes (newarray.typeOf atype) ≤ 536870912 := by
    rcases hint with h | h
    · rw [h]; show N * 4 ≤ _; omega
    · rw [h]; show N * 2 ≤ _; omega
  refine va_newaK (atype := atype) hx hb (hts _ hw) rfl d rfl hneg hnn hb4 hc.1 hc.2 hsz fun H1 cA e1 z1 o1 hAr hNm => ?_
  have hcA : cA = G.2 j := by
    cases atype <;> exact Option.some.inj (hNm.symm.trans hname)
  subst hcA
  have hcell : aat G j a N (fun _ => 0) H1 := by
    show H1[a]? = some (vp_cell _ _)
    rw [vp_cell_i, e1]
    congr 2
    funext _
    rcases hint with h | h <;> rw [h] <;> rfl
  exact k H1 locs ls (hv H1 hcell z1 o1) ⟨Nat.le_trans hS.1 (by omega), fun x h1 h2 => (o1 x (by have := hS.1; omega)).trans (hS.2.1 x h1 h2), hS.2.2⟩ hL
/-- a new array of references -/
theorem x_anewa (B : XB Γ G cc own nL rm A) {C : String} {idx j a N : Nat} {n : Int} (hj : (xTys G)[j]? = some (G.2 j, .object C)) (d : decode cc pc = .ok (.anewarray idx, 3)) (hw : Cond.classLink own idx C ∈ xw) (hAO : ∀ s, xN s → va_AO C s) (hn : n = N ∧ N ≤ 100000) (hc : kc + 1 ≤ rm.cells ∧ ks + N ≤ rm.slots)
    (hv : ∀ H, P H → H.size = a ∧ ∀ H1, rat G j a N (fun _ => none) H1 → H1.size = a + 1 → (∀ q : Nat, q < a → H1[q]? = H[q]?) → P' H1) (k : XJ Γ (kc + 1) (ks + N) P' (pc + 3) L (.ref a :: st)) : XJ Γ kc ks P pc L (vi n :: st) := by
  obtain ⟨p, l, e, R, s, m, args, below, meth, c, A', Q⟩ := Γ
  obtain ⟨hx, hb, hml, ho, hts, ⟨hK, hN⟩, hRR, hAA⟩ := B
  subst hRR
  intro H locs ls hP hS hL
  obtain ⟨hsz, hv⟩ := hv H hP
  have hni : (Int32.ofInt n).toInt = n := Int32.toInt_ofInt_of_le (by omega) (by omega)
  have hnn : (Int32.ofInt n).toNatClampNeg = N := by show (Int32.ofInt n).toInt.toNat = N; rw [hni]; omega
  have hneg : ¬ Int32.ofInt n < 0 := fun q => by
    rw [Int32.lt_iff_toInt_lt, hni] at q
    have h0 : (0 : Int32).toInt = 0 := rfl
    omega
  obtain ⟨-, kA', comp', g2, g3, g4, hname⟩ := hK.2 j _ hj
  refine W.anew hx hb ho (hts _ hw) (va_AO.use (hAO s hN)) rfl d rfl hneg (by rw [hnn]; omega) hc.1 (by rw [hnn]; exact hc.2) fun cA kA comp f1 f2 f3 f4 => ?_
  have hcA : cA = G.2 j := Option.some.inj (f1.symm.trans hname)
  subst hcA
  rw [hnn, hsz]
  generalize hH1 : H.push _ = H1
  have z1 : H1.size = a + 1 := by rw [← hH1, Array.size_push, hsz]
  have o1 : ∀ q : Nat, q < a → H1[q]? = H[q]? := fun q hq => by rw [← hH1, Array.getElem?_push, if_neg (by omega)]
  have hcell : rat G j a N (fun _ => none) H1 := by
    show H1[a]? = some (vp_cell _ _)
    rw [vp_cell_q, ← hH1, ← hsz, Array.getElem?_push_size, ← arrV_new]
    rfl
  exact k H1 locs ls (hv H1 hcell z1 o1) ⟨Nat.le_trans hS.1 (by omega), fun x h1 h2 => (o1 x (by have := hS.1; omega)).trans (hS.2.1 x h1 h2), hS.2.2⟩ hL
end XR13
theorem c_X5_init {G : xG} {l : Launch} {a : Nat} {P : Heap → Prop} {A : Nat → Prop} : CT G l yX5_init cX5_init 1 none { frames := 1, locals := 20 } 0 0 [.ref a] P (pV P) A := by
  refine x_met1 (own := RX5) (nm := "<init>") (L := [(0, .ref a)]) (by decide) rfl rfl (fun _ => rfl) (Nat.le_of_ble_eq_true rfl) rfl rfl ?_
  intro Γ B R
  refine x_aload_n B dX5_init_0 rfl ?_
  refine x_oi B moX5_3 dX5_init_1 (by decide) ?_
  exact x_retV B R dX5_init_4 (fun H h => h)
theorem c_X0_init {G : xG} {l : Launch} {a : Nat} {P : Heap → Prop} {A : Nat → Prop} : CT G l yX0_init cX0_init 1 none { frames := 1, locals := 20 } 0 0 [.ref a] P (pV P) A := by
  refine x_met1 (own := RX0) (nm := "<init>") (L := [(0, .ref a)]) (by decide) rfl rfl (fun _ => rfl) (Nat.le_of_ble_eq_true rfl) rfl rfl ?_
  intro Γ B R
  refine x_aload_n B dX0_init_0 rfl ?_
  refine x_oi B moX0_3 dX0_init_1 (by decide) ?_
  exact x_retV B R dX0_init_4 (fun H h => h)

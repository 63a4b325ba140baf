/-! ===== rows for the class; Unit, Batch, Book, Journal ===== -/
theorem i32_rem {x y : Int} (hx : 0 ≤ x ∧ x < 2147483648) (hy : 0 < y ∧ y < 2147483648) : Int32.ofInt x - Int32.ofInt x / Int32.ofInt y * Int32.ofInt y = Int32.ofInt (x % y) := by
  rw [← Int32.toInt_inj, rem_toInt, Int32.toInt_ofInt_of_le (by omega) (by omega), Int32.toInt_ofInt_of_le (by omega) (by omega), Int.tmod_eq_emod_of_nonneg hx.1]
  have h1 := Int.emod_nonneg x (show y ≠ 0 by omega)
  have h2 := Int.emod_lt_of_pos x hy.1
  rw [Int32.toInt_ofInt_of_le (by omega) (by omega)]
section XR9
variable {Γ : xE} {G : xG} {cc : ByteArray} {own : String} {nL : Nat} {rm : Room} {A : Nat → Prop} {kc ks pc : Nat} {P : Heap → Prop} {L : List (Nat × Value)} {st : List Value}
theorem x_irem (B : XB Γ G cc own nL rm A) {x y : Int} (d : decode cc pc = .ok (.irem, 1)) (hx : 0 ≤ x ∧ x < 2147483648) (hy : 0 < y ∧ y < 2147483648) (k : XJ Γ kc ks P (pc + 1) L (vi (x % y) :: st)) : XJ Γ kc ks P pc L (vi y :: vi x :: st) := by
  obtain ⟨p, l, e, R, s, m, args, below, meth, c, A', Q⟩ := Γ
  obtain ⟨hexec, hb, hml, -⟩ := B
  intro H locs ls hP hS hL
  refine lv_irem hexec hb d ?_ ?_
  · intro q
    have := (i32_eq (x := y) (y := 0) (by omega) (by omega)).mp q
    omega
  · rw [i32_rem hx hy]
    exact k H locs ls hP hS hL
theorem x_lookup (B : XB Γ G cc own nL rm A) {dflt : Int} {ps : Array (Int × Int)} {len : Nat} {x : Int} {off : Int} {tgt : Nat} (d : decode cc pc = .ok (.lookupswitch dflt ps, len)) (hp : (ps.toList.zip (ps.toList.drop 1)).all (fun (a, next) => a.1 < next.1) = true) (ho : Op.lookupswitch.offset ps.toList dflt (Int32.ofInt x).toInt = off) (ht : (pc : Int) + off = (tgt : Int)) (k : XJ Γ kc ks P tgt L st) : XJ Γ kc ks P pc L (vi x :: st) := by
  obtain ⟨p, l, e, R, s, m, args, below, meth, c, A', Q⟩ := Γ
  obtain ⟨hx0, hb, hml, -⟩ := B
  intro H locs ls hP hS hL
  exact lv_lookup hx0 hb d hp ho ht (k H locs ls hP hS hL)
theorem x_i2c (B : XB Γ G cc own nL rm A) {x : Int} (d : decode cc pc = .ok (.i2c, 1)) (hx : 0 ≤ x ∧ x < 65536) (k : XJ Γ kc ks P (pc + 1) L (vi x :: st)) : XJ Γ kc ks P pc L (vi x :: st) := by
  obtain ⟨p, l, e, R, s, m, args, below, meth, c, A', Q⟩ := Γ
  obtain ⟨hx0, hb, hml, -⟩ := B
  intro H locs ls hP hS hL
  refine lv_i2c hx0 hb d (v := Int32.ofInt x) ?_ (k H locs ls hP hS hL)
  obtain ⟨n, rfl⟩ := Int.eq_ofNat_of_zero_le hx.1
  rw [i32_nat]
  apply Int32.toBitVec.inj
  show (BitVec.ofNat 32 n) % 65536#32 = BitVec.ofNat 32 n
  rw [← BitVec.toNat_inj, BitVec.toNat_umod]
  simp
  omega
/-- numbers copied from one array into another -/
theorem x_copyi (B : XB Γ G cc own nL rm A) {index : Nat} {a0 a n0 n1 : Nat} {f g : Int → Int} {sp dp n : Int} {P' : Heap → Prop} (hw : ∀ w ∈ ([.methodLink own index ⟨"java/lang/System", "arraycopy", "(Ljava/lang/Object;ILjava/lang/Object;II)V"⟩, .native ⟨"java/lang/System", "arraycopy", "(Ljava/lang/Object;ILjava/lang/Object;II)V"⟩, .static ⟨"java/lang/System", "arraycopy", "(Ljava/lang/Object;ILjava/lang/Object;II)V"⟩, .initialized "java/lang/System"] : List Cond), w ∈ xw)
    (d : decode cc pc = .ok (.invokestatic index, 3)) (h1 : 0 ≤ sp ∧ 0 ≤ dp ∧ 0 ≤ n ∧ sp + n ≤ n0 ∧ dp + n ≤ n1) (hn : n0 ≤ 10000 ∧ n1 ≤ 10000) (hA : A a) (hc : (st.map fun v => v.category).sum ≤ 8) (hR : 1 ≤ rm.frames ∧ 8 + (nativeFrameWords "java/lang/System" "arraycopy" 5 + 11) ≤ rm.locals)
    (hv : ∀ H, P H → aat G 0 a0 n0 f H ∧ aat G 0 a n1 g H ∧ ∀ H1, aat G 0 a n1 (cpyN f g sp dp n) H1 → H1.size = H.size → (∀ q : Nat, q ≠ a → H1[q]? = H[q]?) → P' H1)
    (kk : XJ Γ kc ks P' (pc + 3) L st) : XJ Γ kc ks P pc L (vi n :: vi dp :: .ref a :: vi sp :: .ref a0 :: st) := by
  obtain ⟨p, l, e, R, s, m, args, below, meth, c, A', Q⟩ := Γ
  obtain ⟨hexec, hb, hml, hown, hts, ⟨hK, hN⟩, hRR, hAA⟩ := B
  subst hRR
  subst hAA
  intro H locs ls hPH hS hL
  obtain ⟨ha0, ha1, hH1⟩ := hv H hPH
  have hp0 : va_P G.1 vwCl [(a0, .inl (G.2 0, n0, .inl (fun k => Int32.ofInt (f (k : Int)))))] H := wone ha0
  have hp1 : va_P G.1 vwCl [(a, .inl (G.2 0, n1, .inl (fun k => Int32.ofInt (g (k : Int)))))] H := wone ha1
  have hc0 : H[a0]? = some (vp_cell (G.2 0) (n0, .inl (fun k => Int32.ofInt (f (k : Int))))) := hp0 0 _ rfl
  have hc1 : H[a]? = some (vp_cell (G.2 0) (n1, .inl (fun k => Int32.ofInt (g (k : Int))))) := hp1 0 _ rfl
  obtain ⟨-, k0, hk0, cm0, hkk0⟩ := (hK.2 0 _ rfl).1 n0 (fun j => .int (Int32.ofInt (f (j : Int))))
  obtain ⟨-, k1, hk1, cm1, hkk1⟩ := (hK.2 0 _ rfl).1 n1 (fun j => .int (Int32.ofInt (g (j : Int))))
  have ei : ∀ z : Int, 0 ≤ z → z ≤ 10000 → (Int32.ofInt z).toInt = z := fun z z0 z1 => Int32.toInt_ofInt_of_le (by omega) (by omega)
  have en : ∀ z : Int, 0 ≤ z → z ≤ 10000 → (Int32.ofInt z).toNatClampNeg = z.toNat := fun z z0 z1 => by show (Int32.ofInt z).toInt.toNat = _; rw [ei z z0 z1]
  have neg : ∀ z : Int, 0 ≤ z → z ≤ 10000 → ¬ Int32.ofInt z < 0 := fun z z0 z1 q => by
    rw [Int32.lt_iff_toInt_lt, ei z z0 z1] at q
    have h0 : (0 : Int32).toInt = 0 := rfl
    omega
  intro T hT X
  obtain ⟨vm', X', step⟩ := X.arraycopy hexec hown (hts _ (hw _ (List.mem_cons_self))) (hts _ (hw _ (List.mem_cons_of_mem _ List.mem_cons_self))) (hts _ (hw _ (List.mem_cons_of_mem _ (List.mem_cons_of_mem _ List.mem_cons_self)))) (hts _ (hw _ (List.mem_cons_of_mem _ (List.mem_cons_of_mem _ (List.mem_cons_of_mem _ List.mem_cons_self))))) (src := a0) (dst := a) (cs := vp_cell (G.2 0) (n0, .inl (fun k => Int32.ofInt (f (k : Int))))) (cd := vp_cell (G.2 0) (n1, .inl (fun k => Int32.ofInt (g (k : Int))))) (srcPos := Int32.ofInt sp) (destPos := Int32.ofInt dp) (n := Int32.ofInt n) (by rw [hT]; exact hc0) (by rw [hT]; exact hc1)
    (fun _ h => by cases h) (fun _ h => by cases h) (fun h => by cases h) (fun h => by cases h) hk0 hk1 hkk0 hkk1 (by simp [refKind]) (neg sp (by omega) (by omega)) (neg dp (by omega) (by omega)) (neg n (by omega) (by omega))
    (by rw [ei sp (by omega) (by omega), ei n (by omega) (by omega)]; show ¬ _ > ((arrV (G.2 0) n0 (fun j => .int (Int32.ofInt (f (j : Int))))).slots.size : Int); rw [arrV_size]; omega)
    (by rw [ei dp (by omega) (by omega), ei n (by omega) (by omega)]; show ¬ _ > ((arrV (G.2 0) n1 (fun j => .int (Int32.ofInt (g (j : Int))))).slots.size : Int); rw [arrV_size]; omega)
    (fun vm₁ _ i hi => by
      rw [en n (by omega) (by omega)] at hi
      have e : (vp_cell (G.2 0) (n0, .inl (fun k => Int32.ofInt (f (k : Int))))).slots.getD ((Int32.ofInt sp).toNatClampNeg + i) .null = .int (Int32.ofInt (f (((Int32.ofInt sp).toNatClampNeg + i : Nat) : Int))) := by
        show (arrV (G.2 0) n0 (fun j => .int (Int32.ofInt (f (j : Int))))).slots.getD _ _ = _
        rw [Array.getD_eq_getD_getElem?, arrV_read _ _ (by rw [en sp (by omega) (by omega)]; omega)]
        rfl
      refine ⟨?_, ?_⟩
      · rw [e]
        rfl
      · rw [e]
        exact trivial)
    (g := F0 m pc ls (vi n :: vi dp :: .ref a :: vi sp :: .ref a0 :: st)) rfl (by rw [hL.1.1]) (rest := st) rfl (by rw [hb]; exact d) hR.1 (by show 2 * 0 + _ + _ ≤ _; omega)
  have hcp := va_copied (fun z => .int z) (G.2 0) (G.2 0) (fun k => Int32.ofInt (f (k : Int))) (fun k => Int32.ofInt (g (k : Int))) (n0 := n0) (n1 := n1) (sp := (Int32.ofInt sp).toNatClampNeg) (dp := (Int32.ofInt dp).toNatClampNeg) (n := (Int32.ofInt n).toNatClampNeg) (by rw [en sp (by omega) (by omega), en n (by omega) (by omega)]; omega)
  have e1 : copied (vp_cell (G.2 0) (n0, .inl (fun k => Int32.ofInt (f (k : Int))))) (vp_cell (G.2 0) (n1, .inl (fun k => Int32.ofInt (g (k : Int))))) (Int32.ofInt sp) (Int32.ofInt dp) (Int32.ofInt n) = vp_cell (G.2 0) (n1, .inl (fun k => Int32.ofInt (cpyN f g sp dp n (k : Int)))) := by
    refine hcp.trans ?_
    rw [vp_cell_i]
    congr 1
    funext k
    congr 1
    rw [en sp (by omega) (by omega), en dp (by omega) (by omega), en n (by omega) (by omega)]
    unfold va_cpy cpyN
    by_cases h : dp.toNat ≤ k ∧ k < dp.toNat + n.toNat
    · rw [if_pos h, if_pos (by omega)]
      show Int32.ofInt (f ((sp.toNat + (k - dp.toNat) : Nat) : Int)) = _
      rw [show ((sp.toNat + (k - dp.toNat) : Nat) : Int) = sp + ((k : Int) - dp) by omega]
    · rw [if_neg h, if_neg (by omega)]
  rw [e1] at X' step
  have hl : a < H.size := (Array.getElem?_eq_some_iff.mp hc1).1
  have hheap : ((T.setVm vm').setCell a (vp_cell (G.2 0) (n1, .inl (fun k => Int32.ofInt (cpyN f g sp dp n (k : Int)))))).heap = H.setIfInBounds a (vp_cell (G.2 0) (n1, .inl (fun k => Int32.ofInt (cpyN f g sp dp n (k : Int))))) := by rw [← hT]; rfl
  have oq : ∀ q : Nat, q ≠ a → (H.setIfInBounds a (vp_cell (G.2 0) (n1, .inl (fun k => Int32.ofInt (cpyN f g sp dp n (k : Int))))))[q]? = H[q]? := fun q hq => by simp [Array.getElem?_setIfInBounds, Ne.symm hq]
  obtain ⟨t, a1, b1⟩ := kk _ _ ls (hH1 _ (show va_at _ _ _ _ from (show (H.setIfInBounds a _)[a]? = some _ by simp [Array.getElem?_setIfInBounds, hl])) (by simp) oq) ⟨by simp; exact hS.1, fun q g1 g2 => by
      rw [oq q (fun e => g2 (by rw [e]; exact hA))]
      exact hS.2.1 q g1 g2, fun q hq => by
      rcases List.mem_append.mp hq with h | h
      · exact hS.2.2 q h
      · obtain ⟨z, -, hz⟩ := List.mem_map.mp h
        rw [← hz]
        exact hA⟩ hL _ hheap X'
  exact ⟨t, step t a1, b1⟩
end XR9
theorem O_put {G : xG} {u ci k : Nat} {fs : List Value} {v : Value} (hk : k < fs.length) : ∀ H, oat G u ci fs H → ∃ fs', oat G u ci fs' H ∧ k < fs'.length ∧ ∀ H1, oat G u ci (fs'.set k v) H1 → H1.size = H.size → (∀ q : Nat, q ≠ u → H1[q]? = H[q]?) → oat G u ci (fs.set k v) H1 := fun H h => ⟨fs, h, hk, fun H1 e _ _ => e⟩
/-- beside an object that stays -/
theorem O_put2 {G : xG} {u u2 ci k : Nat} {fs gs : List Value} {v : Value} (hne : u2 ≠ u) (hk : k < fs.length) : ∀ H, (oat G u ci fs H ∧ oat G u2 ci gs H) → ∃ fs', oat G u ci fs' H ∧ k < fs'.length ∧ ∀ H1, oat G u ci (fs'.set k v) H1 → H1.size = H.size → (∀ q : Nat, q ≠ u → H1[q]? = H[q]?) → (oat G u ci (fs.set k v) H1 ∧ oat G u2 ci gs H1) := fun H h => ⟨fs, h.1, hk, fun H1 e _ hq => ⟨e, h.2.kept (hq _ hne)⟩⟩
theorem O_get2 {G : xG} {u u2 ci k : Nat} {fs gs : List Value} {v : Value} (hk : gs[k]? = some v) : ∀ H, (oat G u ci fs H ∧ oat G u2 ci gs H) → ∃ fs', oat G u2 ci fs' H ∧ fs'[k]? = some v := fun H h => ⟨gs, h.2, hk⟩
theorem c_X5_reset {G : xG} {l : Launch} {u : Nat} {f0 f1 f2 f3 f4 f5 : Value} {kd cp : Int} : CT G l yX5_reset cX5_reset 3 none ({ frames := 0, cells := 0, slots := 0, locals := 0 } : Room) 0 0 [.ref u, vi kd, vi cp] (oat G u 5 [f0, f1, f2, f3, f4, f5]) (pV (oat G u 5 [vi kd, vi cp, vi (-1), vi 0, vi 0, vi 0])) (fun q => q = u) := by
  refine x_met1 (own := RX5) (nm := "reset") (L := [(0, .ref u), (1, vi kd), (2, vi cp)]) (by decide) rfl rfl (fun _ => rfl) (Nat.le_of_ble_eq_true rfl) rfl rfl ?_
  intro Γ B R
  have hA : (fun q => q = u) u := rfl
  refine x_aload_n B dX5_reset_0 rfl ?_
  refine x_iload_n B dX5_reset_1 rfl ?_
  refine x_put B fpX5_9 dX5_reset_2 rfl rfl hA (O_put (Nat.le_of_ble_eq_true rfl)) ?_
  refine x_aload_n B dX5_reset_5 rfl ?_
  refine x_iload_n B dX5_reset_6 rfl ?_
  refine x_put B fpX5_15 dX5_reset_7 rfl rfl hA (O_put (Nat.le_of_ble_eq_true rfl)) ?_
  refine x_aload_n B dX5_reset_10 rfl ?_
  refine x_iconst B dX5_reset_11 ?_
  refine x_put B fpX5_18 dX5_reset_12 rfl rfl hA (O_put (Nat.le_of_ble_eq_true rfl)) ?_
  refine x_aload_n B dX5_reset_15 rfl ?_
  refine x_iconst B dX5_reset_16 ?_
  refine x_put B fpX5_21 dX5_reset_17 rfl rfl hA (O_put (Nat.le_of_ble_eq_true rfl)) ?_
  refine x_aload_n B dX5_reset_20 rfl ?_
  refine x_iconst B dX5_reset_21 ?_
  refine x_put B fpX5_24 dX5_reset_22 rfl rfl hA (O_put (Nat.le_of_ble_eq_true rfl)) ?_
  refine x_aload_n B dX5_reset_25 rfl ?_
  refine x_iconst B dX5_reset_26 ?_
  refine x_put B fpX5_27 dX5_reset_27 rfl rfl hA (O_put (Nat.le_of_ble_eq_true rfl)) ?_
  exact x_retV B R dX5_reset_30 (fun H h => by exact h)
theorem c_X5_copyFrom {G : xG} {l : Launch} {u u2 : Nat} {f0 f1 f2 f3 f4 f5 : Value} {k0 k1 k2 k3 k4 k5 : Int} (hne : u2 ≠ u) (h5 : 0 ≤ k5 ∧ k5 ≤ 1) : CT G l yX5_copyFrom cX5_copyFrom 2 none ({ frames := 0, cells := 0, slots := 0, locals := 0 } : Room) 0 0 [.ref u, .ref u2] (fun H => oat G u 5 [f0, f1, f2, f3, f4, f5] H ∧ oat G u2 5 [vi k0, vi k1, vi k2, vi k3, vi k4, vi k5] H) (pV (fun H => oat G u 5 [vi k0, vi k1, vi k2, vi k3, vi k4, vi k5] H ∧ oat G u2 5 [vi k0, vi k1, vi k2, vi k3, vi k4, vi k5] H)) (fun q => q = u) := by
  have hk : k5 = 0 ∨ k5 = 1 := by omega
  rcases hk with hk | hk <;> subst hk
  all_goals
    refine x_met1 (own := RX5) (nm := "copyFrom") (L := [(0, .ref u), (1, .ref u2)]) (by decide) rfl rfl (fun _ => rfl) (Nat.le_of_ble_eq_true rfl) rfl rfl ?_
    intro Γ B R
    have hA : (fun q => q = u) u := rfl
    refine x_aload_n B dX5_copyFrom_0 rfl ?_
    refine x_aload_n B dX5_copyFrom_1 rfl ?_
    refine x_get B fgX5_9 dX5_copyFrom_2 (O_get2 rfl) ?_
    refine x_put B fpX5_9 dX5_copyFrom_5 rfl rfl hA (O_put2 hne (Nat.le_of_ble_eq_true rfl)) ?_
    refine x_aload_n B dX5_copyFrom_8 rfl ?_
    refine x_aload_n B dX5_copyFrom_9 rfl ?_
    refine x_get B fgX5_15 dX5_copyFrom_10 (O_get2 rfl) ?_
    refine x_put B fpX5_15 dX5_copyFrom_13 rfl rfl hA (O_put2 hne (Nat.le_of_ble_eq_true rfl)) ?_
    refine x_aload_n B dX5_copyFrom_16 rfl ?_
    refine x_aload_n B dX5_copyFrom_17 rfl ?_
    refine x_get B fgX5_18 dX5_copyFrom_18 (O_get2 rfl) ?_
    refine x_put B fpX5_18 dX5_copyFrom_21 rfl rfl hA (O_put2 hne (Nat.le_of_ble_eq_true rfl)) ?_
    refine x_aload_n B dX5_copyFrom_24 rfl ?_
    refine x_aload_n B dX5_copyFrom_25 rfl ?_
    refine x_get B fgX5_21 dX5_copyFrom_26 (O_get2 rfl) ?_
    refine x_put B fpX5_21 dX5_copyFrom_29 rfl rfl hA (O_put2 hne (Nat.le_of_ble_eq_true rfl)) ?_
    refine x_aload_n B dX5_copyFrom_32 rfl ?_
    refine x_aload_n B dX5_copyFrom_33 rfl ?_
    refine x_get B fgX5_24 dX5_copyFrom_34 (O_get2 rfl) ?_
    refine x_put B fpX5_24 dX5_copyFrom_37 rfl rfl hA (O_put2 hne (Nat.le_of_ble_eq_true rfl)) ?_
    refine x_aload_n B dX5_copyFrom_40 rfl ?_
    refine x_aload_n B dX5_copyFrom_41 rfl ?_
    refine x_get B fgX5_27 dX5_copyFrom_42 (O_get2 rfl) ?_
    refine x_put B fpX5_27 dX5_copyFrom_45 rfl rfl hA (O_put2 hne (Nat.le_of_ble_eq_true rfl)) ?_
    exact x_retV B R dX5_copyFrom_48 (fun H h => by exact h)
theorem c_X5_isFreeAfter {G : xG} {l : Launch} {P : Heap → Prop} {A : Nat → Prop} {u : Nat} {m : Int → Int} {x t : Int} (hp : ∀ H, P H → oat G u 5 (fU m x) H) (hm : ∀ k, -2147483648 ≤ m k ∧ m k < 2147483648) (ht : -2147483648 ≤ t ∧ t < 2147483648) : CT G l yX5_isFreeAfter cX5_isFreeAfter 2 (some .boolean) ({ frames := 0, cells := 0, slots := 0, locals := 0 } : Room) 0 0 [.ref u, vi t] P (pZ (m (5 + 6 * x + 2) = -1 ∧ m (5 + 6 * x + 3) = 0 ∧ m (5 + 6 * x + 4) ≤ t) P) A := by
  refine x_met1 (own := RX5) (nm := "isFreeAfter") (L := [(0, .ref u), (1, vi t)]) (by decide) rfl rfl (fun _ => rfl) (Nat.le_of_ble_eq_true rfl) rfl rfl ?_
  intro Γ B R
  refine x_aload_n B dX5_isFreeAfter_0 rfl ?_
  refine x_getI B fgX5_18 dX5_isFreeAfter_1 (fun H h => ⟨_, hp H h, rfl, hm _⟩) (fun r1 => ?_)
  refine x_iconst B dX5_isFreeAfter_4 ?_
  refine x_icmp_ne (tgt := 27) B dX5_isFreeAfter_5 (by decide) (by omega) (by omega) (fun c5 => ?_) (fun c5 => ?_)
  · refine x_iconst B dX5_isFreeAfter_27 ?_
    exact x_retZ B R dX5_isFreeAfter_28 ((bz_f (by omega)).symm) (fun H h => by exact h)
  · refine x_aload_n B dX5_isFreeAfter_8 rfl ?_
    refine x_getI B fgX5_27 dX5_isFreeAfter_9 (fun H h => ⟨_, hp H h, rfl, hm _⟩) (fun r9 => ?_)
    refine x_if_ne (tgt := 27) B dX5_isFreeAfter_12 (by decide) (by omega) (fun c12 => ?_) (fun c12 => ?_)
    · refine x_iconst B dX5_isFreeAfter_27 ?_
      exact x_retZ B R dX5_isFreeAfter_28 ((bz_f (by omega)).symm) (fun H h => by exact h)
    · refine x_aload_n B dX5_isFreeAfter_15 rfl ?_
      refine x_getI B fgX5_21 dX5_isFreeAfter_16 (fun H h => ⟨_, hp H h, rfl, hm _⟩) (fun r16 => ?_)
      refine x_iload_n B dX5_isFreeAfter_19 rfl ?_
      refine x_icmp_gt (tgt := 27) B dX5_isFreeAfter_20 (by decide) (by omega) (by omega) (fun c20 => ?_) (fun c20 => ?_)
      · refine x_iconst B dX5_isFreeAfter_27 ?_
        exact x_retZ B R dX5_isFreeAfter_28 ((bz_f (by omega)).symm) (fun H h => by exact h)
      · refine x_iconst B dX5_isFreeAfter_23 ?_
        refine x_goto (tgt := 28) B dX5_isFreeAfter_24 (by decide) ?_
        exact x_retZ B R dX5_isFreeAfter_28 ((bz_t (by omega)).symm) (fun H h => by exact h)
theorem c_X0_isActive {G : xG} {l : Launch} {P : Heap → Prop} {A : Nat → Prop} {u : Nat} {m : Int → Int} {x : Int} (hp : ∀ H, P H → oat G u 0 (fBt m x) H) (hm : ∀ k, -2147483648 ≤ m k ∧ m k < 2147483648) : CT G l yX0_isActive cX0_isActive 1 (some .boolean) ({ frames := 0, cells := 0, slots := 0, locals := 0 } : Room) 0 0 [.ref u] P (pZ (m (548 + 10 * x + 5) = 1 ∨ m (548 + 10 * x + 5) = 3) P) A := by
  refine x_met1 (own := RX0) (nm := "isActive") (L := [(0, .ref u)]) (by decide) rfl rfl (fun _ => rfl) (Nat.le_of_ble_eq_true rfl) rfl rfl ?_
  intro Γ B R
  refine x_aload_n B dX0_isActive_0 rfl ?_
  refine x_getI B fgX0_27 dX0_isActive_1 (fun H h => ⟨_, hp H h, rfl, hm _⟩) (fun r1 => ?_)
  refine x_iconst B dX0_isActive_4 ?_
  refine x_icmp_eq (tgt := 16) B dX0_isActive_5 (by decide) (by omega) (by omega) (fun c5 => ?_) (fun c5 => ?_)
  · refine x_iconst B dX0_isActive_16 ?_
    refine x_goto (tgt := 21) B dX0_isActive_17 (by decide) ?_
    exact x_retZ B R dX0_isActive_21 ((bz_t (by omega)).symm) (fun H h => by exact h)
  · refine x_aload_n B dX0_isActive_8 rfl ?_
    refine x_getI B fgX0_27 dX0_isActive_9 (fun H h => ⟨_, hp H h, rfl, hm _⟩) (fun r9 => ?_)
    refine x_iconst B dX0_isActive_12 ?_
    refine x_icmp_ne (tgt := 20) B dX0_isActive_13 (by decide) (by omega) (by omega) (fun c13 => ?_) (fun c13 => ?_)
    · refine x_iconst B dX0_isActive_20 ?_
      exact x_retZ B R dX0_isActive_21 ((bz_f (by omega)).symm) (fun H h => by exact h)
    · refine x_iconst B dX0_isActive_16 ?_
      refine x_goto (tgt := 21) B dX0_isActive_17 (by decide) ?_
      exact x_retZ B R dX0_isActive_21 ((bz_t (by omega)).symm) (fun H h => by exact h)
theorem c_X0_isAtEnd {G : xG} {l : Launch} {P : Heap → Prop} {A : Nat → Prop} {u : Nat} {m : Int → Int} {x : Int} (hp : ∀ H, P H → oat G u 0 (fBt m x) H) (hm : ∀ k, -2147483648 ≤ m k ∧ m k < 2147483648) (h5 : 0 ≤ m (548 + 10 * x + 5) ∧ m (548 + 10 * x + 5) ≤ 6) : CT G l yX0_isAtEnd cX0_isAtEnd 1 (some .boolean) ({ frames := 0, cells := 0, slots := 0, locals := 0 } : Room) 0 0 [.ref u] P (pZ (4 ≤ m (548 + 10 * x + 5)) P) A := by
  refine x_met1 (own := RX0) (nm := "isAtEnd") (L := [(0, .ref u)]) (by decide) rfl rfl (fun _ => rfl) (Nat.le_of_ble_eq_true rfl) rfl rfl ?_
  intro Γ B R
  refine x_aload_n B dX0_isAtEnd_0 rfl ?_
  refine x_getI B fgX0_27 dX0_isAtEnd_1 (fun H h => ⟨_, hp H h, rfl, hm _⟩) (fun r1 => ?_)
  refine x_iconst B dX0_isAtEnd_4 ?_
  refine x_icmp_eq (tgt := 25) B dX0_isAtEnd_5 (by decide) (by omega) (by omega) (fun c5 => ?_) (fun c5 => ?_)
  · refine x_iconst B dX0_isAtEnd_25 ?_
    refine x_goto (tgt := 30) B dX0_isAtEnd_26 (by decide) ?_
    exact x_retZ B R dX0_isAtEnd_30 ((bz_t (by omega)).symm) (fun H h => by exact h)
  · refine x_aload_n B dX0_isAtEnd_8 rfl ?_
    refine x_getI B fgX0_27 dX0_isAtEnd_9 (fun H h => ⟨_, hp H h, rfl, hm _⟩) (fun r9 => ?_)
    refine x_iconst B dX0_isAtEnd_12 ?_
    refine x_icmp_eq (tgt := 25) B dX0_isAtEnd_13 (by decide) (by omega) (by omega) (fun c13 => ?_) (fun c13 => ?_)
    · refine x_iconst B dX0_isAtEnd_25 ?_
      refine x_goto (tgt := 30) B dX0_isAtEnd_26 (by decide) ?_
      exact x_retZ B R dX0_isAtEnd_30 ((bz_t (by omega)).symm) (fun H h => by exact h)
    · refine x_aload_n B dX0_isAtEnd_16 rfl ?_
      refine x_getI B fgX0_27 dX0_isAtEnd_17 (fun H h => ⟨_, hp H h, rfl, hm _⟩) (fun r17 => ?_)
      refine x_bipush B dX0_isAtEnd_20 (by decide) ?_
      refine x_icmp_ne (tgt := 29) B dX0_isAtEnd_22 (by decide) (by omega) (by omega) (fun c22 => ?_) (fun c22 => ?_)
      · refine x_iconst B dX0_isAtEnd_29 ?_
        exact x_retZ B R dX0_isAtEnd_30 ((bz_f (by omega)).symm) (fun H h => by exact h)
      · refine x_iconst B dX0_isAtEnd_25 ?_
        refine x_goto (tgt := 30) B dX0_isAtEnd_26 (by decide) ?_
        exact x_retZ B R dX0_isAtEnd_30 ((bz_t (by omega)).symm) (fun H h => by exact h)
theorem c_X0_isUnderWay {G : xG} {l : Launch} {P : Heap → Prop} {A : Nat → Prop} {u : Nat} {m : Int → Int} {x : Int} (hp : ∀ H, P H → oat G u 0 (fBt m x) H) (hm : ∀ k, -2147483648 ≤ m k ∧ m k < 2147483648) : CT G l yX0_isUnderWay cX0_isUnderWay 1 (some .boolean) ({ frames := 0, cells := 0, slots := 0, locals := 0 } : Room) 0 0 [.ref u] P (pZ (0 < m (548 + 10 * x + 7)) P) A := by
  refine x_met1 (own := RX0) (nm := "isUnderWay") (L := [(0, .ref u)]) (by decide) rfl rfl (fun _ => rfl) (Nat.le_of_ble_eq_true rfl) rfl rfl ?_
  intro Γ B R
  refine x_aload_n B dX0_isUnderWay_0 rfl ?_
  refine x_getI B fgX0_33 dX0_isUnderWay_1 (fun H h => ⟨_, hp H h, rfl, hm _⟩) (fun r1 => ?_)
  refine x_if_le (tgt := 11) B dX0_isUnderWay_4 (by decide) (by omega) (fun c4 => ?_) (fun c4 => ?_)
  · refine x_iconst B dX0_isUnderWay_11 ?_
    exact x_retZ B R dX0_isUnderWay_12 ((bz_f (by omega)).symm) (fun H h => by exact h)
  · refine x_iconst B dX0_isUnderWay_7 ?_
    refine x_goto (tgt := 12) B dX0_isUnderWay_8 (by decide) ?_
    exact x_retZ B R dX0_isUnderWay_12 ((bz_t (by omega)).symm) (fun H h => by exact h)
theorem c_X0_hasBegun {G : xG} {l : Launch} {P : Heap → Prop} {A : Nat → Prop} {u : Nat} {m : Int → Int} {x : Int} (hp : ∀ H, P H → oat G u 0 (fBt m x) H) (hm : ∀ k, -2147483648 ≤ m k ∧ m k < 2147483648) : CT G l yX0_hasBegun cX0_hasBegun 1 (some .boolean) ({ frames := 0, cells := 0, slots := 0, locals := 0 } : Room) 0 0 [.ref u] P (pZ (0 < m (548 + 10 * x + 6) ∨ 0 < m (548 + 10 * x + 7)) P) A := by
  refine x_met1 (own := RX0) (nm := "hasBegun") (L := [(0, .ref u)]) (by decide) rfl rfl (fun _ => rfl) (Nat.le_of_ble_eq_true rfl) rfl rfl ?_
  intro Γ B R
  refine x_aload_n B dX0_hasBegun_0 rfl ?_
  refine x_getI B fgX0_30 dX0_hasBegun_1 (fun H h => ⟨_, hp H h, rfl, hm _⟩) (fun r1 => ?_)
  refine x_if_gt (tgt := 14) B dX0_hasBegun_4 (by decide) (by omega) (fun c4 => ?_) (fun c4 => ?_)
  · refine x_iconst B dX0_hasBegun_14 ?_
    refine x_goto (tgt := 19) B dX0_hasBegun_15 (by decide) ?_
    exact x_retZ B R dX0_hasBegun_19 ((bz_t (by omega)).symm) (fun H h => by exact h)
  · refine x_aload_n B dX0_hasBegun_7 rfl ?_
    refine x_getI B fgX0_33 dX0_hasBegun_8 (fun H h => ⟨_, hp H h, rfl, hm _⟩) (fun r8 => ?_)
    refine x_if_le (tgt := 18) B dX0_hasBegun_11 (by decide) (by omega) (fun c11 => ?_) (fun c11 => ?_)
    · refine x_iconst B dX0_hasBegun_18 ?_
      exact x_retZ B R dX0_hasBegun_19 ((bz_f (by omega)).symm) (fun H h => by exact h)
    · refine x_iconst B dX0_hasBegun_14 ?_
      refine x_goto (tgt := 19) B dX0_hasBegun_15 (by decide) ?_
      exact x_retZ B R dX0_hasBegun_19 ((bz_t (by omega)).symm) (fun H h => by exact h)
theorem c_X0_reset {G : xG} {l : Launch} {u : Nat} {f0 f1 f2 f3 f4 f5 f6 f7 f8 f9 : Value} {r v s p b : Int} : CT G l yX0_reset cX0_reset 6 none ({ frames := 0, cells := 0, slots := 0, locals := 0 } : Room) 0 0 [.ref u, vi r, vi v, vi s, vi p, vi b] (oat G u 0 [f0, f1, f2, f3, f4, f5, f6, f7, f8, f9]) (pV (oat G u 0 [vi r, vi v, vi s, vi p, vi b, vi 0, vi 0, vi 0, vi (-1), .float (FP.i2f (Int32.ofInt s))])) (fun q => q = u) := by
  refine x_met1 (own := RX0) (nm := "reset") (L := [(0, .ref u), (1, vi r), (2, vi v), (3, vi s), (4, vi p), (5, vi b)]) (by decide) rfl rfl (fun _ => rfl) (Nat.le_of_ble_eq_true rfl) rfl rfl ?_
  intro Γ B R
  have hA : (fun q => q = u) u := rfl
  refine x_aload_n B dX0_reset_0 rfl ?_
  refine x_iload_n B dX0_reset_1 rfl ?_
  refine x_put B fpX0_9 dX0_reset_2 rfl rfl hA (O_put (Nat.le_of_ble_eq_true rfl)) ?_
  refine x_aload_n B dX0_reset_5 rfl ?_
  refine x_iload_n B dX0_reset_6 rfl ?_
  refine x_put B fpX0_15 dX0_reset_7 rfl rfl hA (O_put (Nat.le_of_ble_eq_true rfl)) ?_
  refine x_aload_n B dX0_reset_10 rfl ?_
  refine x_iload_n B dX0_reset_11 rfl ?_
  refine x_put B fpX0_18 dX0_reset_12 rfl rfl hA (O_put (Nat.le_of_ble_eq_true rfl)) ?_
  refine x_aload_n B dX0_reset_15 rfl ?_
  refine x_iload B dX0_reset_16 rfl ?_
  refine x_put B fpX0_21 dX0_reset_18 rfl rfl hA (O_put (Nat.le_of_ble_eq_true rfl)) ?_
  refine x_aload_n B dX0_reset_21 rfl ?_
  refine x_iload B dX0_reset_22 rfl ?_
  refine x_put B fpX0_24 dX0_reset_24 rfl rfl hA (O_put (Nat.le_of_ble_eq_true rfl)) ?_
  refine x_aload_n B dX0_reset_27 rfl ?_
  refine x_iconst B dX0_reset_28 ?_
  refine x_put B fpX0_27 dX0_reset_29 rfl rfl hA (O_put (Nat.le_of_ble_eq_true rfl)) ?_
  refine x_aload_n B dX0_reset_32 rfl ?_
  refine x_iconst B dX0_reset_33 ?_
  refine x_put B fpX0_30 dX0_reset_34 rfl rfl hA (O_put (Nat.le_of_ble_eq_true rfl)) ?_
  refine x_aload_n B dX0_reset_37 rfl ?_
  refine x_iconst B dX0_reset_38 ?_
  refine x_put B fpX0_33 dX0_reset_39 rfl rfl hA (O_put (Nat.le_of_ble_eq_true rfl)) ?_
  refine x_aload_n B dX0_reset_42 rfl ?_
  refine x_iconst B dX0_reset_43 ?_
  refine x_put B fpX0_36 dX0_reset_44 rfl rfl hA (O_put (Nat.le_of_ble_eq_true rfl)) ?_
  refine x_aload_n B dX0_reset_47 rfl ?_
  refine x_iload_n B dX0_reset_48 rfl ?_
  refine x_i2f B dX0_reset_49 ?_
  refine x_put B fpX0_39 dX0_reset_50 rfl rfl hA (O_put (Nat.le_of_ble_eq_true rfl)) ?_
  exact x_retV B R dX0_reset_53 (fun H h => by exact h)
theorem c_X0_copyFrom {G : xG} {l : Launch} {u u2 : Nat} {f0 f1 f2 f3 f4 f5 f6 f7 f8 f9 : Value} {k0 k1 k2 k3 k4 k5 k6 k7 k8 : Int} {k9 : UInt32} (hne : u2 ≠ u) : CT G l yX0_copyFrom cX0_copyFrom 2 none ({ frames := 0, cells := 0, slots := 0, locals := 0 } : Room) 0 0 [.ref u, .ref u2] (fun H => oat G u 0 [f0, f1, f2, f3, f4, f5, f6, f7, f8, f9] H ∧ oat G u2 0 [vi k0, vi k1, vi k2, vi k3, vi k4, vi k5, vi k6, vi k7, vi k8, .float k9] H) (pV (fun H => oat G u 0 [vi k0, vi k1, vi k2, vi k3, vi k4, vi k5, vi k6, vi k7, vi k8, .float k9] H ∧ oat G u2 0 [vi k0, vi k1, vi k2, vi k3, vi k4, vi k5, vi k6, vi k7, vi k8, .float k9] H)) (fun q => q = u) := by
  refine x_met1 (own := RX0) (nm := "copyFrom") (L := [(0, .ref u), (1, .ref u2)]) (by decide) rfl rfl (fun _ => rfl) (Nat.le_of_ble_eq_true rfl) rfl rfl ?_
  intro Γ B R
  have hA : (fun q => q = u) u := rfl
  refine x_aload_n B dX0_copyFrom_0 rfl ?_
  refine x_aload_n B dX0_copyFrom_1 rfl ?_
  refine x_get B fgX0_9 dX0_copyFrom_2 (O_get2 rfl) ?_
  refine x_put B fpX0_9 dX0_copyFrom_5 rfl rfl hA (O_put2 hne (Nat.le_of_ble_eq_true rfl)) ?_
  refine x_aload_n B dX0_copyFrom_8 rfl ?_
  refine x_aload_n B dX0_copyFrom_9 rfl ?_
  refine x_get B fgX0_15 dX0_copyFrom_10 (O_get2 rfl) ?_
  refine x_put B fpX0_15 dX0_copyFrom_13 rfl rfl hA (O_put2 hne (Nat.le_of_ble_eq_true rfl)) ?_
  refine x_aload_n B dX0_copyFrom_16 rfl ?_
  refine x_aload_n B dX0_copyFrom_17 rfl ?_
  refine x_get B fgX0_18 dX0_copyFrom_18 (O_get2 rfl) ?_
  refine x_put B fpX0_18 dX0_copyFrom_21 rfl rfl hA (O_put2 hne (Nat.le_of_ble_eq_true rfl)) ?_
  refine x_aload_n B dX0_copyFrom_24 rfl ?_
  refine x_aload_n B dX0_copyFrom_25 rfl ?_
  refine x_get B fgX0_21 dX0_copyFrom_26 (O_get2 rfl) ?_
  refine x_put B fpX0_21 dX0_copyFrom_29 rfl rfl hA (O_put2 hne (Nat.le_of_ble_eq_true rfl)) ?_
  refine x_aload_n B dX0_copyFrom_32 rfl ?_
  refine x_aload_n B dX0_copyFrom_33 rfl ?_
  refine x_get B fgX0_24 dX0_copyFrom_34 (O_get2 rfl) ?_
  refine x_put B fpX0_24 dX0_copyFrom_37 rfl rfl hA (O_put2 hne (Nat.le_of_ble_eq_true rfl)) ?_
  refine x_aload_n B dX0_copyFrom_40 rfl ?_
  refine x_aload_n B dX0_copyFrom_41 rfl ?_
  refine x_get B fgX0_27 dX0_copyFrom_42 (O_get2 rfl) ?_
  refine x_put B fpX0_27 dX0_copyFrom_45 rfl rfl hA (O_put2 hne (Nat.le_of_ble_eq_true rfl)) ?_
  refine x_aload_n B dX0_copyFrom_48 rfl ?_
  refine x_aload_n B dX0_copyFrom_49 rfl ?_
  refine x_get B fgX0_30 dX0_copyFrom_50 (O_get2 rfl) ?_
  refine x_put B fpX0_30 dX0_copyFrom_53 rfl rfl hA (O_put2 hne (Nat.le_of_ble_eq_true rfl)) ?_
  refine x_aload_n B dX0_copyFrom_56 rfl ?_
  refine x_aload_n B dX0_copyFrom_57 rfl ?_
  refine x_get B fgX0_33 dX0_copyFrom_58 (O_get2 rfl) ?_
  refine x_put B fpX0_33 dX0_copyFrom_61 rfl rfl hA (O_put2 hne (Nat.le_of_ble_eq_true rfl)) ?_
  refine x_aload_n B dX0_copyFrom_64 rfl ?_
  refine x_aload_n B dX0_copyFrom_65 rfl ?_
  refine x_get B fgX0_36 dX0_copyFrom_66 (O_get2 rfl) ?_
  refine x_put B fpX0_36 dX0_copyFrom_69 rfl rfl hA (O_put2 hne (Nat.le_of_ble_eq_true rfl)) ?_
  refine x_aload_n B dX0_copyFrom_72 rfl ?_
  refine x_aload_n B dX0_copyFrom_73 rfl ?_
  refine x_get B fgX0_39 dX0_copyFrom_74 (O_get2 rfl) ?_
  refine x_put B fpX0_39 dX0_copyFrom_77 rfl rfl hA (O_put2 hne (Nat.le_of_ble_eq_true rfl)) ?_
  exact x_retV B R dX0_copyFrom_80 (fun H h => by exact h)
theorem c_X1_pageOf {G : xG} {l : Launch} {P : Heap → Prop} {A : Nat → Prop} {r v : Int} (h1 : 0 ≤ r ∧ r < 6) (h2 : 1 ≤ v ∧ v ≤ 9) : CT G l yX1_pageOf cX1_pageOf 2 (some .int) ({ frames := 0, cells := 0, slots := 0, locals := 0 } : Room) 0 0 [vi r, vi v] P (pI (9 * r + v - 1) P) A := by
  refine x_met1 (own := RX1) (nm := "pageOf") (L := [(0, vi r), (1, vi v)]) (by decide) rfl rfl (fun _ => rfl) (Nat.le_of_ble_eq_true rfl) rfl rfl ?_
  intro Γ B R
  refine x_iload_n B dX1_pageOf_0 rfl ?_
  refine x_bipush B dX1_pageOf_1 (by decide) ?_
  refine x_imul B dX1_pageOf_3 ?_
  refine x_iload_n B dX1_pageOf_4 rfl ?_
  refine x_iadd B dX1_pageOf_5 ?_
  refine x_iconst B dX1_pageOf_6 ?_
  refine x_isub B dX1_pageOf_7 ?_
  exact x_retI B R dX1_pageOf_8 (by first | rfl | omega) (by omega) (fun H h => by exact h)
theorem c_X1_lengthOf {G : xG} {l : Launch} {P : Heap → Prop} {A : Nat → Prop} {κ : Nat} {β : Nat → Int → Int} {g : Int} (hp : ∀ H, P H → bkH G κ β H) (h1 : 0 ≤ g ∧ g < 54) : CT G l yX1_lengthOf cX1_lengthOf 2 (some .int) ({ frames := 0, cells := 0, slots := 0, locals := 0 } : Room) 0 0 [.ref κ, vi g] P (pI (β 5 g) P) A := by
  refine x_met1 (own := RX1) (nm := "lengthOf") (L := [(0, .ref κ), (1, vi g)]) (by decide) rfl rfl (fun _ => rfl) (Nat.le_of_ble_eq_true rfl) rfl rfl ?_
  intro Γ B R
  refine x_iload_n B dX1_lengthOf_0 rfl ?_
  refine x_if_lt (tgt := 22) B dX1_lengthOf_1 (by decide) (by omega) (fun c1 => ?_) (fun c1 => ?_)
  · refine x_iconst B dX1_lengthOf_22 ?_
    exact x_retI B R dX1_lengthOf_23 (by first | rfl | (exfalso; omega)) (by omega) (fun H h => by exact h)
  · refine x_iload_n B dX1_lengthOf_4 rfl ?_
    refine x_aload_n B dX1_lengthOf_5 rfl ?_
    refine x_get B fgX1_9 dX1_lengthOf_6 (fun H h => ⟨_, (hp H h).1, rfl⟩) ?_
    refine x_alen (j := 0) (n := 54) (f := β 5) (v := 54) B dX1_lengthOf_9 rfl rfl (fun H h => (hp H h).2.1) ?_
    refine x_icmp_ge (tgt := 22) B dX1_lengthOf_10 (by decide) (by omega) (by omega) (fun c10 => ?_) (fun c10 => ?_)
    · refine x_iconst B dX1_lengthOf_22 ?_
      exact x_retI B R dX1_lengthOf_23 (by first | rfl | (exfalso; omega)) (by omega) (fun H h => by exact h)
    · refine x_aload_n B dX1_lengthOf_13 rfl ?_
      refine x_get B fgX1_9 dX1_lengthOf_14 (fun H h => ⟨_, (hp H h).1, rfl⟩) ?_
      refine x_iload_n B dX1_lengthOf_17 rfl ?_
      refine x_ialdR B dX1_lengthOf_18 (by omega) (by decide) (fun H h => ⟨(hp H h).2.1, (hp H h).2.2.2.2 5⟩) (fun r18 => ?_)
      refine x_goto (tgt := 23) B dX1_lengthOf_19 (by decide) ?_
      exact x_retI B R dX1_lengthOf_23 (by first | rfl | (exfalso; omega)) (by omega) (fun H h => by exact h)
theorem c_X1_find {G : xG} {l : Launch} {P : Heap → Prop} {A : Nat → Prop} {κ : Nat} {β : Nat → Int → Int} {g k w : Int} (hp : ∀ H, P H → bkH G κ β H) (h1 : 0 ≤ g ∧ g < 54) (h2 : -2147483648 ≤ k ∧ k < 2147483648) (h3 : 0 ≤ w ∧ w < 5) (h4 : β 5 g ≤ 8) : CT G l yX1_find cX1_find 4 (some .int) ({ frames := 0, cells := 0, slots := 0, locals := 0 } : Room) 0 0 [.ref κ, vi g, vi k, vi w] P (pI (if 0 ≤ k ∧ k < β 5 g then β w.toNat (8 * g + k) else -1) P) A := by
  refine x_met1 (own := RX1) (nm := "find") (L := [(0, .ref κ), (1, vi g), (2, vi k), (3, vi w)]) (by decide) rfl rfl (fun _ => rfl) (Nat.le_of_ble_eq_true rfl) rfl rfl ?_
  intro Γ B R
  refine x_iload_n B dX1_find_0 rfl ?_
  refine x_if_lt (tgt := 27) B dX1_find_1 (by decide) (by omega) (fun c1 => ?_) (fun c1 => ?_)
  · refine x_iconst B dX1_find_27 ?_
    exact x_retI B R dX1_find_28 (by rw [if_neg (by omega)]) (by rw [if_neg (by omega)]; decide) (fun H h => by exact h)
  · refine x_iload_n B dX1_find_4 rfl ?_
    refine x_aload_n B dX1_find_5 rfl ?_
    refine x_get B fgX1_9 dX1_find_6 (fun H h => ⟨_, (hp H h).1, rfl⟩) ?_
    refine x_alen (j := 0) (n := 54) (f := β 5) (v := 54) B dX1_find_9 rfl rfl (fun H h => (hp H h).2.1) ?_
    refine x_icmp_ge (tgt := 27) B dX1_find_10 (by decide) (by omega) (by omega) (fun c10 => ?_) (fun c10 => ?_)
    · refine x_iconst B dX1_find_27 ?_
      exact x_retI B R dX1_find_28 (by rw [if_neg (by omega)]) (by rw [if_neg (by omega)]; decide) (fun H h => by exact h)
    · refine x_iload_n B dX1_find_13 rfl ?_
      refine x_if_lt (tgt := 27) B dX1_find_14 (by decide) (by omega) (fun c14 => ?_) (fun c14 => ?_)
      · refine x_iconst B dX1_find_27 ?_
        exact x_retI B R dX1_find_28 (by rw [if_neg (by omega)]) (by rw [if_neg (by omega)]; decide) (fun H h => by exact h)
      · refine x_iload_n B dX1_find_17 rfl ?_
        refine x_aload_n B dX1_find_18 rfl ?_
        refine x_get B fgX1_9 dX1_find_19 (fun H h => ⟨_, (hp H h).1, rfl⟩) ?_
        refine x_iload_n B dX1_find_22 rfl ?_
        refine x_ialdR B dX1_find_23 (by omega) (by decide) (fun H h => ⟨(hp H h).2.1, (hp H h).2.2.2.2 5⟩) (fun r23 => ?_)
        refine x_icmp_lt (tgt := 29) B dX1_find_24 (by decide) (by omega) (by omega) (fun c24 => ?_) (fun c24 => ?_)
        · refine x_aload_n B dX1_find_29 rfl ?_
          refine x_get B fgX1_17 dX1_find_30 (fun H h => ⟨_, (hp H h).1, rfl⟩) ?_
          refine x_iload_n B dX1_find_33 rfl ?_
          refine x_aaldA (j := 2) B dX1_find_34 rfl (by omega) (by decide) (fun H h => ⟨(hp H h).2.2.1, rfl⟩) ?_
          refine x_iload_n B dX1_find_35 rfl ?_
          refine x_bipush B dX1_find_36 (by decide) ?_
          refine x_imul B dX1_find_38 ?_
          refine x_iload_n B dX1_find_39 rfl ?_
          refine x_iadd B dX1_find_40 ?_
          refine x_ialdR B dX1_find_41 (by omega) (by decide) (fun H h => ⟨(hp H h).2.2.2.1 w.toNat (by omega), (hp H h).2.2.2.2 w.toNat⟩) (fun r41 => ?_)
          exact x_retI B R dX1_find_42 (by rw [if_pos (by omega)]; congr 1; omega) (by rw [if_pos (by omega), show 8 * g + k = g * 8 + k by omega]; omega) (fun H h => by exact h)
        · refine x_iconst B dX1_find_27 ?_
          exact x_retI B R dX1_find_28 (by rw [if_neg (by omega)]) (by rw [if_neg (by omega)]; decide) (fun H h => by exact h)
theorem JR.rg {G : xG} {j : Nat} {nx ln : Int} {j0 j1 j2 : Int → Int} {H : Heap} (h : JR G j nx ln j0 j1 j2 H) : (0 ≤ nx ∧ nx < 40) ∧ (0 ≤ ln ∧ ln ≤ 40) ∧ ∀ k, (-2147483648 ≤ j0 k ∧ j0 k < 2147483648) ∧ (-2147483648 ≤ j1 k ∧ j1 k < 2147483648) ∧ (-2147483648 ≤ j2 k ∧ j2 k < 2147483648) := h.2.2.2.2
theorem c_X2_add {G : xG} {l : Launch} {j : Nat} {nx ln : Int} {j0 j1 j2 : Int → Int} {t b w : Int} (ht : -2147483648 ≤ t ∧ t < 2147483648) (hb : -2147483648 ≤ b ∧ b < 2147483648) (hw : -2147483648 ≤ w ∧ w < 2147483648) : CT G l yX2_add cX2_add 4 none ({ frames := 0, cells := 0, slots := 0, locals := 0 } : Room) 0 0 [.ref j, vi t, vi b, vi w] (JR G j nx ln j0 j1 j2) (pV (JR G j ((nx + 1) % 40) (if ln < 40 then ln + 1 else ln) (up j0 nx t) (up j1 nx b) (up j2 nx w))) (fun q => j ≤ q ∧ q < j + 4) := by
  refine x_met1 (own := RX2) (nm := "add") (L := [(0, .ref j), (1, vi t), (2, vi b), (3, vi w)]) (by decide) rfl rfl (fun _ => rfl) (Nat.le_of_ble_eq_true rfl) rfl rfl ?_
  intro Γ B R
  refine x_fact (fun H h => JR.rg h) (fun hr => ?_)
  obtain ⟨hn, hl, hr⟩ := hr
  have hr0 := up_rg (z := nx) (fun k => (hr k).1) ht
  have hr1 := up_rg (z := nx) (fun k => (hr k).2.1) hb
  have hr2 := up_rg (z := nx) (fun k => (hr k).2.2) hw
  refine x_aload_n B dX2_add_0 rfl ?_
  refine x_get B fgX2_9 dX2_add_1 (fun H h => ⟨_, h.1, rfl⟩) ?_
  refine x_aload_n B dX2_add_4 rfl ?_
  refine x_getI B fgX2_21 dX2_add_5 (fun H h => ⟨_, h.1, rfl, by omega⟩) (fun r5 => ?_)
  refine x_iload_n B dX2_add_8 rfl ?_
  refine x_iast (P' := JR G j nx ln (up j0 nx t) j1 j2) B dX2_add_9 (by omega) (by decide) (by constructor <;> omega) (fun H h => ⟨h.2.1, fun H1 e _ hq => ⟨h.1.kept (hq _ (by omega)), e, h.2.2.1.kept (hq _ (by omega)), h.2.2.2.1.kept (hq _ (by omega)), hn, hl, fun k => ⟨hr0 k, (hr k).2⟩⟩⟩) ?_
  refine x_aload_n B dX2_add_10 rfl ?_
  refine x_get B fgX2_15 dX2_add_11 (fun H h => ⟨_, h.1, rfl⟩) ?_
  refine x_aload_n B dX2_add_14 rfl ?_
  refine x_getI B fgX2_21 dX2_add_15 (fun H h => ⟨_, h.1, rfl, by omega⟩) (fun r15 => ?_)
  refine x_iload_n B dX2_add_18 rfl ?_
  refine x_iast (P' := JR G j nx ln (up j0 nx t) (up j1 nx b) j2) B dX2_add_19 (by omega) (by decide) (by constructor <;> omega) (fun H h => ⟨h.2.2.1, fun H1 e _ hq => ⟨h.1.kept (hq _ (by omega)), h.2.1.kept (hq _ (by omega)), e, h.2.2.2.1.kept (hq _ (by omega)), hn, hl, fun k => ⟨hr0 k, hr1 k, (hr k).2.2⟩⟩⟩) ?_
  refine x_aload_n B dX2_add_20 rfl ?_
  refine x_get B fgX2_18 dX2_add_21 (fun H h => ⟨_, h.1, rfl⟩) ?_
  refine x_aload_n B dX2_add_24 rfl ?_
  refine x_getI B fgX2_21 dX2_add_25 (fun H h => ⟨_, h.1, rfl, by omega⟩) (fun r25 => ?_)
  refine x_iload_n B dX2_add_28 rfl ?_
  refine x_iast (P' := JR G j nx ln (up j0 nx t) (up j1 nx b) (up j2 nx w)) B dX2_add_29 (by omega) (by decide) (by constructor <;> omega) (fun H h => ⟨h.2.2.2.1, fun H1 e _ hq => ⟨h.1.kept (hq _ (by omega)), h.2.1.kept (hq _ (by omega)), h.2.2.1.kept (hq _ (by omega)), e, hn, hl, fun k => ⟨hr0 k, hr1 k, hr2 k⟩⟩⟩) ?_
  refine x_aload_n B dX2_add_30 rfl ?_
  refine x_aload_n B dX2_add_31 rfl ?_
  refine x_getI B fgX2_21 dX2_add_32 (fun H h => ⟨_, h.1, rfl, by omega⟩) (fun r32 => ?_)
  refine x_iconst B dX2_add_35 ?_
  refine x_iadd B dX2_add_36 ?_
  refine x_bipush B dX2_add_37 (by decide) ?_
  refine x_irem B dX2_add_39 (by omega) (by omega) ?_
  refine x_put B fpX2_21 dX2_add_40 rfl rfl (by constructor <;> omega) (fun H h => ⟨_, h.1, Nat.le_of_ble_eq_true rfl, fun H1 e _ hq => (⟨e, h.2.1.kept (hq _ (by omega)), h.2.2.1.kept (hq _ (by omega)), h.2.2.2.1.kept (hq _ (by omega)), by omega, hl, fun k => ⟨hr0 k, hr1 k, hr2 k⟩⟩ : JR G j ((nx + 1) % 40) ln (up j0 nx t) (up j1 nx b) (up j2 nx w) H1)⟩) ?_
  refine x_aload_n B dX2_add_43 rfl ?_
  refine x_getI B fgX2_25 dX2_add_44 (fun H h => ⟨_, h.1, rfl, by omega⟩) (fun r44 => ?_)
  refine x_bipush B dX2_add_47 (by decide) ?_
  refine x_icmp_ge (tgt := 62) B dX2_add_49 (by decide) (by omega) (by omega) (fun c49 => ?_) (fun c49 => ?_)
  · exact x_retV B R dX2_add_62 (fun H h => by first | (rw [if_pos (by omega)]; exact h) | (rw [if_neg (by omega)]; exact h))
  · refine x_aload_n B dX2_add_52 rfl ?_
    refine x_dup B dX2_add_53 rfl ?_
    refine x_getI B fgX2_25 dX2_add_54 (fun H h => ⟨_, h.1, rfl, by omega⟩) (fun r54 => ?_)
    refine x_iconst B dX2_add_57 ?_
    refine x_iadd B dX2_add_58 ?_
    refine x_put B fpX2_25 dX2_add_59 rfl rfl (by constructor <;> omega) (fun H h => ⟨_, h.1, Nat.le_of_ble_eq_true rfl, fun H1 e _ hq => (⟨e, h.2.1.kept (hq _ (by omega)), h.2.2.1.kept (hq _ (by omega)), h.2.2.2.1.kept (hq _ (by omega)), by omega, by omega, fun k => ⟨hr0 k, hr1 k, hr2 k⟩⟩ : JR G j ((nx + 1) % 40) (ln + 1) (up j0 nx t) (up j1 nx b) (up j2 nx w) H1)⟩) ?_
    exact x_retV B R dX2_add_62 (fun H h => by first | (rw [if_pos (by omega)]; exact h) | (rw [if_neg (by omega)]; exact h))

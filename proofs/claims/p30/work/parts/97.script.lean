/-! ===== the value that both objects begin with keeps the invariant; the world at the law's entry ===== -/
theorem n0_0 {j : Int} (h0 : j ≠ 0) (h1 : ¬ (53 ≤ j ∧ j < 56)) : n0 3 j = 0 := by
  unfold n0
  rw [if_neg h0, if_neg (by omega)]
theorem IL0 : IL (n0 3) (fun _ => z0) := by
  have e0 : n0 3 0 = 2 := rfl
  have e1 : n0 3 1 = 0 := rfl
  have e2 : n0 3 2 = 0 := rfl
  have e3 : n0 3 3 = 0 := rfl
  have e4 : n0 3 4 = 0 := rfl
  have ev : ∀ r, 0 ≤ r → r < 6 → n0 3 (56 + r) = 0 := fun r a b => n0_0 (by omega) (by omega)
  have z : ∀ j : Int, z0 j = 0 := fun _ => rfl
  refine ⟨Iv_iff.mpr ⟨⟨by omega, by omega, by omega, by omega, by omega, fun u a b => by omega, fun k a b => ?_, fun r a b => by rw [ev r a b]; omega, fun r v a b c d => by rw [ev r a b] at d; omega, fun b a c => by omega⟩, fun b a c => by omega, fun b a c => by omega⟩, by omega, ?_, ?_, fun i a b => ?_, fun i j r a b c => ?_⟩
  · have h : n0 3 (53 + k) = -1 := by
      unfold n0
      rw [if_neg (by omega), if_pos (by omega)]
    rw [h, e3]
    omega
  · unfold Ir
    dsimp only
    rw [z, z]
    omega
  · unfold okT
    dsimp only
    rw [z]
    exact ⟨by omega, fun k a b => by omega⟩
  · dsimp only at b
    rw [z] at b
    omega
  · dsimp only at c
    rw [z] at c
    omega
section LWORLD
variable {s : State} {args : Array Value}
theorem lk_kn (hts : ∀ w ∈ lw_tbl, w.before args s = true) {own : String} {idx ci : Nat} (lk : LkN own idx ci) : ∃ p : ClassId × (Nat → Nat), ∀ q : vw_C, vwCl[ci]? = some q → u_Kn s q.1 q.2.1 q.2.2 p.1 p.2 := by
  obtain ⟨C, T, N, tys, hc, hin, -, -, hi, -⟩ := lk
  have hx : ∀ w ∈ xw, w.before args s = true := fun w h => hts w (List.mem_filter.mp h).1
  obtain ⟨cC, iS, h⟩ := u_known (C := C) (T := T) (N := N) (n := N) hx hin (hx _ hi)
  refine ⟨(cC, iS), fun q hq => ?_⟩
  rw [hc] at hq
  cases hq
  exact h
theorem kn_all (hts : ∀ w ∈ lw_tbl, w.before args s = true) : ∀ ci : Nat, ∃ p : ClassId × (Nat → Nat), ∀ q : vw_C, vwCl[ci]? = some q → u_Kn s q.1 q.2.1 q.2.2 p.1 p.2
  | 0 => lk_kn hts cnX3_17
  | 1 => lk_kn hts cnX6_7
  | 2 => lk_kn hts cnX3_30
  | 3 => lk_kn hts cnX6_23
  | 4 => lk_kn hts cnX6_16
  | 5 => lk_kn hts cnX3_9
  | 6 => lk_kn hts cnL_10
  | _ + 7 => ⟨(0, fun _ => 0), fun q hq => by simp [vwCl] at hq⟩
theorem ar_prim {t : FieldType} (ht : ∀ C, t ≠ .object C) (h : (Cond.arrayClass t).before args s = true) : ∃ cA : ClassId, ArrOfT s cA t ∧ va_RA s cA t := by
  obtain ⟨c, k, comp, h1, h2, h3⟩ := Cond.arrayClass_spec h
  refine ⟨c, fun n z => ⟨(fun k h => by cases h), k, h2, comp, h3⟩, ?_⟩
  cases t with
  | object C => exact absurd rfl (ht C)
  | _ => exact h1
theorem ar_arr {t : FieldType} (h : (Cond.arrayOver (.array t)).before args s = true) : ∃ cA : ClassId, ArrOfT s cA (.array t) ∧ va_RA s cA (.array t) := by
  obtain ⟨comp, c, k, h1, h2, h3, h4, h5⟩ := arrayOverA_spec h
  exact ⟨c, fun n z => ⟨(fun k h => by cases h), k, h3, comp, h4⟩, h5⟩
theorem ar_obj {C : String} (h : (Cond.arrayOver (.object C)).before args s = true) : ∃ cA : ClassId, ArrOfT s cA (.object C) ∧ va_RA s cA (.object C) := by
  obtain ⟨comp, c, k, h1, h2, h3, h4, h5⟩ := Cond.arrayOver_spec h
  exact ⟨c, fun n z => ⟨(fun k h => by cases h), k, h3, comp, h4⟩, k, comp, h3, h4, h1, h5⟩
def tyL : List FieldType := [.int, .char, .array .int, .object "BatchExecutive$Unit", .object "BatchExecutive$Batch", .object "BatchExecutive$State"]
theorem ow_0 : Cond.arrayOver (.array .int) ∈ lw_tbl := List.mem_of_getElem? (i := 46) (by decide +kernel)
theorem ow_1 : Cond.arrayOver (.object "BatchExecutive$Unit") ∈ lw_tbl := List.mem_of_getElem? (i := 97) (by decide +kernel)
theorem ow_2 : Cond.arrayOver (.object "BatchExecutive$Batch") ∈ lw_tbl := List.mem_of_getElem? (i := 99) (by decide +kernel)
theorem ow_3 : Cond.arrayOver (.object "BatchExecutive$State") ∈ lw_tbl := List.mem_of_getElem? (i := 262) (by decide +kernel)
theorem ow_4 : Cond.arrayClass .int ∈ lw_tbl := List.mem_of_getElem? (i := 54) (by decide +kernel)
theorem ow_5 : Cond.arrayClass .char ∈ lw_tbl := List.mem_of_getElem? (i := 89) (by decide +kernel)
theorem on_0 : Cond.methodLinkNest RX6 9 yX1_init RX6 ∈ lw_tbl := List.mem_of_getElem? (i := 41) (by decide +kernel)
theorem on_1 : Cond.methodLinkNest RX6 18 yX4_init RX6 ∈ lw_tbl := List.mem_of_getElem? (i := 57) (by decide +kernel)
theorem on_2 : Cond.methodLinkNest RX3 32 yX2_init RX6 ∈ lw_tbl := List.mem_of_getElem? (i := 102) (by decide +kernel)
theorem on_3 : Cond.methodLinkNest RX3 48 yX5_init RX6 ∈ lw_tbl := List.mem_of_getElem? (i := 124) (by decide +kernel)
theorem on_4 : Cond.methodLinkNest RX3 49 yX0_init RX6 ∈ lw_tbl := List.mem_of_getElem? (i := 160) (by decide +kernel)
theorem on_5 : Cond.methodLinkNest RX4 69 yX6_oneIf RX6 ∈ lw_tbl := List.mem_of_getElem? (i := 484) (by decide +kernel)
theorem on_6 : Cond.methodLinkNest RX3 195 yX6_isPiece RX6 ∈ lw_tbl := List.mem_of_getElem? (i := 516) (by decide +kernel)
theorem ty_all (hts : ∀ w ∈ lw_tbl, w.before args s = true) : ∀ k : Nat, ∃ cA : ClassId, ∀ t : FieldType, tyL[k]? = some t → ArrOfT s cA t ∧ va_RA s cA t := by
  have w : ∀ {t : FieldType}, (∃ cA : ClassId, ArrOfT s cA t ∧ va_RA s cA t) → ∃ cA : ClassId, ∀ t' : FieldType, some t = some t' → ArrOfT s cA t' ∧ va_RA s cA t' := fun {t} h => by
    obtain ⟨cA, h⟩ := h
    exact ⟨cA, fun t' e => by cases e; exact h⟩
  intro k
  match k with
  | 0 => exact w (ar_prim (fun C h => by cases h) (hts _ ow_4))
  | 1 => exact w (ar_prim (fun C h => by cases h) (hts _ ow_5))
  | 2 => exact w (ar_arr (hts _ ow_0))
  | 3 => exact w (ar_obj (hts _ ow_1))
  | 4 => exact w (ar_obj (hts _ ow_2))
  | 5 => exact w (ar_obj (hts _ ow_3))
  | k + 6 => exact ⟨0, fun t h => by simp [tyL] at h⟩
theorem xN_of (hts : ∀ w ∈ lw_tbl, w.before args s = true) : xN s :=
  ⟨⟨va_Nw.of rfl (hts _ on_0), va_Nw.of rfl (hts _ on_1), va_Nw.of rfl (hts _ on_2), va_Nw.of rfl (hts _ on_3), va_Nw.of rfl (hts _ on_4), va_Nw.of rfl (hts _ on_5), va_Nw.of rfl (hts _ on_6)⟩, va_AO.of (hts _ ow_1), va_AO.of (hts _ ow_2), va_AO.of (hts _ ow_3), hts _ ow_0⟩
theorem xTys_k {G : xG} (k : Nat) (q : ClassId × FieldType) (h : (xTys G)[k]? = some q) : ∃ t, tyL[k]? = some t ∧ q = (G.2 k, t) := by
  match k, h with
  | 0, h => cases h; exact ⟨_, rfl, rfl⟩
  | 1, h => cases h; exact ⟨_, rfl, rfl⟩
  | 2, h => cases h; exact ⟨_, rfl, rfl⟩
  | 3, h => cases h; exact ⟨_, rfl, rfl⟩
  | 4, h => cases h; exact ⟨_, rfl, rfl⟩
  | 5, h => cases h; exact ⟨_, rfl, rfl⟩
  | k + 6, h => simp [xTys] at h
theorem xK_of (hts : ∀ w ∈ lw_tbl, w.before args s = true) : ∃ G : xG, xK G s := by
  obtain ⟨f, hf⟩ := Classical.axiomOfChoice (kn_all hts)
  obtain ⟨g, hg⟩ := Classical.axiomOfChoice (ty_all hts)
  refine ⟨((fun k => (f k).1, fun k => (f k).2), g), ⟨fun c q hq => hf c q hq, fun k q hq => ?_⟩, xN_of hts⟩
  obtain ⟨t, h1, h2⟩ := xTys_k k q hq
  rw [h2]
  exact hg k t h1
end LWORLD

theorem OK0 : OK (n0 3) (fun _ => z0) := by
  have e2 : n0 3 2 = 0 := rfl
  have e3 : n0 3 3 = 0 := rfl
  have e4 : n0 3 4 = 0 := rfl
  refine ⟨IL0, ?_, fun k k0 k1 => by omega, fun j k => by show -2147483648 ≤ (0 : Int) ∧ (0 : Int) < 2147483648; omega, rfl⟩
  unfold JQ
  rw [e2, e3]
  refine ⟨fun u u0 u1 => by omega, fun b b0 b1 => by omega, fun b b0 b1 => by omega, fun b b0 b1 => by omega, fun b b0 b1 => by omega, fun b b0 b1 => by omega, fun k k0 k1 q => ?_⟩
  exfalso
  apply q
  show n0 3 (53 + k) = -1
  unfold n0
  rw [if_neg (by omega), if_pos (by omega)]
def xz (xs : Nat → Int32) (z : Int) : Int := (xs z.toNat).toInt
theorem xz_rg {xs : Nat → Int32} {z : Int} : -2147483648 ≤ xz xs z ∧ xz xs z < 2147483648 := by
  have h1 := Int32.le_toInt (xs z.toNat)
  have h2 := Int32.toInt_lt (xs z.toNat)
  unfold xz
  omega
def XS (Γ : xE) (b N : Nat) (xs : Nat → Int32) : Prop :=
  match Γ with
  | (_, _, _, _, s, _, _, _, _, _, A, _) => va_X b N xs s s.heap ∧ b < s.heap.size ∧ ¬ A b
section LAWR
variable {Γ : xE} {G : xG} {cc : ByteArray} {own : String} {nL : Nat} {rm : Room} {A : Nat → Prop} {kc ks pc : Nat} {P : Heap → Prop} {L : List (Nat × Value)} {st st0 : List Value} {b N : Nat} {xs : Nat → Int32}
theorem x_slen (B : XB Γ G cc own nL rm A) (S : XS Γ b N xs) (d : decode cc pc = .ok (.arraylength, 1)) (k : XJ Γ kc ks P (pc + 1) L (vi (N : Int) :: st)) : XJ Γ kc ks P pc L (.ref b :: st) := by
  obtain ⟨p, l, e, R, s, m, args, below, meth, c, A', Q⟩ := Γ
  obtain ⟨hx, hb, hml, -⟩ := B
  obtain ⟨h1, h2, h3⟩ := S
  intro H locs ls hP hS hL
  refine va_slen hx hb h1 h2 h3 hS d ?_
  rw [← Int32.ofInt_eq_ofNat]
  exact k H locs ls hP hS hL
theorem x_sld (B : XB Γ G cc own nL rm A) (S : XS Γ b N xs) {z : Int} (hz : 0 ≤ z ∧ z < N) (hN : N ≤ 2560) (d : decode cc pc = .ok (.iaload, 1)) (k : XJ Γ kc ks P (pc + 1) L (vi (xz xs z) :: st)) : XJ Γ kc ks P pc L (vi z :: .ref b :: st) := by
  obtain ⟨p, l, e, R, s, m, args, below, meth, c, A', Q⟩ := Γ
  obtain ⟨hx, hb, hml, -⟩ := B
  obtain ⟨h1, h2, h3⟩ := S
  intro H locs ls hP hS hL
  have e1 : Int32.ofInt z = nI z.toNat := by
    have e2 : z = ((z.toNat : Nat) : Int) := by omega
    rw [e2, Int32.ofInt_eq_ofNat]
    rfl
  refine va_sld hx hb h1 h2 h3 hS (i := Int32.ofInt z) ?_ d ?_
  · rw [e1]
    exact vp_in_nI (by omega) (by omega)
  · rw [e1, nI_clamp (by omega)]
    have e3 : Value.int (xs z.toNat) = vi (xz xs z) := by
      unfold vi xz
      rw [Int32.ofInt_toInt]
    rw [e3]
    exact k H locs ls hP hS hL
end LAWR
/-- the law's own numbers: a contract that reads the script -/
theorem x_blindX {G : xG} {av : List Value} {P : Heap → Prop} {b N : Nat} {xs : Nat → Int32} : FrameBlind (va_Pc av (fun U => P U.heap ∧ xK G U ∧ va_X b N xs U U.heap ∧ b < U.heap.size)) := fun _ U _ _ h => ⟨h.1, h.2.1, h.2.2.1.same rfl, h.2.2.2.1.moved (Vm.Alike.refl _), h.2.2.2.2⟩
theorem c_L_lot {G : xG} {l : Launch} {b N : Nat} {xs : Nat → Int32} {k : Int} (hk : 0 ≤ k ∧ k < 1000) (hN : N ≤ 260) : Met l yL_lot (Cond.code yL_lot cL_lot 2 (some .int) :: xw) ({ frames := 0, cells := 0, slots := 0, locals := 0 } : Room) (va_Pc [.ref b, vi k] (fun U => True ∧ xK G U ∧ va_X b N xs U U.heap ∧ b < U.heap.size)) (xQ (fun v _ => ∃ w : Int, (-2147483648 ≤ w ∧ w < 2147483648) ∧ v = some (vi w)) (fun _ => False)) 0 0 (fun _ => False) := by
  refine Met.ofW (cc := cL_lot) (maxL := 2) (ret := some .int) (by decide) rfl ?_
  intro p e s m args below meth c s₁ B0 hml hv
  obtain ⟨rfl, -, hK, hX, hbl⟩ := hv
  have hts := atoms_spec (ws := Cond.code yL_lot cL_lot 2 (some .int) :: xw) B0.pre
  have hown : s.vm.findClass RL = some m.cls := findClass_of_methodNamed B0.named
  have hnm : meth.name = "lot" := (name_of_methodNamed B0.named B0.method).1
  have hl := lv_entry [.ref b, vi k] (n := 2) (Nat.le_of_ble_eq_true rfl)
  rw [lg_entry_eq]
  generalize hΓ : ((p, l, e, (headSpec (Cond.code yL_lot cL_lot 2 (some .int) :: xw) ({ frames := 0, cells := 0, slots := 0, locals := 0 } : Room)).room, s, m, [Value.ref b, vi k].toArray, below, meth, c, (fun _ => False), MQ below (xQ (fun v _ => ∃ w : Int, (-2147483648 ≤ w ∧ w < 2147483648) ∧ v = some (vi w)) (fun _ => False)) [Value.ref b, vi k].toArray s 0 0 (fun _ => False)) : xE) = Γ
  have B : XB Γ G cL_lot RL 2 ({ frames := 0, cells := 0, slots := 0, locals := 0 } : Room) (fun _ => False) := by
    rw [← hΓ]
    exact ⟨B0.exec, B0.bytes, hml, hown, fun w hw => hts w (List.mem_cons_of_mem _ hw), hK, rfl, rfl⟩
  have R : XR Γ "lot" (some .int) 0 0 (xQ (fun v _ => ∃ w : Int, (-2147483648 ≤ w ∧ w < 2147483648) ∧ v = some (vi w)) (fun _ => False)) := by
    rw [← hΓ]
    exact ⟨B0.returns, B0.notSynchronized, hnm, rfl⟩
  have S : XS Γ b N xs := by
    rw [← hΓ]
    exact ⟨hX, hbl, fun h => h⟩
  have key : XJ Γ 0 0 (fun _ => True) 0 [(0, .ref b), (1, vi k)] [] := by
    refine x_iload_n B dL_lot_0 rfl ?_
    refine x_aload_n B dL_lot_1 rfl ?_
    refine x_slen B S dL_lot_2 ?_
    refine x_icmp_ge (tgt := 12) B dL_lot_3 (by decide) (by omega) (by omega) (fun c3 => ?_) (fun c3 => ?_)
    · refine x_ldc (n := 2077347255) B dL_lot_12 ckL_7 rfl ?_
      refine x_iload_n B dL_lot_14 rfl ?_
      refine x_sipush B dL_lot_15 (by decide) ?_
      refine x_iadd B dL_lot_18 ?_
      refine x_imul B dL_lot_19 ?_
      refine x_sipush B dL_lot_20 (by decide) ?_
      refine x_iadd B dL_lot_23 ?_
      exact x_iret B R dL_lot_24 (fun H _ => ⟨_, i32_rg _, congrArg (fun z => some (Value.int z)) (Int32.ofInt_toInt _).symm⟩)
    · refine x_aload_n B dL_lot_6 rfl ?_
      refine x_iload_n B dL_lot_7 rfl ?_
      refine x_sld B S (by omega) (by omega) dL_lot_8 ?_
      refine x_goto (tgt := 24) B dL_lot_9 (by decide) ?_
      exact x_iret B R dL_lot_24 (fun H _ => ⟨_, i32_rg _, congrArg (fun z => some (Value.int z)) (Int32.ofInt_toInt _).symm⟩)
  rw [← hΓ] at key
  refine key s.heap [] _ trivial va_S.rf ?_
  rw [hml]
  exact ⟨hl, fun q hq => by
    rcases List.mem_cons.mp hq with h | h
    · rw [h]; rfl
    · rcases List.mem_cons.mp h with h | h
      · rw [h]; rfl
      · cases h⟩
section XLOT
variable {Γ : xE} {G : xG} {cc : ByteArray} {own : String} {nL : Nat} {rm : Room} {A : Nat → Prop} {kc ks pc : Nat} {P : Heap → Prop} {L : List (Nat × Value)} {st : List Value} {b N : Nat} {xs : Nat → Int32} {idx : Nat}
theorem x_lot (B : XB Γ G cc own nL rm A) (S : XS Γ b N xs) (hN : N ≤ 260) {k : Int} (hk : 0 ≤ k ∧ k < 1000) (lk : LkS own idx yL_lot cL_lot 2 (some .int) 2) (d : decode cc pc = .ok (.invokestatic idx, 3)) (hR : (({ frames := 0, cells := 0, slots := 0, locals := 0 } : Room)).frames + 1 ≤ rm.frames ∧ 8 + (2 + 11) + (({ frames := 0, cells := 0, slots := 0, locals := 0 } : Room)).locals ≤ rm.locals) (hf : kc ≤ rm.cells ∧ ks ≤ rm.slots) (hw : (st.map fun v => v.category).sum ≤ 8) (hP : ∀ H H1, P H → H.size ≤ H1.size → (∀ q : Nat, q < H.size → H1[q]? = H[q]?) → P H1)
    (kk : ∀ w : Int, (-2147483648 ≤ w ∧ w < 2147483648) → XJ Γ kc ks P (pc + 3) L (vi w :: st)) : XJ Γ kc ks P pc L (vi k :: .ref b :: st) := by
  obtain ⟨p, l, e, R, s, m, args, below, meth, c, A', Q⟩ := Γ
  obtain ⟨hx, hb0, hml, ho, hts, hK, hRR, hA⟩ := B
  obtain ⟨w1, w2, w4, w5, w6⟩ := lk
  obtain ⟨hX, hbl, hbA⟩ := S
  subst hA
  subst hRR
  intro H locs ls hPH hS hL
  have hG : GoodIn xw (Cond.code yL_lot cL_lot 2 (some .int) :: xw) := xw_self (fun w h => by
    rcases List.mem_cons.mp h with h | h
    · rw [h]; exact w5
    · exact h)
  refine xj_after (va_runS (As := [.ref b, vi k]) (rest := st) ⟨hx, hb0, hml, ho, hts⟩ (c_L_lot (G := G) (xs := xs) hk hN) ⟨callB_of 2 hts hG rfl rfl rfl (hts _ w4) (hts _ w1) w6 hR, hts _ w2⟩ ⟨x_blindX (P := fun _ => True), fun U hU hW => ⟨rfl, trivial, hK.warm hW, (hX.kept (by rw [hU]; exact hS.2.1 b hbl hbA)).moved hW.alike, by rw [hU]; exact Nat.lt_of_lt_of_le hbl hS.1⟩⟩ rfl rfl (hL.1.1.trans hml) rfl (lv_room hw) d hf) hS (fun _ h => h.elim) (fun v' H1 locs1 h1 h2 h3 h4 => ?_)
  obtain ⟨w, hw1, rfl⟩ := h1
  exact kk w hw1 H1 locs1 ls (hP H H1 hPH h2 (fun q hq => h3 q hq (fun h => h))) h4 hL
end XLOT
theorem PE.mono {G : xG} {e : Nat} {m : Int → Int} {ρ : Nat → Int → Int} : ∀ H H1, PE G e m ρ H → H.size ≤ H1.size → (∀ q : Nat, q < H.size → H1[q]? = H[q]?) → PE G e m ρ H1 := fun H H1 h _ hq => h.kept (fun q _ b => hq q (by have := h.size; omega))
section QUZ
variable {G : xG} {e : Nat} {m : Int → Int} {ρ : Nat → Int → Int}
theorem q_undo0 (h : OK m ρ) (h0 : ρ 5 0 = 0) : QD G e m ρ yX6_undo cX6_undo 1 ({ frames := 3, cells := 0, slots := 0, locals := 75 } : Room) [] (-2) m ρ := by
  refine QD.of (fun l => c_X6_undo h.I h.R) ?_
  unfold o_undo
  rw [if_pos h0]
theorem q_fault00 (h : IL m ρ) (ha : (t_all (ρ 2) (ρ 5 1)).1 = 3 ∧ (t_all (ρ 2) (ρ 5 1)).2.1 = 0) : QD G e m ρ yX6_fault cX6_fault 2 ({ frames := 6, cells := 0, slots := 0, locals := 130 } : Room) [vi 0] 0 m ρ := by
  refine QD.of (fun l => c_X6_fault h (by omega)) ?_
  unfold o_fault
  rw [if_neg (by omega), if_neg (by omega), if_pos rfl, ha.2]
theorem q_fault01 (h : IL m ρ) (ha : (t_all (ρ 2) (ρ 5 1)).1 = 3 ∧ (t_all (ρ 2) (ρ 5 1)).2.1 = 0) : QD G e m ρ yX6_fault cX6_fault 2 ({ frames := 6, cells := 0, slots := 0, locals := 130 } : Room) [vi 1] 3 m ρ := by
  refine QD.of (fun l => c_X6_fault h (by omega)) ?_
  unfold o_fault
  rw [if_neg (by omega), if_neg (by omega), if_neg (by omega), ha.1]
end QUZ
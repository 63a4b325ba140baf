/-! ===== rows of floats and natives ===== -/
section XR8
variable {Γ : xE} {G : xG} {cc : ByteArray} {own : String} {nL : Nat} {rm : Room} {A : Nat → Prop} {kc ks pc : Nat} {P : Heap → Prop} {L : List (Nat × Value)} {st : List Value}
theorem x_fconst1 (B : XB Γ G cc own nL rm A) (d : decode cc pc = .ok (.fconst 1, 1)) (k : XJ Γ kc ks P (pc + 1) L (.float FP.fconst1 :: st)) : XJ Γ kc ks P pc L st := by
  obtain ⟨p, l, e, R, s, m, args, below, meth, c, A', Q⟩ := Γ
  obtain ⟨hx, hb, hml, -⟩ := B
  intro H locs ls hP hS hL
  exact lv_fconst1 hx hb d (k H locs ls hP hS hL)
theorem x_fconst2 (B : XB Γ G cc own nL rm A) (d : decode cc pc = .ok (.fconst 2, 1)) (k : XJ Γ kc ks P (pc + 1) L (.float FP.fconst2 :: st)) : XJ Γ kc ks P pc L st := by
  obtain ⟨p, l, e, R, s, m, args, below, meth, c, A', Q⟩ := Γ
  obtain ⟨hx, hb, hml, -⟩ := B
  intro H locs ls hP hS hL
  exact lv_fconst2 hx hb d (k H locs ls hP hS hL)
theorem x_fmul (B : XB Γ G cc own nL rm A) {x y : UInt32} (d : decode cc pc = .ok (.fmul, 1)) (hn : vf_n32 (FP.fmul x y)) (k : XJ Γ kc ks P (pc + 1) L (.float (FP.fmul x y) :: st)) : XJ Γ kc ks P pc L (.float y :: .float x :: st) := by
  obtain ⟨p, l, e, R, s, m, args, below, meth, c, A', Q⟩ := Γ
  obtain ⟨hx, hb, hml, -⟩ := B
  intro H locs ls hP hS hL
  exact lv_fmul hx hb d hn (k H locs ls hP hS hL)
theorem x_fdiv (B : XB Γ G cc own nL rm A) {x y : UInt32} (d : decode cc pc = .ok (.fdiv, 1)) (hn : vf_n32 (FP.fdiv x y)) (k : XJ Γ kc ks P (pc + 1) L (.float (FP.fdiv x y) :: st)) : XJ Γ kc ks P pc L (.float y :: .float x :: st) := by
  obtain ⟨p, l, e, R, s, m, args, below, meth, c, A', Q⟩ := Γ
  obtain ⟨hx, hb, hml, -⟩ := B
  intro H locs ls hP hS hL
  exact lv_fdiv hx hb d hn (k H locs ls hP hS hL)
theorem x_fsub (B : XB Γ G cc own nL rm A) {x y : UInt32} (d : decode cc pc = .ok (.fsub, 1)) (hn : vf_n32 (FP.fsub x y)) (k : XJ Γ kc ks P (pc + 1) L (.float (FP.fsub x y) :: st)) : XJ Γ kc ks P pc L (.float y :: .float x :: st) := by
  obtain ⟨p, l, e, R, s, m, args, below, meth, c, A', Q⟩ := Γ
  obtain ⟨hx, hb, hml, -⟩ := B
  intro H locs ls hP hS hL
  exact lv_fsub hx hb d hn (k H locs ls hP hS hL)
theorem x_i2f (B : XB Γ G cc own nL rm A) {x : Int} (d : decode cc pc = .ok (.i2f, 1)) (k : XJ Γ kc ks P (pc + 1) L (.float (FP.i2f (Int32.ofInt x)) :: st)) : XJ Γ kc ks P pc L (vi x :: st) := by
  obtain ⟨p, l, e, R, s, m, args, below, meth, c, A', Q⟩ := Γ
  obtain ⟨hx, hb, hml, -⟩ := B
  intro H locs ls hP hS hL
  exact lv_i2f hx hb d (k H locs ls hP hS hL)
theorem x_f2i (B : XB Γ G cc own nL rm A) {x : UInt32} {z : Int} (d : decode cc pc = .ok (.f2i, 1)) (hz : FP.f2i x = Int32.ofInt z) (k : XJ Γ kc ks P (pc + 1) L (vi z :: st)) : XJ Γ kc ks P pc L (.float x :: st) := by
  obtain ⟨p, l, e, R, s, m, args, below, meth, c, A', Q⟩ := Γ
  obtain ⟨hx, hb, hml, -⟩ := B
  intro H locs ls hP hS hL
  refine lv_f2i hx hb d ?_
  rw [hz]
  exact k H locs ls hP hS hL
theorem x_fcmp (B : XB Γ G cc own nL rm A) {x y : UInt32} {op : CmpOp} {z : Int} (d : decode cc pc = .ok (.fcmp op, 1)) (hz : Op.cmpValue (FP.fcmp x y) op = Int32.ofInt z) (k : XJ Γ kc ks P (pc + 1) L (vi z :: st)) : XJ Γ kc ks P pc L (.float y :: .float x :: st) := by
  obtain ⟨p, l, e, R, s, m, args, below, meth, c, A', Q⟩ := Γ
  obtain ⟨hx, hb, hml, -⟩ := B
  intro H locs ls hP hS hL
  refine lv_fcmp hx hb d ?_
  rw [hz]
  exact k H locs ls hP hS hL
theorem x_ldcf (B : XB Γ G cc own nL rm A) {index : Nat} {v : UInt32} (d : decode cc pc = .ok (.ldc index, 2)) (hw : Cond.constantFloat own index v ∈ xw) (k : XJ Γ kc ks P (pc + 2) L (.float v :: st)) : XJ Γ kc ks P pc L st := by
  obtain ⟨p, l, e, R, s, m, args, below, meth, c, A', Q⟩ := Γ
  obtain ⟨hx, hb, hml, ho, hts, -⟩ := B
  intro H locs ls hP hS hL
  exact lv_ldcf hx hb ho (hts _ hw) d (k H locs ls hP hS hL)
theorem x_ldcwf (B : XB Γ G cc own nL rm A) {index : Nat} {v : UInt32} (d : decode cc pc = .ok (.ldc_w index, 3)) (hw : Cond.constantFloat own index v ∈ xw) (k : XJ Γ kc ks P (pc + 3) L (.float v :: st)) : XJ Γ kc ks P pc L st := by
  obtain ⟨p, l, e, R, s, m, args, below, meth, c, A', Q⟩ := Γ
  obtain ⟨hexec, hb, hml, hown, hts, -⟩ := B
  intro H locs ls hP hS hL
  intro T hT X
  obtain ⟨t, a, b⟩ := k H locs ls hP hS hL T hT X
  refine ⟨t, ?_, b⟩
  obtain ⟨k0, cf, hk, hcf, hcp⟩ := Cond.constantFloat_spec hown (hts _ hw)
  obtain ⟨k', hk', he⟩ := X.warmed.alike.2.2 _ _ hk
  jvm_step X.here [hexec, hb, d, ldc_w.wp_float (s := T) (f := F0 m pc ls st) X.here.top hk' (by rw [he]; exact hcf) hcp]
  exact a
theorem x_fret (B : XB Γ G cc own nL rm A) {nm : String} {post : Option Value → Heap → Prop} (R : XR Γ nm (some .float) kc ks (xQ post A)) {z : UInt32} (d : decode cc pc = .ok (.freturn, 1)) (hq : ∀ H, P H → post (some (.float z)) H) : XJ Γ kc ks P pc L [.float z] := by
  obtain ⟨p, l, e, R', s, m, args, below, meth, c, A', Q⟩ := Γ
  obtain ⟨hx, hb, hml, ho, hts, ⟨hK, hN⟩, hR, hAA⟩ := B
  obtain ⟨hr, hlk, hnm, hQ⟩ := R
  subst hAA
  subst hQ
  intro H locs ls hP hS hL
  exact W.fret hx hb hr (fun t ht _ => ⟨_, rfl, by rw [ht]; exact hq H hP, hS.F ht⟩) hS.2.2 d hlk
end XR8
theorem f_sn {z : Int} (h : 0 ≤ z ∧ z < 2139095040) : vn_sni2f (Int32.ofInt z) = false := by
  have h1 := fB_nat (z := z) (by omega)
  unfold vn_sni2f
  rw [Bool.and_eq_false_iff]
  left
  rw [decide_eq_false_iff_not]
  intro h2
  have h3 : (0x7f800000 : UInt32) < fB z &&& 0x7fffffff := h2
  rw [UInt32.lt_iff_toNat_lt, FP.Core.mask_toNat32, Nat.mod_eq_of_lt (by omega)] at h3
  have h4 : (0x7f800000 : UInt32).toNat = 2139095040 := rfl
  omega
theorem f_num {x : UInt32} (h : x.toNat < 2139095040) : FP.Core.val32 x ≠ .nan := by
  rw [FP.Core.ne_nan32, Nat.mod_eq_of_lt (by omega)]
  omega
theorem f_key {x : UInt32} (h : x.toNat < 2139095040) : FP.Core.fkey x = (x.toNat : Int) := by
  unfold FP.Core.fkey
  rw [if_neg (by omega)]
theorem f_cmp {x y : UInt32} (op : CmpOp) (hx : x.toNat < 2139095040) (hy : y.toNat < 2139095040) : Op.cmpValue (FP.fcmp x y) op = Int32.ofInt (if x.toNat < y.toNat then -1 else if x.toNat = y.toNat then 0 else 1) := by
  rw [show FP.fcmp x y = FP.Core.fcmp x y from rfl, FP.Core.fcmp_key (f_num hx) (f_num hy), f_key hx, f_key hy]
  by_cases h1 : x.toNat < y.toNat
  · rw [if_pos h1, show compare (x.toNat : Int) (y.toNat : Int) = .lt by rw [Int.compare_eq_lt]; omega]
    rfl
  · rw [if_neg h1]
    by_cases h2 : x.toNat = y.toNat
    · rw [if_pos h2, show compare (x.toNat : Int) (y.toNat : Int) = .eq by rw [Int.compare_eq_eq]; omega]
      rfl
    · rw [if_neg h2, show compare (x.toNat : Int) (y.toNat : Int) = .gt by rw [Int.compare_eq_gt]; omega]
      rfl
theorem f_ofNat {n : Nat} (h : n < 4294967296) : (UInt32.ofNat n).toNat = n := UInt32.toNat_ofNat_of_lt' h
theorem f_half {x : UInt32} (h : 16777216 ≤ x.toNat ∧ x.toNat < 2139095040) : (FP.fdiv x FP.fconst2).toNat = x.toNat - 8388608 := by
  have h0 := f_ofNat (n := x.toNat - 8388608) (by omega)
  have hxv := f_val (x := x) (by omega)
  have hwv := f_val (x := UInt32.ofNat (x.toNat - 8388608)) (by omega)
  rw [h0, show (x.toNat - 8388608) % 8388608 = x.toNat % 8388608 by omega, show (((x.toNat - 8388608) / 8388608 : Nat) - 150 : Int) = (x.toNat / 8388608 : Nat) - 150 - 1 by omega] at hwv
  have h2 : FP.Core.val32 FP.fconst2 = .fin false 8388608 (-22) := by decide +kernel
  have hf := FP.Core.val32_fits (UInt32.ofNat (x.toNat - 8388608))
  rw [hwv] at hf
  have hv : FP.Core.val32 (FP.fdiv x FP.fconst2) = .fin false (8388608 + x.toNat % 8388608) ((x.toNat / 8388608 : Nat) - 150 - 1 : Int) := by
    rw [FP.Core.val32_fdiv, hxv, h2]
    show FP.Core.roundRatio _ _ _ _ _ = _
    refine FP.Core.roundRatio_exact FP.Core.good_b32 (by decide) hf ?_
    rw [show ((x.toNat / 8388608 : Nat) - 150 - (-22) - ((x.toNat / 8388608 : Nat) - 150 - 1) : Int).toNat = 23 by omega, show ((x.toNat / 8388608 : Nat) - 150 - 1 - ((x.toNat / 8388608 : Nat) - 150 - (-22)) : Int).toNat = 0 by omega]
    omega
  rw [FP.Core.val32_inj (by rw [hv]; exact FP.Core.Datum.noConfusion) (hv.trans hwv.symm), h0]
theorem f_dbl {x : UInt32} (h : 8388608 ≤ x.toNat ∧ x.toNat < 2130706432) : (FP.fmul x FP.fconst2).toNat = x.toNat + 8388608 := by
  have h0 := f_ofNat (n := x.toNat + 8388608) (by omega)
  have hxv := f_val (x := x) (by omega)
  have hwv := f_val (x := UInt32.ofNat (x.toNat + 8388608)) (by omega)
  rw [h0, show (x.toNat + 8388608) % 8388608 = x.toNat % 8388608 by omega, show (((x.toNat + 8388608) / 8388608 : Nat) - 150 : Int) = (x.toNat / 8388608 : Nat) - 150 + 1 by omega] at hwv
  have h2 : FP.Core.val32 FP.fconst2 = .fin false 8388608 (-22) := by decide +kernel
  have hf := FP.Core.val32_fits (UInt32.ofNat (x.toNat + 8388608))
  rw [hwv] at hf
  have hv : FP.Core.val32 (FP.fmul x FP.fconst2) = .fin false (8388608 + x.toNat % 8388608) ((x.toNat / 8388608 : Nat) - 150 + 1 : Int) := by
    rw [FP.Core.val32_fmul, hxv, h2]
    show FP.Core.roundRatio _ _ _ _ _ = _
    refine FP.Core.roundRatio_exact FP.Core.good_b32 (by decide) hf ?_
    rw [show ((x.toNat / 8388608 : Nat) - 150 + (-22) - ((x.toNat / 8388608 : Nat) - 150 + 1) : Int).toNat = 0 by omega, show ((x.toNat / 8388608 : Nat) - 150 + 1 - ((x.toNat / 8388608 : Nat) - 150 + (-22)) : Int).toNat = 23 by omega]
    omega
  rw [FP.Core.val32_inj (by rw [hv]; exact FP.Core.Datum.noConfusion) (hv.trans hwv.symm), h0]
/-- what is behind the point of a number from 1 to below 2 -/
theorem f_frac {x : UInt32} (h : 1065353216 ≤ x.toNat ∧ x.toNat < 1073741824) : FP.f2i (FP.fmul (FP.fsub x FP.fconst1) 1258291200) = Int32.ofInt ((x.toNat : Int) - 1065353216) ∧ vf_n32 (FP.fsub x FP.fconst1) ∧ vf_n32 (FP.fmul (FP.fsub x FP.fconst1) 1258291200) := by
  have hp : FP.Core.b32.p = 24 := rfl
  have hq : FP.Core.b32.qmin = -149 := by decide
  have hqm : FP.Core.b32.qmax = 104 := by decide
  have hT : FP.Core.b32.tails = 8388608 := by decide
  have hxv := f_val (x := x) (by omega)
  have h1 : FP.Core.val32 FP.fconst1 = .fin false 8388608 (-23) := by decide +kernel
  have h8 : FP.Core.val32 1258291200 = .fin false 8388608 0 := by decide +kernel
  generalize ht : x.toNat - 1065353216 = t
  have htl : t < 8388608 := by omega
  rw [show x.toNat % 8388608 = t by omega, show (x.toNat / 8388608 : Nat) = 127 by omega] at hxv
  have hs : FP.Core.val32 (FP.fsub x FP.fconst1) = FP.Core.roundRatio FP.Core.b32 false t 1 (-23) := by
    rw [FP.Core.val32_fsub, hxv, h1]
    show FP.Core.round _ (.fin (FP.Core.sumSign false true (FP.Core.sumUnits false (8388608 + t) (((127 : Nat) - 150 : Int)) true 8388608 (-23) (min ((127 : Nat) - 150 : Int) (-23)))) (FP.Core.sumUnits false (8388608 + t) (((127 : Nat) - 150 : Int)) true 8388608 (-23) (min ((127 : Nat) - 150 : Int) (-23))).natAbs (min ((127 : Nat) - 150 : Int) (-23))) = _
    have e1 : (((127 : Nat) - 150 : Int)) = -23 := by decide
    have e2 : min (-23 : Int) (-23) = -23 := by decide
    have e3 : FP.Core.sumUnits false (8388608 + t) (-23) true 8388608 (-23) (-23) = (t : Int) := by
      unfold FP.Core.sumUnits FP.Core.inUnits FP.Core.signed
      simp only [Int.sub_self, Int.toNat_zero, Nat.pow_zero, Nat.mul_one, Bool.false_eq_true, if_false, if_true]
      omega
    rw [e1, e2, e3]
    have e4 : FP.Core.sumSign false true (t : Int) = false := by
      unfold FP.Core.sumSign
      split
      · rfl
      · rw [decide_eq_false_iff_not]; omega
    rw [e4, Int.natAbs_natCast]
    rfl
  have hn1 : vf_n32 (FP.fsub x FP.fconst1) := by
    have h2 := FP.Core.fsub_mag (a := x) (b := FP.fconst1) (K := 128) (by rw [Nat.mod_eq_of_lt (by omega)]; omega) (by decide) (by decide)
    unfold vf_n32
    rw [UInt32.le_iff_toNat_le, FP.Core.mask_toNat32]
    have h4 : (0x7f800000 : UInt32).toNat = 2139095040 := rfl
    have h5 : FP.Core.fsub x FP.fconst1 = FP.fsub x FP.fconst1 := rfl
    rw [h5] at h2
    omega
  have hn2 : vf_n32 (FP.fmul (FP.fsub x FP.fconst1) 1258291200) := by
    have h2 := FP.Core.fsub_mag (a := x) (b := FP.fconst1) (K := 128) (by rw [Nat.mod_eq_of_lt (by omega)]; omega) (by decide) (by decide)
    have h3 := FP.Core.fmul_mag (a := FP.fsub x FP.fconst1) (b := 1258291200) (Ka := 130) (Kb := 151) h2 (by decide) (by decide) (by decide)
    unfold vf_n32
    rw [UInt32.le_iff_toNat_le, FP.Core.mask_toNat32]
    have h4 : (0x7f800000 : UInt32).toNat = 2139095040 := rfl
    have h5 : FP.Core.fmul (FP.fsub x FP.fconst1) 1258291200 = FP.fmul (FP.fsub x FP.fconst1) 1258291200 := rfl
    rw [h5] at h3
    omega
  refine ⟨?_, hn1, hn2⟩
  have e : (Int32.ofInt ((x.toNat : Int) - 1065353216)).toInt = (t : Int) := by
    rw [Int32.toInt_ofInt_of_le (by omega) (by omega)]
    omega
  refine FP.Core.f2i_int ?_
  rw [e]
  show FP.Core.Whole (t : Int) (FP.Core.val32 (FP.fmul (FP.fsub x FP.fconst1) 1258291200))
  rw [FP.Core.val32_fmul, hs, h8]
  by_cases h0 : t = 0
  · subst h0
    rw [show FP.Core.round FP.Core.b32 (FP.Core.exactProduct (FP.Core.roundRatio FP.Core.b32 false 0 1 (-23)) (FP.Core.Datum.fin false 8388608 0)) = .fin false 0 (-149) by decide +kernel]
    show FP.Core.signed false (0 * 2 ^ (-149 : Int).toNat) = ((0 : Nat) : Int) * ((2 ^ (-(-149 : Int)).toNat : Nat) : Int)
    rw [Nat.zero_mul, Int.natCast_zero, Int.zero_mul]
    rfl
  · generalize hk : t.log2 = k
    have k1 : 2 ^ k ≤ t := by rw [← hk]; exact Nat.log2_self_le h0
    have k2 : t < 2 ^ (k + 1) := by rw [← hk]; exact Nat.lt_log2_self
    have k3 : k < 23 := by
      refine Nat.lt_of_not_le fun h => ?_
      have : 2 ^ 23 ≤ 2 ^ k := Nat.pow_le_pow_right (by decide) h
      omega
    have p1 : 2 ^ k * 2 ^ (23 - k) = 8388608 := by rw [← Nat.pow_add, show k + (23 - k) = 23 by omega]
    have p2 : 2 ^ (k + 1) * 2 ^ (23 - k) = 16777216 := by rw [← Nat.pow_add, show k + 1 + (23 - k) = 24 by omega]
    have p3 : 2 ^ k * 2 ^ (23 - k) ≤ t * 2 ^ (23 - k) := Nat.mul_le_mul_right _ k1
    have p4 : t * 2 ^ (23 - k) < 2 ^ (k + 1) * 2 ^ (23 - k) := Nat.mul_lt_mul_of_pos_right k2 (Nat.two_pow_pos _)
    have f1 : FP.Core.roundRatio FP.Core.b32 false t 1 (-23) = .fin false (t * 2 ^ (23 - k)) ((k : Int) - 46) := by
      refine FP.Core.roundRatio_exact FP.Core.good_b32 (by decide) ⟨by rw [hp]; omega, by rw [hq]; omega, by rw [hqm]; omega, Or.inr (by rw [hT]; omega)⟩ ?_
      rw [show ((-23 : Int) - ((k : Int) - 46)).toNat = 23 - k by omega, show ((k : Int) - 46 - (-23)).toNat = 0 by omega]
      simp
    rw [f1]
    show FP.Core.Whole (t : Int) (FP.Core.roundRatio FP.Core.b32 false (t * 2 ^ (23 - k) * 8388608) 1 ((k : Int) - 46 + 0))
    rw [FP.Core.roundRatio_exact (c := t * 2 ^ (23 - k)) (q := (k : Int) - 23) FP.Core.good_b32 (by decide) ⟨by rw [hp]; omega, by rw [hq]; omega, by rw [hqm]; omega, Or.inr (by rw [hT]; omega)⟩ (by
      rw [show ((k : Int) - 46 + 0 - ((k : Int) - 23)).toNat = 0 by omega, show ((k : Int) - 23 - ((k : Int) - 46 + 0)).toNat = 23 by omega]
      omega)]
    show FP.Core.signed false (t * 2 ^ (23 - k) * 2 ^ ((k : Int) - 23).toNat) = (t : Int) * ((2 ^ (-((k : Int) - 23)).toNat : Nat) : Int)
    rw [show ((k : Int) - 23).toNat = 0 by omega, show (-((k : Int) - 23)).toNat = 23 - k by omega]
    unfold FP.Core.signed
    simp
theorem x_metF {G : xG} {l : Launch} {y : MethodName} {cc : ByteArray} {nL : Nat} {ret : Option FieldType} {rm : Room} {mc ms : Nat} {av : List Value} {P : Heap → Prop} {post : Option Value → Heap → Prop} {A : Nat → Prop} {own nm : String} {L : List (Nat × Value)}
    (hp : plainFor y = true) (ho : y.cls = own) (hnm1 : y.name = nm) (hrm : ∀ ws, (headSpec ws rm).room = rm) (hn : (lg_sl av).length ≤ nL) (hL : lv_args 0 av = L) (hc0 : L.all (fun q => Nat.beq q.2.category 1) = true)
    (body : ∀ Γ : xE, XB Γ G cc own nL rm A → XR Γ nm ret mc ms (xQ post A) → XJ Γ 0 0 P 0 L []) : CT G l y cc nL ret rm mc ms av P post A := by
  subst ho
  subst hnm1
  have hc : ∀ q ∈ L, q.2.category = 1 := fun q hq => Nat.eq_of_beq_eq_true (List.all_eq_true.mp hc0 q hq)
  unfold CT
  refine va_MetF (cc := cc) (maxL := nL) (ret := ret) hp rfl ?_
  intro p e s m args below meth c s₁ B hml hv
  obtain ⟨rfl, hP, hK⟩ := hv
  have hts := atoms_spec (ws := Cond.code y cc nL ret :: xw) B.pre
  have hown : s.vm.findClass y.cls = some m.cls := findClass_of_methodNamed B.named
  have hnm : meth.name = y.name := (name_of_methodNamed B.named B.method).1
  have h := body (p, l, e, (headSpec (Cond.code y cc nL ret :: xw) rm).room, s, m, av.toArray, below, meth, c, A, MQ below (xQ post A) av.toArray s mc ms A)
    ⟨B.exec, B.bytes, hml, hown, fun w hw => hts w (List.mem_cons_of_mem _ hw), hK, hrm _, rfl⟩ ⟨B.returns, B.notSynchronized, hnm, rfl⟩
  have hl := lv_entry av (n := nL) hn
  rw [lg_entry_eq]
  refine h s.heap [] _ hP va_S.rf ?_
  rw [hml]
  exact ⟨by rw [← hL]; exact hl, hc⟩
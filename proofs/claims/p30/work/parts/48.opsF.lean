/-! ===== the executive: a phase's values, a batch's ===== -/
theorem prt_pt {p w : Int} : prt p w = if pt p w = -1 then -4 else pt p w := by
  unfold prt pt
  by_cases c0 : w = 0
  · rw [if_pos c0, if_pos c0, if_neg (by omega)]
  · by_cases c1 : w = 1
    · rw [if_neg c0, if_pos c1, if_neg c0, if_pos c1, if_neg (by omega)]
    · by_cases c2 : w = 2
      · rw [if_neg c0, if_neg c1, if_pos c2, if_neg c0, if_neg c1, if_pos c2]
      · by_cases c3 : w = 3
        · rw [if_neg c0, if_neg c1, if_neg c2, if_pos c3, if_neg c0, if_neg c1, if_neg c2, if_neg (by omega)]
        · rw [if_neg c0, if_neg c1, if_neg c2, if_neg c3, if_neg c0, if_neg c1, if_neg c2, if_neg (by omega)]
def zc (x y : Nat) : Int := if x < y then -1 else if x = y then 0 else 1
theorem zc_rg (x y : Nat) : (-1 ≤ zc x y ∧ zc x y ≤ 1) ∧ (zc x y < 0 ↔ x < y) := by
  unfold zc
  (repeat' split) <;> omega
section OPC4
variable {G : xG} {l : Launch} {e : Nat} {m : Int → Int} {ρ : Nat → Int → Int} {W : Int}
theorem c_X6_bitsOf {P : Heap → Prop} {A : Nat → Prop} {a : UInt32} (h : 595591168 ≤ a.toNat ∧ a.toNat ≤ 1243365376) : CT G l yX6_bitsOf cX6_bitsOf 4 (some .int) ({ frames := 0, cells := 0, slots := 0, locals := 0 } : Room) 0 0 [.float a] P (pI (fI a) P) A := by
  refine x_met1 (own := RX6) (nm := "bitsOf") (L := [(0, .float a)]) (by decide) rfl rfl (fun _ => rfl) (Nat.le_of_ble_eq_true rfl) rfl rfl ?_
  intro Γ B R
  have c1 : FP.fconst1.toNat = 1065353216 := by decide
  have c2 : FP.fconst2.toNat = 1073741824 := by decide
  have ea := fI_nat (x := a) (by omega)
  have tail : ∀ (x : UInt32) (E : Int) (L : List (Nat × Value)), (1065353216 ≤ x.toNat ∧ x.toNat < 1073741824) → (x.toNat : Int) + 8388608 * (E - 127) = a.toNat → (∀ p2 ∈ [(1, Value.float x), (2, vi E)], lget L p2.1 = some p2.2) → XJ Γ 0 0 P 59 L [] := by
    intro x E L hx hE hL
    refine x_locs hL ?_
    obtain ⟨q1, q2, q3⟩ := f_frac hx
    refine x_fload_n B dX6_bitsOf_59 rfl ?_
    refine x_fconst1 B dX6_bitsOf_60 ?_
    refine x_fsub B dX6_bitsOf_61 (q2) ?_
    refine x_ldcwf B dX6_bitsOf_62 ckX6_278 ?_
    refine x_fmul B dX6_bitsOf_65 (q3) ?_
    refine x_f2i (z := (x.toNat : Int) - 1065353216) B dX6_bitsOf_66 (q1) ?_
    refine x_istore_n B dX6_bitsOf_67 (by decide) ?_
    refine x_iload_n B dX6_bitsOf_68 rfl ?_
    refine x_bipush B dX6_bitsOf_69 (by decide) ?_
    refine x_ishl (w := E * 8388608) B dX6_bitsOf_71 (i32_shl (k := 23) (by omega)) ?_
    refine x_iload_n B dX6_bitsOf_72 rfl ?_
    refine x_ior (w := (x.toNat : Int) - 1065353216 + E * 8388608) B dX6_bitsOf_73 (by rw [Int32.or_comm]; exact i32_or (z := E) 23 (by omega) rfl (by omega)) ?_
    exact x_retI B R dX6_bitsOf_74 (by rw [ea]; omega) (by omega) (fun H h => by exact h)
  have loop2 : ∀ (f : Nat) (x : UInt32) (E i : Int) (L : List (Nat × Value)), x.toNat < 1073741824 → (x.toNat : Int) + 8388608 * (E - 127) = a.toNat → 0 ≤ i → 595591168 + 8388608 * i ≤ x.toNat → 1073741824 - (x.toNat : Int) < 8388608 * f → (∀ p2 ∈ [(1, Value.float x), (2, vi E), (3, vi i)], lget L p2.1 = some p2.2) → XJ Γ 0 0 P 34 L [] := by
    intro f
    induction f with
    | zero => intro x E i L h1 h2 h3 h4 h5; omega
    | succ f ih =>
      intro x E i L h1 h2 h3 h4 h5 hL
      refine x_locs hL ?_
      obtain ⟨z1, z2⟩ := zc_rg x.toNat FP.fconst1.toNat
      refine x_iload_n B dX6_bitsOf_34 rfl ?_
      refine x_bipush B dX6_bitsOf_35 (by decide) ?_
      refine x_icmp_ge (tgt := 59) B dX6_bitsOf_37 (by decide) (by omega) (by omega) (fun c37 => ?_) (fun c37 => ?_)
      · exact tail x E _ (by omega) h2 (xl_cons rfl (xl_cons rfl xl_nil))
      · refine x_fload_n B dX6_bitsOf_40 rfl ?_
        refine x_fconst1 B dX6_bitsOf_41 ?_
        refine x_fcmp (z := zc x.toNat FP.fconst1.toNat) B dX6_bitsOf_42 (f_cmp .g (by omega) (by omega)) ?_
        refine x_if_ge (tgt := 59) B dX6_bitsOf_43 (by decide) (by omega) (fun c43 => ?_) (fun c43 => ?_)
        · exact tail x E _ (by omega) h2 (xl_cons rfl (xl_cons rfl xl_nil))
        · refine x_fload_n B dX6_bitsOf_46 rfl ?_
          refine x_fconst2 B dX6_bitsOf_47 ?_
          refine x_fmul B dX6_bitsOf_48 (f_n32 (by rw [f_dbl (by omega)]; omega)) ?_
          refine x_fstore_n B dX6_bitsOf_49 (by decide) ?_
          refine x_iinc B dX6_bitsOf_50 rfl (by decide) ?_
          refine x_iinc B dX6_bitsOf_53 rfl (by decide) ?_
          refine x_goto (tgt := 34) B dX6_bitsOf_56 (by decide) ?_
          have hd := f_dbl (x := x) (by omega)
          exact ih _ (E + -1) (i + 1) _ (by omega) (by omega) (by omega) (by omega) (by omega) (xl_cons rfl (xl_cons rfl (xl_cons rfl xl_nil)))
  have loop1 : ∀ (f : Nat) (x : UInt32) (i : Int) (L : List (Nat × Value)), 595591168 ≤ x.toNat → (x.toNat : Int) + 8388608 * i = a.toNat → 0 ≤ i → (x.toNat : Int) < 8388608 * f → (∀ p2 ∈ [(1, Value.float x), (2, vi (127 + i)), (3, vi i)], lget L p2.1 = some p2.2) → XJ Γ 0 0 P 7 L [] := by
    intro f
    induction f with
    | zero => intro x i L h1 h2 h3 h4; omega
    | succ f ih =>
      intro x i L h1 h2 h3 h4 hL
      refine x_locs hL ?_
      obtain ⟨z1, z2⟩ := zc_rg x.toNat FP.fconst2.toNat
      refine x_iload_n B dX6_bitsOf_7 rfl ?_
      refine x_bipush B dX6_bitsOf_8 (by decide) ?_
      refine x_icmp_ge (tgt := 32) B dX6_bitsOf_10 (by decide) (by omega) (by omega) (fun c10 => ?_) (fun c10 => ?_)
      · refine x_iconst B dX6_bitsOf_32 ?_
        refine x_istore_n B dX6_bitsOf_33 (by decide) ?_
        first
          | (exfalso; omega)
          | exact loop2 129 x (127 + i) 0 _ (by omega) (by omega) (by omega) (by omega) (by omega) (xl_cons rfl (xl_cons rfl (xl_cons rfl xl_nil)))
      · refine x_fload_n B dX6_bitsOf_13 rfl ?_
        refine x_fconst2 B dX6_bitsOf_14 ?_
        refine x_fcmp (z := zc x.toNat FP.fconst2.toNat) B dX6_bitsOf_15 (f_cmp .l (by omega) (by omega)) ?_
        refine x_if_lt (tgt := 32) B dX6_bitsOf_16 (by decide) (by omega) (fun c16 => ?_) (fun c16 => ?_)
        · refine x_iconst B dX6_bitsOf_32 ?_
          refine x_istore_n B dX6_bitsOf_33 (by decide) ?_
          first
            | (exfalso; omega)
            | exact loop2 129 x (127 + i) 0 _ (by omega) (by omega) (by omega) (by omega) (by omega) (xl_cons rfl (xl_cons rfl (xl_cons rfl xl_nil)))
        · refine x_fload_n B dX6_bitsOf_19 rfl ?_
          refine x_fconst2 B dX6_bitsOf_20 ?_
          refine x_fdiv B dX6_bitsOf_21 (f_n32 (by rw [f_half (by omega)]; omega)) ?_
          refine x_fstore_n B dX6_bitsOf_22 (by decide) ?_
          refine x_iinc B dX6_bitsOf_23 rfl (by decide) ?_
          refine x_iinc B dX6_bitsOf_26 rfl (by decide) ?_
          refine x_goto (tgt := 7) B dX6_bitsOf_29 (by decide) ?_
          have hd := f_half (x := x) (by omega)
          exact ih _ (i + 1) _ (by omega) (by omega) (by omega) (by omega) (xl_cons rfl (xl_cons (i := 2) (v := vi (127 + (i + 1))) (by show some (vi (127 + i + 1)) = _; rw [Int.add_assoc]) (xl_cons rfl xl_nil)))
  refine x_fload_n B dX6_bitsOf_0 rfl ?_
  refine x_fstore_n B dX6_bitsOf_1 (by decide) ?_
  refine x_bipush B dX6_bitsOf_2 (by decide) ?_
  refine x_istore_n B dX6_bitsOf_4 (by decide) ?_
  refine x_iconst B dX6_bitsOf_5 ?_
  refine x_istore_n B dX6_bitsOf_6 (by decide) ?_
  exact loop1 256 a 0 _ (by omega) (by omega) (by omega) (by omega) (xl_cons rfl (xl_cons rfl (xl_cons rfl xl_nil)))
theorem c_X6_phase {r v k w : Int} (hI : IL m ρ) (h3 : -2147483648 ≤ r ∧ r < 2147483648) (h4 : -2147483648 ≤ v ∧ v < 2147483648) (h5 : -2147483648 ≤ k ∧ k < 2147483648) (h6 : -2147483648 ≤ w ∧ w < 2147483648) : CT G l yX6_phase cX6_phase 5 (some .int) ({ frames := 2, cells := 0, slots := 0, locals := 42 } : Room) 0 0 [.ref e, vi r, vi v, vi k, vi w] (PE G e m ρ) (pI (o_phase m ρ r v k w).1 (PE G e (o_phase m ρ r v k w).2.1 (o_phase m ρ r v k w).2.2)) (AE e) := by
  refine x_met1 (own := RX6) (nm := "phase") (L := [(0, .ref e), (1, vi r), (2, vi v), (3, vi k), (4, vi w)]) (by decide) rfl rfl (fun _ => rfl) (Nat.le_of_ble_eq_true rfl) rfl rfl ?_
  intro Γ B R
  obtain ⟨hV, hr, hb⟩ := hI.x
  have hn := hV.n
  refine x_PE (fun β od oc q F T pc0 rs pl at_ vs S hw hm => ?_)
  refine x_iload_n B dX6_phase_0 rfl ?_
  refine x_sZ B msX6_109 (fun l => c_X6_isRecipe (by omega)) dX6_phase_1 rfl rfl (by decide) (by decide) (Nat.le_of_ble_eq_true rfl) ?_
  refine x_ifz_eq (tgt := 24) B dX6_phase_4 (by decide) (fun c4 => ?_) (fun c4 => ?_)
  · refine x_iconst B dX6_phase_24 ?_
    exact x_retE B R dX6_phase_25 (by simp only [o_phase]; (repeat (first | rfl | rw [if_pos (by omega)] | rw [if_neg (by omega)])); try (exfalso; omega)) (by omega) rfl rfl (by assumption)
  · refine x_iload_n B dX6_phase_7 rfl ?_
    refine x_iconst B dX6_phase_8 ?_
    refine x_aload_n B dX6_phase_9 rfl ?_
    refine x_get B fgX6_28 dX6_phase_10 (fun _ h => ⟨_, EX.o h, rfl⟩) ?_
    refine x_get B fgX6_118 dX6_phase_13 (EX.lf (fun _ h => ⟨_, PS.o h, rfl⟩)) ?_
    refine x_iload_n B dX6_phase_16 rfl ?_
    refine x_ialdR B dX6_phase_17 (by omega) (by decide) (EX.lf PS.av) (fun r17 => ?_)
    refine x_sZ B msX6_39 (fun l => c_X6_isWithin (by omega) (by omega) (by omega)) dX6_phase_18 rfl rfl (by decide) (by decide) (Nat.le_of_ble_eq_true rfl) ?_
    refine x_ifz_ne (tgt := 26) B dX6_phase_21 (by decide) (fun c21 => ?_) (fun c21 => ?_)
    · refine x_iload_n B dX6_phase_26 rfl ?_
      refine x_if_lt (tgt := 40) B dX6_phase_27 (by decide) (by omega) (fun c27 => ?_) (fun c27 => ?_)
      · refine x_iconst B dX6_phase_40 ?_
        exact x_retE B R dX6_phase_41 (by simp only [o_phase]; (repeat (first | rfl | rw [if_pos (by omega)] | rw [if_neg (by omega)])); try (exfalso; omega)) (by omega) rfl rfl (by assumption)
      · refine x_iload B dX6_phase_30 rfl ?_
        refine x_iconst B dX6_phase_32 ?_
        refine x_iconst B dX6_phase_33 ?_
        refine x_sZ B msX6_39 (fun l => c_X6_isWithin (by omega) (by omega) (by omega)) dX6_phase_34 rfl rfl (by decide) (by decide) (Nat.le_of_ble_eq_true rfl) ?_
        refine x_ifz_ne (tgt := 42) B dX6_phase_37 (by decide) (fun c37 => ?_) (fun c37 => ?_)
        · refine x_fact (fun H h => h.2.1.2.2.1) (fun hbk => ?_)
          have hvs := hV.vs (r := r) (by omega) (by omega)
          obtain ⟨k1, k2⟩ := hbk r v (by omega) (by omega) (by omega) (by omega) (by omega)
          have hpg := (hV.pg (r := r) (v := v) (by omega) (by omega) (by omega) (by omega)).1
          have e62 : 62 + (9 * r + v - 1) = 62 + 9 * r + v - 1 := by omega
          rw [e62] at hpg k1 k2
          have hfd : (if 0 ≤ k ∧ k < β 5 (9 * r + v - 1) then β w.toNat (8 * (9 * r + v - 1) + k) else -1) = (if k < m (62 + 9 * r + v - 1) then pt (m (116 + 8 * (9 * r + v - 1) + k)) w else -1) := by
            rw [k1]
            by_cases ck : k < m (62 + 9 * r + v - 1)
            · rw [if_pos ⟨by omega, ck⟩, if_pos ck]
              exact k2 k (by omega) (by omega) ck w (by omega) (by omega)
            · rw [if_neg (fun z => ck z.2), if_neg ck]
          have hfe : (if (if k < m (62 + 9 * r + v - 1) then pt (m (116 + 8 * (9 * r + v - 1) + k)) w else -1) = -1 then -4 else (if k < m (62 + 9 * r + v - 1) then pt (m (116 + 8 * (9 * r + v - 1) + k)) w else -1)) = (if k < m (62 + 9 * r + v - 1) then prt (m (116 + 8 * (9 * r + v - 1) + k)) w else -4) := by
            by_cases ck : k < m (62 + 9 * r + v - 1)
            · rw [if_pos ck, if_pos ck, prt_pt]
            · rw [if_neg ck, if_neg ck]
              rfl
          refine x_aload_n B dX6_phase_42 rfl ?_
          refine x_get B fgX6_10 dX6_phase_43 (fun _ h => ⟨_, EX.o h, rfl⟩) ?_
          refine x_iload_n B dX6_phase_46 rfl ?_
          refine x_iload_n B dX6_phase_47 rfl ?_
          refine x_sV B msX6_121 (fun l => c_X1_pageOf (by omega) (by omega)) dX6_phase_48 rfl rfl (by decide) (by decide) (Nat.le_of_ble_eq_true rfl) (fun r48 => ?_)
          refine x_iload_n B dX6_phase_51 rfl ?_
          refine x_iload B dX6_phase_52 rfl ?_
          refine x_mV B mvX6_128 (fun l => (c_X1_find (EX.lf PS.bk) (by omega) (by omega) (by omega) (by rw [k1]; omega)) ) dX6_phase_54 rfl rfl (by decide) (by decide) (Nat.le_of_ble_eq_true rfl) (EX.lf PS.rvK) (fun r54 => ?_)
          refine x_top hfd ?_
          rw [hfd] at r54
          refine x_sV B msX6_72 (fun l => c_X6_orNotFound (by omega)) dX6_phase_57 rfl rfl (by decide) (by decide) (Nat.le_of_ble_eq_true rfl) (fun r57 => ?_)
          refine x_top hfe ?_
          rw [hfe] at r57
          exact x_retE B R dX6_phase_60 (by simp only [o_phase]; rw [if_neg (by omega)]; by_cases ck : k < m (62 + 9 * r + v - 1) <;> simp only [ck, if_true, if_false]) (by omega) rfl rfl (by assumption)
        · refine x_iconst B dX6_phase_40 ?_
          exact x_retE B R dX6_phase_41 (by simp only [o_phase]; (repeat (first | rfl | rw [if_pos (by omega)] | rw [if_neg (by omega)])); try (exfalso; omega)) (by omega) rfl rfl (by assumption)
    · refine x_iconst B dX6_phase_24 ?_
      exact x_retE B R dX6_phase_25 (by simp only [o_phase]; (repeat (first | rfl | rw [if_pos (by omega)] | rw [if_neg (by omega)])); try (exfalso; omega)) (by omega) rfl rfl (by assumption)
theorem c_X6_batchInfo {x y : Int} (hI : IL m ρ) (h3 : -2147483648 ≤ x ∧ x < 2147483648) (h4 : -2147483648 ≤ y ∧ y < 2147483648) : CT G l yX6_batchInfo cX6_batchInfo 4 (some .int) ({ frames := 3, cells := 0, slots := 0, locals := 66 } : Room) 0 0 [.ref e, vi x, vi y] (PE G e m ρ) (pI (o_batchInfo m ρ x y).1 (PE G e (o_batchInfo m ρ x y).2.1 (o_batchInfo m ρ x y).2.2)) (AE e) := by
  refine x_met1 (own := RX6) (nm := "batchInfo") (L := [(0, .ref e), (1, vi x), (2, vi y)]) (by decide) rfl rfl (fun _ => rfl) (Nat.le_of_ble_eq_true rfl) rfl rfl ?_
  intro Γ B R
  obtain ⟨hV, hr, hb⟩ := hI.x
  have hn := hV.n
  refine x_PE (fun β od oc q F T pc0 rs pl at_ vs S hw hm => ?_)
  refine x_aload_n B dX6_batchInfo_0 rfl ?_
  refine x_iload_n B dX6_batchInfo_1 rfl ?_
  refine x_mZ B mvX6_135 (fun l => c_X6_isBatch (by omega) (by omega)) dX6_batchInfo_2 rfl rfl (by decide) (by decide) (Nat.le_of_ble_eq_true rfl) EX.rv ?_
  refine x_ifz_ne (tgt := 10) B dX6_batchInfo_5 (by decide) (fun c5 => ?_) (fun c5 => ?_)
  · obtain ⟨h0, hI1, hI2⟩ := Iv_iff.mp hV
    have hbx := h0.b (b := x) (by omega) (by omega)
    have hb1 := hI1 x (by omega) (by omega)
    obtain ⟨h1d, h1s⟩ := hb1
    have hbB := hV.b (b := x) (by omega) (by omega)
    unfold okB at hbB
    have hF := hbx.2.2.2.2.2.2.2.2.2
    unfold okF at hF
    obtain ⟨hp, hl, hph⟩ := h0.page (b := x) (by omega) (by omega)
    have hfb := fB_nat (z := m (548 + 10 * x + 9)) (by omega)
    have r11 := i32_rg (FP.f2i (fB (m (548 + 10 * x + 9))))
    have ef : fI (fB (m (548 + 10 * x + 9))) = m (548 + 10 * x + 9) := fI_fB (by omega)
    refine x_aload_n B dX6_batchInfo_10 rfl ?_
    refine x_get B fgX6_28 dX6_batchInfo_11 (fun _ h => ⟨_, EX.o h, rfl⟩) ?_
    refine x_get B fgX6_148 dX6_batchInfo_14 (EX.lf (fun _ h => ⟨_, PS.o h, rfl⟩)) ?_
    refine x_iload_n B dX6_batchInfo_17 rfl ?_
    refine x_aald (j := 4) B dX6_batchInfo_18 rfl (by omega) (by decide) (EX.lf (PS.ab (by omega))) ?_
    refine x_astore_n B dX6_batchInfo_19 (by decide) ?_
    refine x_iload_n B dX6_batchInfo_20 rfl ?_
    refine x_tsw (tgt := 189) (tgs := [84, 89, 94, 99, 104, 112, 117, 136, 159, 167, 175, 183]) (n := 12) B dX6_batchInfo_21 (by decide) (by decide) rfl (by decide) (by omega) (fun s21 => ?_) (fun i21 l21 s21 => ?_)
    · refine x_iconst B dX6_batchInfo_189 ?_
      exact x_retE B R dX6_batchInfo_190 (by simp only [o_batchInfo]; (repeat (first | rfl | rw [if_pos (by omega)] | rw [if_neg (by omega)])); try (exfalso; omega)) (by omega) rfl rfl (by assumption)
    · obtain rfl | rfl | rfl | rfl | rfl | rfl | rfl | rfl | rfl | rfl | rfl | rfl := (show i21 = 0 ∨ i21 = 1 ∨ i21 = 2 ∨ i21 = 3 ∨ i21 = 4 ∨ i21 = 5 ∨ i21 = 6 ∨ i21 = 7 ∨ i21 = 8 ∨ i21 = 9 ∨ i21 = 10 ∨ i21 = 11 by omega)
      · refine x_aload_n B dX6_batchInfo_84 rfl ?_
        refine x_getI B fgX6_189 dX6_batchInfo_85 (EX.lf (PS.gb0 (by omega))) (fun r85 => ?_)
        exact x_retE B R dX6_batchInfo_88 (by simp only [o_batchInfo]; (repeat (first | rfl | rw [if_pos (by omega)] | rw [if_neg (by omega)])); rw [show y = 0 by omega]) (by omega) rfl rfl (by assumption)
      · refine x_aload_n B dX6_batchInfo_89 rfl ?_
        refine x_getI B fgX6_192 dX6_batchInfo_90 (EX.lf (PS.gb1 (by omega))) (fun r90 => ?_)
        exact x_retE B R dX6_batchInfo_93 (by simp only [o_batchInfo]; (repeat (first | rfl | rw [if_pos (by omega)] | rw [if_neg (by omega)])); rw [show y = 1 by omega]) (by omega) rfl rfl (by assumption)
      · refine x_aload_n B dX6_batchInfo_94 rfl ?_
        refine x_getI B fgX6_195 dX6_batchInfo_95 (EX.lf (PS.gb2 (by omega))) (fun r95 => ?_)
        exact x_retE B R dX6_batchInfo_98 (by simp only [o_batchInfo]; (repeat (first | rfl | rw [if_pos (by omega)] | rw [if_neg (by omega)])); rw [show y = 2 by omega]) (by omega) rfl rfl (by assumption)
      · refine x_aload_n B dX6_batchInfo_99 rfl ?_
        refine x_getI B fgX6_186 dX6_batchInfo_100 (EX.lf (PS.gb3 (by omega))) (fun r100 => ?_)
        exact x_retE B R dX6_batchInfo_103 (by simp only [o_batchInfo]; (repeat (first | rfl | rw [if_pos (by omega)] | rw [if_neg (by omega)])); rw [show y = 3 by omega]) (by omega) rfl rfl (by assumption)
      · refine x_aload_n B dX6_batchInfo_104 rfl ?_
        refine x_getI B fgX6_198 dX6_batchInfo_105 (EX.lf (PS.gb4 (by omega))) (fun r105 => ?_)
        refine x_sV B msX6_72 (fun l => c_X6_orNotFound (by omega)) dX6_batchInfo_108 rfl rfl (by decide) (by decide) (Nat.le_of_ble_eq_true rfl) (fun r108 => ?_)
        exact x_retE B R dX6_batchInfo_111 (by simp only [o_batchInfo]; (repeat (first | rfl | rw [if_pos (by omega)] | rw [if_neg (by omega)])); try (exfalso; omega)) (by omega) rfl rfl (by assumption)
      · refine x_aload_n B dX6_batchInfo_112 rfl ?_
        refine x_getI B fgX6_152 dX6_batchInfo_113 (EX.lf (PS.gb5 (by omega))) (fun r113 => ?_)
        exact x_retE B R dX6_batchInfo_116 (by simp only [o_batchInfo]; (repeat (first | rfl | rw [if_pos (by omega)] | rw [if_neg (by omega)])); rw [show y = 5 by omega]) (by omega) rfl rfl (by assumption)
      · refine x_aload_n B dX6_batchInfo_117 rfl ?_
        refine x_getI B fgX6_152 dX6_batchInfo_118 (EX.lf (PS.gb5 (by omega))) (fun r118 => ?_)
        refine x_bipush B dX6_batchInfo_121 (by decide) ?_
        refine x_icmp_ne (tgt := 131) B dX6_batchInfo_123 (by decide) (by omega) (by omega) (fun c123 => ?_) (fun c123 => ?_)
        · refine x_aload_n B dX6_batchInfo_131 rfl ?_
          refine x_getI B fgX6_201 dX6_batchInfo_132 (EX.lf (PS.gb6 (by omega))) (fun r132 => ?_)
          exact x_retE B R dX6_batchInfo_135 (by simp only [o_batchInfo]; (repeat (first | rfl | rw [if_pos (by omega)] | rw [if_neg (by omega)])); try (exfalso; omega)) (by omega) rfl rfl (by assumption)
        · refine x_bipush B dX6_batchInfo_126 (by decide) ?_
          refine x_goto (tgt := 135) B dX6_batchInfo_128 (by decide) ?_
          exact x_retE B R dX6_batchInfo_135 (by simp only [o_batchInfo]; (repeat (first | rfl | rw [if_pos (by omega)] | rw [if_neg (by omega)])); try (exfalso; omega)) (by omega) rfl rfl (by assumption)
      · refine x_aload_n B dX6_batchInfo_136 rfl ?_
        refine x_getI B fgX6_152 dX6_batchInfo_137 (EX.lf (PS.gb5 (by omega))) (fun r137 => ?_)
        refine x_bipush B dX6_batchInfo_140 (by decide) ?_
        refine x_icmp_ne (tgt := 150) B dX6_batchInfo_142 (by decide) (by omega) (by omega) (fun c142 => ?_) (fun c142 => ?_)
        · refine x_aload_n B dX6_batchInfo_150 rfl ?_
          refine x_get B fgX6_28 dX6_batchInfo_151 (fun _ h => ⟨_, EX.o h, rfl⟩) ?_
          refine x_iload_n B dX6_batchInfo_154 rfl ?_
          refine x_fV B mvX6_174 (fun l => c_X3_ticksLeft (Iv0.rdC h0 (by omega) (by omega) (by omega)) (by omega)) dX6_batchInfo_155 rfl rfl (by decide) (by decide) (Nat.le_of_ble_eq_true rfl) EX.faP EX.fbP EX.fcP (fun r155 => ?_)
          exact x_retE B R dX6_batchInfo_158 (by simp only [o_batchInfo]; (repeat (first | rfl | rw [if_pos (by omega)] | rw [if_neg (by omega)])); try (exfalso; omega)) (by omega) rfl rfl (by assumption)
        · refine x_bipush B dX6_batchInfo_145 (by decide) ?_
          refine x_goto (tgt := 158) B dX6_batchInfo_147 (by decide) ?_
          exact x_retE B R dX6_batchInfo_158 (by simp only [o_batchInfo]; (repeat (first | rfl | rw [if_pos (by omega)] | rw [if_neg (by omega)])); try (exfalso; omega)) (by omega) rfl rfl (by assumption)
      · refine x_aload_n B dX6_batchInfo_159 rfl ?_
        refine x_getI B fgX6_204 dX6_batchInfo_160 (EX.lf (PS.gb8 (by omega))) (fun r160 => ?_)
        refine x_sV B msX6_72 (fun l => c_X6_orNotFound (by omega)) dX6_batchInfo_163 rfl rfl (by decide) (by decide) (Nat.le_of_ble_eq_true rfl) (fun r163 => ?_)
        exact x_retE B R dX6_batchInfo_166 (by simp only [o_batchInfo]; (repeat (first | rfl | rw [if_pos (by omega)] | rw [if_neg (by omega)])); try (exfalso; omega)) (by omega) rfl rfl (by assumption)
      · refine x_aload_n B dX6_batchInfo_167 rfl ?_
        refine x_mZ B mvX6_207 (fun l => c_X0_isUnderWay (EX.lf (PS.ob (by omega))) hm) dX6_batchInfo_168 rfl rfl (by decide) (by decide) (Nat.le_of_ble_eq_true rfl) (EX.lf (PS.rvB (by omega))) ?_
        refine x_sV B msX6_88 (fun l => c_X6_oneIf ) dX6_batchInfo_171 rfl rfl (by decide) (by decide) (Nat.le_of_ble_eq_true rfl) (fun r171 => ?_)
        exact x_retE B R dX6_batchInfo_174 (by simp only [o_batchInfo]; (repeat (first | rfl | rw [if_pos (by omega)] | rw [if_neg (by omega)])); try (exfalso; omega)) (by omega) rfl rfl (by assumption)
      · refine x_aload_n B dX6_batchInfo_175 rfl ?_
        refine x_get B fgX6_210 dX6_batchInfo_176 (EX.lf (PS.gb9 (by omega))) ?_
        refine x_sV B msX6_214 (fun l => (c_X6_bitsOf (by omega)) ) dX6_batchInfo_179 rfl rfl (by decide) (by decide) (Nat.le_of_ble_eq_true rfl) (fun r179 => ?_)
        refine x_top ef ?_
        rw [ef] at r179
        exact x_retE B R dX6_batchInfo_182 (by simp only [o_batchInfo]; (repeat (first | rfl | rw [if_pos (by omega)] | rw [if_neg (by omega)])); try (exfalso; omega)) (by omega) rfl rfl (by assumption)
      · refine x_aload_n B dX6_batchInfo_183 rfl ?_
        refine x_get B fgX6_210 dX6_batchInfo_184 (EX.lf (PS.gb9 (by omega))) ?_
        refine x_f2i (z := (FP.f2i (fB (m (548 + 10 * x + 9)))).toInt) B dX6_batchInfo_187 ((Int32.ofInt_toInt _).symm) ?_
        exact x_retE B R dX6_batchInfo_188 (by simp only [o_batchInfo]; (repeat (first | rfl | rw [if_pos (by omega)] | rw [if_neg (by omega)])); try (exfalso; omega)) (by omega) rfl rfl (by assumption)
  · refine x_iconst B dX6_batchInfo_8 ?_
    exact x_retE B R dX6_batchInfo_9 (by simp only [o_batchInfo]; (repeat (first | rfl | rw [if_pos (by omega)] | rw [if_neg (by omega)])); try (exfalso; omega)) (by omega) rfl rfl (by assumption)
end OPC4

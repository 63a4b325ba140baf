/-! ===== the reference's calls that let no time go by: each answer, and the memory behind it ===== -/
abbrev xO : Type := Int × (Int → Int) × (Nat → Int → Int)
def s_unit (m : Int → Int) (kind cap : Int) : Int → Int :=
  let u := m 2
  up (up (up (up (up (up (up m 2 (m 2 + 1)) (5 + 6 * u + 0) kind) (5 + 6 * u + 1) cap) (5 + 6 * u + 2) (-1)) (5 + 6 * u + 3) 0) (5 + 6 * u + 4) 0) (5 + 6 * u + 5) 0
def o_unit (m : Int → Int) (ρ : Nat → Int → Int) (kind cap : Int) : xO :=
  if ¬ ((0 ≤ kind ∧ kind ≤ 3) ∧ (1 ≤ cap ∧ cap ≤ 10000)) then (-1, m, ρ) else if m 2 = 8 then (-3, m, ρ) else (m 2, s_unit m kind cap, s_keep m ρ)
theorem c_X7_unit {G : xG} {l : Launch} {b : Nat} {m : Int → Int} {ρ : Nat → Int → Int} {W x y : Int} (h1 : Iv m W) (h2 : Ir ρ) (h3 : -2147483648 ≤ x ∧ x < 2147483648) (h4 : -2147483648 ≤ y ∧ y < 2147483648) : CT G l yX7_unit cX7_unit 4 (some .int) ({ frames := 2, cells := 0, slots := 0, locals := 45 } : Room) 0 0 [.ref b, vi x, vi y] (PM G b m ρ) (pI (o_unit m ρ x y).1 (PM G b (o_unit m ρ x y).2.1 (o_unit m ρ x y).2.2)) (AM b) := by
  refine x_met1 (own := RX7) (nm := "unit") (L := [(0, .ref b), (1, vi x), (2, vi y)]) (by decide) rfl rfl (fun _ => rfl) (Nat.le_of_ble_eq_true rfl) rfl rfl ?_
  intro Γ B R
  have hn := h1.n
  have hr := h2.1
  refine x_iload_n B dX7_unit_0 rfl ?_
  refine x_iconst B dX7_unit_1 ?_
  refine x_iconst B dX7_unit_2 ?_
  refine x_sZ B msX7_36 (fun l => c_X7_in (by omega) (by omega) (by omega)) dX7_unit_3 rfl rfl (by decide) (by decide) (Nat.le_of_ble_eq_true rfl) ?_
  refine x_ifz_eq (tgt := 20) B dX7_unit_6 (by decide) (fun c6 => ?_) (fun c6 => ?_)
  · refine x_iconst B dX7_unit_20 ?_
    exact x_retO B R dX7_unit_21 (by simp only [o_unit]; (repeat (first | rfl | rw [if_pos (by omega)] | rw [if_neg (by omega)])); try (exfalso; omega)) (by omega)
  · refine x_iload_n B dX7_unit_9 rfl ?_
    refine x_iconst B dX7_unit_10 ?_
    refine x_sipush B dX7_unit_11 (by decide) ?_
    refine x_sZ B msX7_36 (fun l => c_X7_in (by omega) (by omega) (by omega)) dX7_unit_14 rfl rfl (by decide) (by decide) (Nat.le_of_ble_eq_true rfl) ?_
    refine x_ifz_ne (tgt := 22) B dX7_unit_17 (by decide) (fun c17 => ?_) (fun c17 => ?_)
    · refine x_aload_n B dX7_unit_22 rfl ?_
      refine x_get B fgX7_7 dX7_unit_23 (fun _ h => ⟨_, PM.o h, rfl⟩) ?_
      refine x_iconst B dX7_unit_26 ?_
      refine x_ialdR B dX7_unit_27 (by omega) (by decide) PM.am (fun r27 => ?_)
      refine x_bipush B dX7_unit_28 (by decide) ?_
      refine x_icmp_ne (tgt := 36) B dX7_unit_30 (by decide) (by omega) (by omega) (fun c30 => ?_) (fun c30 => ?_)
      · refine x_aload_n B dX7_unit_36 rfl ?_
        refine x_mN B mvX7_44 (fun l => c_X7_keep (by omega)) dX7_unit_37 rfl rfl (by decide) (by decide) (Nat.le_of_ble_eq_true rfl) PM.rv ?_
        refine x_aload_n B dX7_unit_40 rfl ?_
        refine x_get B fgX7_7 dX7_unit_41 (fun _ h => ⟨_, PM.o h, rfl⟩) ?_
        refine x_iconst B dX7_unit_44 ?_
        refine x_ialdR B dX7_unit_45 (by omega) (by decide) PM.am (fun r45 => ?_)
        refine x_istore_n B dX7_unit_46 (by decide) ?_
        refine x_aload_n B dX7_unit_47 rfl ?_
        refine x_get B fgX7_7 dX7_unit_48 (fun _ h => ⟨_, PM.o h, rfl⟩) ?_
        refine x_iconst B dX7_unit_51 ?_
        refine x_dup2 B dX7_unit_52 rfl rfl ?_
        refine x_ialdR B dX7_unit_53 (by omega) (by decide) PM.am (fun r53 => ?_)
        refine x_iconst B dX7_unit_54 ?_
        refine x_iadd B dX7_unit_55 ?_
        refine x_iast B dX7_unit_56 (by omega) (by decide) (by unfold AM; omega) (PM.sm (by omega)) ?_
        refine x_aload_n B dX7_unit_57 rfl ?_
        refine x_iload_n B dX7_unit_58 rfl ?_
        refine x_iconst B dX7_unit_59 ?_
        refine x_iload_n B dX7_unit_60 rfl ?_
        refine x_mN B mvX7_47 (fun l => c_X7_putUnit (by omega) (by omega)) dX7_unit_61 rfl rfl (by decide) (by decide) (Nat.le_of_ble_eq_true rfl) PM.rv ?_
        refine x_aload_n B dX7_unit_64 rfl ?_
        refine x_iload_n B dX7_unit_65 rfl ?_
        refine x_iconst B dX7_unit_66 ?_
        refine x_iload_n B dX7_unit_67 rfl ?_
        refine x_mN B mvX7_47 (fun l => c_X7_putUnit (by omega) (by omega)) dX7_unit_68 rfl rfl (by decide) (by decide) (Nat.le_of_ble_eq_true rfl) PM.rv ?_
        refine x_aload_n B dX7_unit_71 rfl ?_
        refine x_iload_n B dX7_unit_72 rfl ?_
        refine x_iconst B dX7_unit_73 ?_
        refine x_iconst B dX7_unit_74 ?_
        refine x_mN B mvX7_47 (fun l => c_X7_putUnit (by omega) (by omega)) dX7_unit_75 rfl rfl (by decide) (by decide) (Nat.le_of_ble_eq_true rfl) PM.rv ?_
        refine x_aload_n B dX7_unit_78 rfl ?_
        refine x_iload_n B dX7_unit_79 rfl ?_
        refine x_iconst B dX7_unit_80 ?_
        refine x_iconst B dX7_unit_81 ?_
        refine x_mN B mvX7_47 (fun l => c_X7_putUnit (by omega) (by omega)) dX7_unit_82 rfl rfl (by decide) (by decide) (Nat.le_of_ble_eq_true rfl) PM.rv ?_
        refine x_aload_n B dX7_unit_85 rfl ?_
        refine x_iload_n B dX7_unit_86 rfl ?_
        refine x_iconst B dX7_unit_87 ?_
        refine x_iconst B dX7_unit_88 ?_
        refine x_mN B mvX7_47 (fun l => c_X7_putUnit (by omega) (by omega)) dX7_unit_89 rfl rfl (by decide) (by decide) (Nat.le_of_ble_eq_true rfl) PM.rv ?_
        refine x_aload_n B dX7_unit_92 rfl ?_
        refine x_iload_n B dX7_unit_93 rfl ?_
        refine x_iconst B dX7_unit_94 ?_
        refine x_iconst B dX7_unit_95 ?_
        refine x_mN B mvX7_47 (fun l => c_X7_putUnit (by omega) (by omega)) dX7_unit_96 rfl rfl (by decide) (by decide) (Nat.le_of_ble_eq_true rfl) PM.rv ?_
        refine x_iload_n B dX7_unit_99 rfl ?_
        exact x_retO B R dX7_unit_100 (by simp only [o_unit]; (repeat (first | rfl | rw [if_pos (by omega)] | rw [if_neg (by omega)])); try (exfalso; omega)) (by omega)
      · refine x_bipush B dX7_unit_33 (by decide) ?_
        exact x_retO B R dX7_unit_35 (by simp only [o_unit]; (repeat (first | rfl | rw [if_pos (by omega)] | rw [if_neg (by omega)])); try (exfalso; omega)) (by omega)
    · refine x_iconst B dX7_unit_20 ?_
      exact x_retO B R dX7_unit_21 (by simp only [o_unit]; (repeat (first | rfl | rw [if_pos (by omega)] | rw [if_neg (by omega)])); try (exfalso; omega)) (by omega)
def o_fail (m : Int → Int) (ρ : Nat → Int → Int) (u : Int) : xO :=
  if ¬ (0 ≤ u ∧ u ≤ m 2 - 1) then (-1, m, ρ) else if m (5 + 6 * u + 3) = 1 then (-2, m, ρ) else
  let m1 := up m (5 + 6 * u + 3) 1
  let x := m (5 + 6 * u + 2)
  if x = -1 ∨ ¬ (m (548 + 10 * x + 5) = 1 ∨ m (548 + 10 * x + 5) = 3) then (-4, m1, s_keep m ρ) else (x, s_holds m1 x, s_keep m ρ)
theorem c_X7_fail {G : xG} {l : Launch} {b : Nat} {m : Int → Int} {ρ : Nat → Int → Int} {W x : Int} (h1 : Iv m W) (h2 : Ir ρ) (h3 : -2147483648 ≤ x ∧ x < 2147483648) : CT G l yX7_fail cX7_fail 3 (some .int) ({ frames := 2, cells := 0, slots := 0, locals := 45 } : Room) 0 0 [.ref b, vi x] (PM G b m ρ) (pI (o_fail m ρ x).1 (PM G b (o_fail m ρ x).2.1 (o_fail m ρ x).2.2)) (AM b) := by
  refine x_met1 (own := RX7) (nm := "fail") (L := [(0, .ref b), (1, vi x)]) (by decide) rfl rfl (fun _ => rfl) (Nat.le_of_ble_eq_true rfl) rfl rfl ?_
  intro Γ B R
  have hn := h1.n
  have hr := h2.1
  refine x_aload_n B dX7_fail_0 rfl ?_
  refine x_iload_n B dX7_fail_1 rfl ?_
  refine x_mZ B mvX7_68 (fun l => c_X7_isUnit (by omega) (by omega)) dX7_fail_2 rfl rfl (by decide) (by decide) (Nat.le_of_ble_eq_true rfl) PM.rv ?_
  refine x_ifz_ne (tgt := 10) B dX7_fail_5 (by decide) (fun c5 => ?_) (fun c5 => ?_)
  · have hu := h1.u (u := x) (by omega) (by omega)
    unfold okU at hu
    have e2 : up m (5 + 6 * x + 3) 1 (5 + 6 * x + 2) = m (5 + 6 * x + 2) := up_ne (by omega)
    have e4 : up m (5 + 6 * x + 3) 1 4 = m 4 := up_ne (by omega)
    have e5 : up m (5 + 6 * x + 3) 1 (548 + 10 * m (5 + 6 * x + 2) + 5) = m (548 + 10 * m (5 + 6 * x + 2) + 5) := up_ne (by omega)
    refine x_aload_n B dX7_fail_10 rfl ?_
    refine x_iload_n B dX7_fail_11 rfl ?_
    refine x_iconst B dX7_fail_12 ?_
    refine x_mV B mvX7_51 (fun l => c_X7_ofUnit (by omega)) dX7_fail_13 rfl rfl (by decide) (by decide) (Nat.le_of_ble_eq_true rfl) PM.rv (fun r13 => ?_)
    refine x_iconst B dX7_fail_16 ?_
    refine x_icmp_ne (tgt := 23) B dX7_fail_17 (by decide) (by omega) (by omega) (fun c17 => ?_) (fun c17 => ?_)
    · refine x_aload_n B dX7_fail_23 rfl ?_
      refine x_mN B mvX7_44 (fun l => c_X7_keep (by omega)) dX7_fail_24 rfl rfl (by decide) (by decide) (Nat.le_of_ble_eq_true rfl) PM.rv ?_
      refine x_aload_n B dX7_fail_27 rfl ?_
      refine x_iload_n B dX7_fail_28 rfl ?_
      refine x_iconst B dX7_fail_29 ?_
      refine x_iconst B dX7_fail_30 ?_
      refine x_mN B mvX7_47 (fun l => c_X7_putUnit (by omega) (by omega)) dX7_fail_31 rfl rfl (by decide) (by decide) (Nat.le_of_ble_eq_true rfl) PM.rv ?_
      refine x_aload_n B dX7_fail_34 rfl ?_
      refine x_iload_n B dX7_fail_35 rfl ?_
      refine x_iconst B dX7_fail_36 ?_
      refine x_mV B mvX7_51 (fun l => c_X7_ofUnit (by omega)) dX7_fail_37 rfl rfl (by decide) (by decide) (Nat.le_of_ble_eq_true rfl) PM.rv (fun r37 => ?_)
      refine x_top e2 ?_
      refine x_istore_n B dX7_fail_40 (by decide) ?_
      refine x_iload_n B dX7_fail_41 rfl ?_
      refine x_iconst B dX7_fail_42 ?_
      refine x_icmp_eq (tgt := 54) B dX7_fail_43 (by decide) (by omega) (by omega) (fun c43 => ?_) (fun c43 => ?_)
      · refine x_bipush B dX7_fail_54 (by decide) ?_
        exact x_retO B R dX7_fail_56 (by simp only [o_fail]; (repeat (first | rfl | rw [if_pos (by omega)] | rw [if_neg (by omega)])); try (exfalso; omega)) (by omega)
      · refine x_aload_n B dX7_fail_46 rfl ?_
        refine x_iload_n B dX7_fail_47 rfl ?_
        refine x_mZ B mvX7_72 (fun l => c_X7_isActive (by omega)) dX7_fail_48 rfl rfl (by decide) (by decide) (Nat.le_of_ble_eq_true rfl) PM.rv ?_
        refine x_ifz_ne (tgt := 57) B dX7_fail_51 (by decide) (fun c51 => ?_) (fun c51 => ?_)
        · refine x_aload_n B dX7_fail_57 rfl ?_
          refine x_iload_n B dX7_fail_58 rfl ?_
          refine x_mN B mvX7_75 (fun l => c_X7_holds (by omega) (by omega)) dX7_fail_59 rfl rfl (by decide) (by decide) (Nat.le_of_ble_eq_true rfl) PM.rv ?_
          refine x_iload_n B dX7_fail_62 rfl ?_
          exact x_retO B R dX7_fail_63 (by simp only [o_fail]; (repeat (first | rfl | rw [if_pos (by omega)] | rw [if_neg (by omega)])); try (exfalso; omega)) (by omega)
        · refine x_bipush B dX7_fail_54 (by decide) ?_
          exact x_retO B R dX7_fail_56 (by simp only [o_fail]; (repeat (first | rfl | rw [if_pos (by omega)] | rw [if_neg (by omega)])); try (exfalso; omega)) (by omega)
    · refine x_bipush B dX7_fail_20 (by decide) ?_
      exact x_retO B R dX7_fail_22 (by simp only [o_fail]; (repeat (first | rfl | rw [if_pos (by omega)] | rw [if_neg (by omega)])); try (exfalso; omega)) (by omega)
  · refine x_iconst B dX7_fail_8 ?_
    exact x_retO B R dX7_fail_9 (by simp only [o_fail]; (repeat (first | rfl | rw [if_pos (by omega)] | rw [if_neg (by omega)])); try (exfalso; omega)) (by omega)
def o_repair (m : Int → Int) (ρ : Nat → Int → Int) (u : Int) : xO :=
  if ¬ (0 ≤ u ∧ u ≤ m 2 - 1) then (-1, m, ρ) else if m (5 + 6 * u + 3) = 0 then (-2, m, ρ) else
  let m1 := up m (5 + 6 * u + 3) 0
  (sumU m1 3 (m1 2).toNat, m1, s_keep m ρ)
theorem sumU_3 {m : Int → Int} (h : ∀ u, 0 ≤ u → u < m 2 → 0 ≤ m (5 + 6 * u + 3) ∧ m (5 + 6 * u + 3) ≤ 1) : ∀ n : Nat, (n : Int) ≤ m 2 → 0 ≤ sumU m 3 n ∧ sumU m 3 n ≤ n
  | 0, _ => by simp [sumU]
  | n + 1, hn => by
    have h1 := sumU_3 h n (by omega)
    have h2 := h n (by omega) (by omega)
    unfold sumU
    omega
theorem c_X7_repair {G : xG} {l : Launch} {b : Nat} {m : Int → Int} {ρ : Nat → Int → Int} {W x : Int} (h1 : Iv m W) (h2 : Ir ρ) (h3 : -2147483648 ≤ x ∧ x < 2147483648) : CT G l yX7_repair cX7_repair 2 (some .int) ({ frames := 2, cells := 0, slots := 0, locals := 45 } : Room) 0 0 [.ref b, vi x] (PM G b m ρ) (pI (o_repair m ρ x).1 (PM G b (o_repair m ρ x).2.1 (o_repair m ρ x).2.2)) (AM b) := by
  refine x_met1 (own := RX7) (nm := "repair") (L := [(0, .ref b), (1, vi x)]) (by decide) rfl rfl (fun _ => rfl) (Nat.le_of_ble_eq_true rfl) rfl rfl ?_
  intro Γ B R
  have hn := h1.n
  have hr := h2.1
  refine x_aload_n B dX7_repair_0 rfl ?_
  refine x_iload_n B dX7_repair_1 rfl ?_
  refine x_mZ B mvX7_68 (fun l => c_X7_isUnit (by omega) (by omega)) dX7_repair_2 rfl rfl (by decide) (by decide) (Nat.le_of_ble_eq_true rfl) PM.rv ?_
  refine x_ifz_ne (tgt := 10) B dX7_repair_5 (by decide) (fun c5 => ?_) (fun c5 => ?_)
  · have hu := h1.u (u := x) (by omega) (by omega)
    unfold okU at hu
    have e2 : up m (5 + 6 * x + 3) 0 2 = m 2 := up_ne (by omega)
    have e3 := sumU_3 (m := up m (5 + 6 * x + 3) 0) (fun u h0 h1' => by
      have h9 := h1.u (u := u) h0 (by omega)
      unfold okU at h9
      unfold up
      split <;> omega) (up m (5 + 6 * x + 3) 0 2).toNat (by omega)
    refine x_aload_n B dX7_repair_10 rfl ?_
    refine x_iload_n B dX7_repair_11 rfl ?_
    refine x_iconst B dX7_repair_12 ?_
    refine x_mV B mvX7_51 (fun l => c_X7_ofUnit (by omega)) dX7_repair_13 rfl rfl (by decide) (by decide) (Nat.le_of_ble_eq_true rfl) PM.rv (fun r13 => ?_)
    refine x_if_ne (tgt := 22) B dX7_repair_16 (by decide) (by omega) (fun c16 => ?_) (fun c16 => ?_)
    · refine x_aload_n B dX7_repair_22 rfl ?_
      refine x_mN B mvX7_44 (fun l => c_X7_keep (by omega)) dX7_repair_23 rfl rfl (by decide) (by decide) (Nat.le_of_ble_eq_true rfl) PM.rv ?_
      refine x_aload_n B dX7_repair_26 rfl ?_
      refine x_iload_n B dX7_repair_27 rfl ?_
      refine x_iconst B dX7_repair_28 ?_
      refine x_iconst B dX7_repair_29 ?_
      refine x_mN B mvX7_47 (fun l => c_X7_putUnit (by omega) (by omega)) dX7_repair_30 rfl rfl (by decide) (by decide) (Nat.le_of_ble_eq_true rfl) PM.rv ?_
      refine x_aload_n B dX7_repair_33 rfl ?_
      refine x_mV B mvX7_78 (fun l => c_X7_broken (by omega) (by omega)) dX7_repair_34 rfl rfl (by decide) (by decide) (Nat.le_of_ble_eq_true rfl) PM.rv (fun r34 => ?_)
      exact x_retO B R dX7_repair_37 (by simp only [o_repair]; (repeat (first | rfl | rw [if_pos (by omega)] | rw [if_neg (by omega)])); try (exfalso; omega)) (by omega)
    · refine x_bipush B dX7_repair_19 (by decide) ?_
      exact x_retO B R dX7_repair_21 (by simp only [o_repair]; (repeat (first | rfl | rw [if_pos (by omega)] | rw [if_neg (by omega)])); try (exfalso; omega)) (by omega)
  · refine x_iconst B dX7_repair_8 ?_
    exact x_retO B R dX7_repair_9 (by simp only [o_repair]; (repeat (first | rfl | rw [if_pos (by omega)] | rw [if_neg (by omega)])); try (exfalso; omega)) (by omega)
def o_unitInfo (m : Int → Int) (ρ : Nat → Int → Int) (u w : Int) : xO :=
  if ¬ ((0 ≤ u ∧ u ≤ m 2 - 1) ∧ (0 ≤ w ∧ w ≤ 6)) then (-1, m, ρ) else if w = 2 ∧ m (5 + 6 * u + 2) = -1 then (-4, m, ρ) else if w < 6 then (m (5 + 6 * u + w), m, ρ) else (if m (5 + 6 * u + 2) = -1 ∧ m (5 + 6 * u + 3) = 0 ∧ m (5 + 6 * u + 4) = 0 then 1 else 0, m, ρ)
theorem c_X7_unitInfo {G : xG} {l : Launch} {b : Nat} {m : Int → Int} {ρ : Nat → Int → Int} {W x y : Int} (h1 : Iv m W) (h2 : Ir ρ) (h3 : -2147483648 ≤ x ∧ x < 2147483648) (h4 : -2147483648 ≤ y ∧ y < 2147483648) : CT G l yX7_unitInfo cX7_unitInfo 3 (some .int) ({ frames := 2, cells := 0, slots := 0, locals := 43 } : Room) 0 0 [.ref b, vi x, vi y] (PM G b m ρ) (pI (o_unitInfo m ρ x y).1 (PM G b (o_unitInfo m ρ x y).2.1 (o_unitInfo m ρ x y).2.2)) (AM b) := by
  refine x_met1 (own := RX7) (nm := "unitInfo") (L := [(0, .ref b), (1, vi x), (2, vi y)]) (by decide) rfl rfl (fun _ => rfl) (Nat.le_of_ble_eq_true rfl) rfl rfl ?_
  intro Γ B R
  have hn := h1.n
  refine x_aload_n B dX7_unitInfo_0 rfl ?_
  refine x_iload_n B dX7_unitInfo_1 rfl ?_
  refine x_mZ B mvX7_68 (fun l => c_X7_isUnit (by omega) (by omega)) dX7_unitInfo_2 rfl rfl (by decide) (by decide) (Nat.le_of_ble_eq_true rfl) PM.rv ?_
  refine x_ifz_eq (tgt := 18) B dX7_unitInfo_5 (by decide) (fun c5 => ?_) (fun c5 => ?_)
  · refine x_iconst B dX7_unitInfo_18 ?_
    exact x_retO B R dX7_unitInfo_19 (by simp only [o_unitInfo]; (repeat (first | rfl | rw [if_pos (by omega)] | rw [if_neg (by omega)])); try (exfalso; omega)) (by omega)
  · refine x_iload_n B dX7_unitInfo_8 rfl ?_
    refine x_iconst B dX7_unitInfo_9 ?_
    refine x_bipush B dX7_unitInfo_10 (by decide) ?_
    refine x_sZ B msX7_36 (fun l => c_X7_in (by omega) (by omega) (by omega)) dX7_unitInfo_12 rfl rfl (by decide) (by decide) (Nat.le_of_ble_eq_true rfl) ?_
    refine x_ifz_ne (tgt := 20) B dX7_unitInfo_15 (by decide) (fun c15 => ?_) (fun c15 => ?_)
    · refine x_iload_n B dX7_unitInfo_20 rfl ?_
      refine x_iconst B dX7_unitInfo_21 ?_
      refine x_icmp_ne (tgt := 38) B dX7_unitInfo_22 (by decide) (by omega) (by omega) (fun c22 => ?_) (fun c22 => ?_)
      · refine x_iload_n B dX7_unitInfo_38 rfl ?_
        refine x_bipush B dX7_unitInfo_39 (by decide) ?_
        refine x_icmp_ge (tgt := 53) B dX7_unitInfo_41 (by decide) (by omega) (by omega) (fun c41 => ?_) (fun c41 => ?_)
        · refine x_aload_n B dX7_unitInfo_53 rfl ?_
          refine x_iload_n B dX7_unitInfo_54 rfl ?_
          refine x_mZ B mvX7_82 (fun l => c_X7_isFree (by omega)) dX7_unitInfo_55 rfl rfl (by decide) (by decide) (Nat.le_of_ble_eq_true rfl) PM.rv ?_
          refine x_ifz_eq (tgt := 65) B dX7_unitInfo_58 (by decide) (fun c58 => ?_) (fun c58 => ?_)
          · refine x_iconst B dX7_unitInfo_65 ?_
            exact x_retO B R dX7_unitInfo_66 (by simp only [o_unitInfo]; (repeat (first | rfl | rw [if_pos (by omega)] | rw [if_neg (by omega)])); try (exfalso; omega)) (by omega)
          · refine x_iconst B dX7_unitInfo_61 ?_
            refine x_goto (tgt := 66) B dX7_unitInfo_62 (by decide) ?_
            exact x_retO B R dX7_unitInfo_66 (by simp only [o_unitInfo]; (repeat (first | rfl | rw [if_pos (by omega)] | rw [if_neg (by omega)])); try (exfalso; omega)) (by omega)
        · refine x_aload_n B dX7_unitInfo_44 rfl ?_
          refine x_iload_n B dX7_unitInfo_45 rfl ?_
          refine x_iload_n B dX7_unitInfo_46 rfl ?_
          refine x_mV B mvX7_51 (fun l => c_X7_ofUnit (by omega)) dX7_unitInfo_47 rfl rfl (by decide) (by decide) (Nat.le_of_ble_eq_true rfl) PM.rv (fun r47 => ?_)
          refine x_goto (tgt := 66) B dX7_unitInfo_50 (by decide) ?_
          exact x_retO B R dX7_unitInfo_66 (by simp only [o_unitInfo]; (repeat (first | rfl | rw [if_pos (by omega)] | rw [if_neg (by omega)])); try (exfalso; omega)) (by omega)
      · refine x_aload_n B dX7_unitInfo_25 rfl ?_
        refine x_iload_n B dX7_unitInfo_26 rfl ?_
        refine x_iconst B dX7_unitInfo_27 ?_
        refine x_mV B mvX7_51 (fun l => c_X7_ofUnit (by omega)) dX7_unitInfo_28 rfl rfl (by decide) (by decide) (Nat.le_of_ble_eq_true rfl) PM.rv (fun r28 => ?_)
        refine x_iconst B dX7_unitInfo_31 ?_
        refine x_icmp_ne (tgt := 38) B dX7_unitInfo_32 (by decide) (by omega) (by omega) (fun c32 => ?_) (fun c32 => ?_)
        · refine x_iload_n B dX7_unitInfo_38 rfl ?_
          refine x_bipush B dX7_unitInfo_39 (by decide) ?_
          refine x_icmp_ge (tgt := 53) B dX7_unitInfo_41 (by decide) (by omega) (by omega) (fun c41 => ?_) (fun c41 => ?_)
          · refine x_aload_n B dX7_unitInfo_53 rfl ?_
            refine x_iload_n B dX7_unitInfo_54 rfl ?_
            refine x_mZ B mvX7_82 (fun l => c_X7_isFree (by omega)) dX7_unitInfo_55 rfl rfl (by decide) (by decide) (Nat.le_of_ble_eq_true rfl) PM.rv ?_
            refine x_ifz_eq (tgt := 65) B dX7_unitInfo_58 (by decide) (fun c58 => ?_) (fun c58 => ?_)
            · refine x_iconst B dX7_unitInfo_65 ?_
              exact x_retO B R dX7_unitInfo_66 (by simp only [o_unitInfo]; (repeat (first | rfl | rw [if_pos (by omega)] | rw [if_neg (by omega)])); try (exfalso; omega)) (by omega)
            · refine x_iconst B dX7_unitInfo_61 ?_
              refine x_goto (tgt := 66) B dX7_unitInfo_62 (by decide) ?_
              exact x_retO B R dX7_unitInfo_66 (by simp only [o_unitInfo]; (repeat (first | rfl | rw [if_pos (by omega)] | rw [if_neg (by omega)])); try (exfalso; omega)) (by omega)
          · refine x_aload_n B dX7_unitInfo_44 rfl ?_
            refine x_iload_n B dX7_unitInfo_45 rfl ?_
            refine x_iload_n B dX7_unitInfo_46 rfl ?_
            refine x_mV B mvX7_51 (fun l => c_X7_ofUnit (by omega)) dX7_unitInfo_47 rfl rfl (by decide) (by decide) (Nat.le_of_ble_eq_true rfl) PM.rv (fun r47 => ?_)
            refine x_goto (tgt := 66) B dX7_unitInfo_50 (by decide) ?_
            exact x_retO B R dX7_unitInfo_66 (by simp only [o_unitInfo]; (repeat (first | rfl | rw [if_pos (by omega)] | rw [if_neg (by omega)])); try (exfalso; omega)) (by omega)
        · refine x_bipush B dX7_unitInfo_35 (by decide) ?_
          exact x_retO B R dX7_unitInfo_37 (by simp only [o_unitInfo]; (repeat (first | rfl | rw [if_pos (by omega)] | rw [if_neg (by omega)])); try (exfalso; omega)) (by omega)
    · refine x_iconst B dX7_unitInfo_18 ?_
      exact x_retO B R dX7_unitInfo_19 (by simp only [o_unitInfo]; (repeat (first | rfl | rw [if_pos (by omega)] | rw [if_neg (by omega)])); try (exfalso; omega)) (by omega)
def o_shared (m : Int → Int) (ρ : Nat → Int → Int) (k : Int) : xO :=
  if ¬ (0 ≤ k ∧ k ≤ 2) then (-1, m, ρ) else if m (53 + k) = -1 then (-4, m, ρ) else (m (53 + k), m, ρ)
theorem c_X7_shared {G : xG} {l : Launch} {b : Nat} {m : Int → Int} {ρ : Nat → Int → Int} {x : Int} (h3 : -2147483648 ≤ x ∧ x < 2147483648) : CT G l yX7_shared cX7_shared 2 (some .int) ({ frames := 1, cells := 0, slots := 0, locals := 22 } : Room) 0 0 [.ref b, vi x] (PM G b m ρ) (pI (o_shared m ρ x).1 (PM G b (o_shared m ρ x).2.1 (o_shared m ρ x).2.2)) (AM b) := by
  refine x_met1 (own := RX7) (nm := "shared") (L := [(0, .ref b), (1, vi x)]) (by decide) rfl rfl (fun _ => rfl) (Nat.le_of_ble_eq_true rfl) rfl rfl ?_
  intro Γ B R
  refine x_iload_n B dX7_shared_0 rfl ?_
  refine x_iconst B dX7_shared_1 ?_
  refine x_iconst B dX7_shared_2 ?_
  refine x_sZ B msX7_36 (fun l => c_X7_in (by omega) (by omega) (by omega)) dX7_shared_3 rfl rfl (by decide) (by decide) (Nat.le_of_ble_eq_true rfl) ?_
  refine x_ifz_ne (tgt := 11) B dX7_shared_6 (by decide) (fun c6 => ?_) (fun c6 => ?_)
  · refine x_aload_n B dX7_shared_11 rfl ?_
    refine x_get B fgX7_7 dX7_shared_12 (fun _ h => ⟨_, PM.o h, rfl⟩) ?_
    refine x_bipush B dX7_shared_15 (by decide) ?_
    refine x_iload_n B dX7_shared_17 rfl ?_
    refine x_iadd B dX7_shared_18 ?_
    refine x_ialdR B dX7_shared_19 (by omega) (by decide) PM.am (fun r19 => ?_)
    refine x_iconst B dX7_shared_20 ?_
    refine x_icmp_ne (tgt := 29) B dX7_shared_21 (by decide) (by omega) (by omega) (fun c21 => ?_) (fun c21 => ?_)
    · refine x_aload_n B dX7_shared_29 rfl ?_
      refine x_get B fgX7_7 dX7_shared_30 (fun _ h => ⟨_, PM.o h, rfl⟩) ?_
      refine x_bipush B dX7_shared_33 (by decide) ?_
      refine x_iload_n B dX7_shared_35 rfl ?_
      refine x_iadd B dX7_shared_36 ?_
      refine x_ialdR B dX7_shared_37 (by omega) (by decide) PM.am (fun r37 => ?_)
      exact x_retO B R dX7_shared_38 (by simp only [o_shared]; (repeat (first | rfl | rw [if_pos (by omega)] | rw [if_neg (by omega)])); try (exfalso; omega)) (by omega)
    · refine x_bipush B dX7_shared_24 (by decide) ?_
      refine x_goto (tgt := 38) B dX7_shared_26 (by decide) ?_
      exact x_retO B R dX7_shared_38 (by simp only [o_shared]; (repeat (first | rfl | rw [if_pos (by omega)] | rw [if_neg (by omega)])); try (exfalso; omega)) (by omega)
  · refine x_iconst B dX7_shared_9 ?_
    exact x_retO B R dX7_shared_10 (by simp only [o_shared]; (repeat (first | rfl | rw [if_pos (by omega)] | rw [if_neg (by omega)])); try (exfalso; omega)) (by omega)
def o_setCleaning (m : Int → Int) (ρ : Nat → Int → Int) (t : Int) : xO :=
  if ¬ (0 ≤ t ∧ t ≤ 30) then (-1, m, ρ) else (m 0, up m 0 t, s_keep m ρ)
theorem c_X7_setCleaning {G : xG} {l : Launch} {b : Nat} {m : Int → Int} {ρ : Nat → Int → Int} {W x : Int} (h1 : Iv m W) (h2 : Ir ρ) (h3 : -2147483648 ≤ x ∧ x < 2147483648) : CT G l yX7_setCleaning cX7_setCleaning 3 (some .int) ({ frames := 2, cells := 0, slots := 0, locals := 45 } : Room) 0 0 [.ref b, vi x] (PM G b m ρ) (pI (o_setCleaning m ρ x).1 (PM G b (o_setCleaning m ρ x).2.1 (o_setCleaning m ρ x).2.2)) (AM b) := by
  refine x_met1 (own := RX7) (nm := "setCleaning") (L := [(0, .ref b), (1, vi x)]) (by decide) rfl rfl (fun _ => rfl) (Nat.le_of_ble_eq_true rfl) rfl rfl ?_
  intro Γ B R
  have hn := h1.n
  have hr := h2.1
  refine x_iload_n B dX7_setCleaning_0 rfl ?_
  refine x_iconst B dX7_setCleaning_1 ?_
  refine x_bipush B dX7_setCleaning_2 (by decide) ?_
  refine x_sZ B msX7_36 (fun l => c_X7_in (by omega) (by omega) (by omega)) dX7_setCleaning_4 rfl rfl (by decide) (by decide) (Nat.le_of_ble_eq_true rfl) ?_
  refine x_ifz_ne (tgt := 12) B dX7_setCleaning_7 (by decide) (fun c7 => ?_) (fun c7 => ?_)
  · refine x_aload_n B dX7_setCleaning_12 rfl ?_
    refine x_mN B mvX7_44 (fun l => c_X7_keep (by omega)) dX7_setCleaning_13 rfl rfl (by decide) (by decide) (Nat.le_of_ble_eq_true rfl) PM.rv ?_
    refine x_aload_n B dX7_setCleaning_16 rfl ?_
    refine x_get B fgX7_7 dX7_setCleaning_17 (fun _ h => ⟨_, PM.o h, rfl⟩) ?_
    refine x_iconst B dX7_setCleaning_20 ?_
    refine x_ialdR B dX7_setCleaning_21 (by omega) (by decide) PM.am (fun r21 => ?_)
    refine x_istore_n B dX7_setCleaning_22 (by decide) ?_
    refine x_aload_n B dX7_setCleaning_23 rfl ?_
    refine x_get B fgX7_7 dX7_setCleaning_24 (fun _ h => ⟨_, PM.o h, rfl⟩) ?_
    refine x_iconst B dX7_setCleaning_27 ?_
    refine x_iload_n B dX7_setCleaning_28 rfl ?_
    refine x_iast B dX7_setCleaning_29 (by omega) (by decide) (by unfold AM; omega) (PM.sm (by omega)) ?_
    refine x_iload_n B dX7_setCleaning_30 rfl ?_
    exact x_retO B R dX7_setCleaning_31 (by simp only [o_setCleaning]; (repeat (first | rfl | rw [if_pos (by omega)] | rw [if_neg (by omega)])); try (exfalso; omega)) (by omega)
  · refine x_iconst B dX7_setCleaning_10 ?_
    exact x_retO B R dX7_setCleaning_11 (by simp only [o_setCleaning]; (repeat (first | rfl | rw [if_pos (by omega)] | rw [if_neg (by omega)])); try (exfalso; omega)) (by omega)
def o_versions (m : Int → Int) (ρ : Nat → Int → Int) (r : Int) : xO := if 0 ≤ r ∧ r ≤ 5 then (m (56 + r), m, ρ) else (-1, m, ρ)
theorem c_X7_versions {G : xG} {l : Launch} {b : Nat} {m : Int → Int} {ρ : Nat → Int → Int} {x : Int} (h3 : -2147483648 ≤ x ∧ x < 2147483648) : CT G l yX7_versions cX7_versions 2 (some .int) ({ frames := 2, cells := 0, slots := 0, locals := 42 } : Room) 0 0 [.ref b, vi x] (PM G b m ρ) (pI (o_versions m ρ x).1 (PM G b (o_versions m ρ x).2.1 (o_versions m ρ x).2.2)) (AM b) := by
  refine x_met1 (own := RX7) (nm := "versions") (L := [(0, .ref b), (1, vi x)]) (by decide) rfl rfl (fun _ => rfl) (Nat.le_of_ble_eq_true rfl) rfl rfl ?_
  intro Γ B R
  refine x_iload_n B dX7_versions_0 rfl ?_
  refine x_sZ B msX7_125 (fun l => c_X7_isRecipe (by omega)) dX7_versions_1 rfl rfl (by decide) (by decide) (Nat.le_of_ble_eq_true rfl) ?_
  refine x_ifz_eq (tgt := 19) B dX7_versions_4 (by decide) (fun c4 => ?_) (fun c4 => ?_)
  · refine x_iconst B dX7_versions_19 ?_
    exact x_retO B R dX7_versions_20 (by simp only [o_versions]; (repeat (first | rfl | rw [if_pos (by omega)] | rw [if_neg (by omega)])); try (exfalso; omega)) (by omega)
  · refine x_aload_n B dX7_versions_7 rfl ?_
    refine x_get B fgX7_7 dX7_versions_8 (fun _ h => ⟨_, PM.o h, rfl⟩) ?_
    refine x_bipush B dX7_versions_11 (by decide) ?_
    refine x_iload_n B dX7_versions_13 rfl ?_
    refine x_iadd B dX7_versions_14 ?_
    refine x_ialdR B dX7_versions_15 (by omega) (by decide) PM.am (fun r15 => ?_)
    refine x_goto (tgt := 20) B dX7_versions_16 (by decide) ?_
    exact x_retO B R dX7_versions_20 (by simp only [o_versions]; (repeat (first | rfl | rw [if_pos (by omega)] | rw [if_neg (by omega)])); try (exfalso; omega)) (by omega)
/-- a part of a packed phase, as 'phase' answers it -/
def prt (p w : Int) : Int := if w = 0 then p % 4 else if w = 1 then p / 4 % 128 else if w = 2 then (if p / 512 % 4 - 1 = -1 then -4 else p / 512 % 4 - 1) else if w = 3 then p / 2048 % 128 else p / 262144 % 2
theorem c_X7_partOf {G : xG} {l : Launch} {P : Heap → Prop} {A : Nat → Prop} {x w : Int} (h1 : 0 ≤ x ∧ x < 524288) (h2 : 0 ≤ w ∧ w ≤ 4) : CT G l yX7_partOf cX7_partOf 2 (some .int) ({ frames := 1, cells := 0, slots := 0, locals := 20 } : Room) 0 0 [vi x, vi w] P (pI (prt x w) P) A := by
  refine x_met1 (own := RX7) (nm := "partOf") (L := [(0, vi x), (1, vi w)]) (by decide) rfl rfl (fun _ => rfl) (Nat.le_of_ble_eq_true rfl) rfl rfl ?_
  intro Γ B R
  refine x_iload_n B dX7_partOf_0 rfl ?_
  refine x_tsw (tgt := 65) (tgs := [32, 37, 42, 60]) (n := 4) B dX7_partOf_1 (by decide) (by decide) rfl (by decide) (by omega) (fun s1 => ?_) (fun i1 l1 s1 => ?_)
  · refine x_iload_n B dX7_partOf_65 rfl ?_
    refine x_sV B msX7_143 (fun l => c_X7_markOf (by omega)) dX7_partOf_66 rfl rfl (by decide) (by decide) (Nat.le_of_ble_eq_true rfl) (fun r66 => ?_)
    exact x_retI B R dX7_partOf_69 (by unfold prt; repeat (first | rfl | rw [if_pos (by omega)] | rw [if_neg (by omega)])) (by unfold prt; (repeat' split) <;> omega) (fun H h => by exact h)
  · obtain rfl | rfl | rfl | rfl := (show i1 = 0 ∨ i1 = 1 ∨ i1 = 2 ∨ i1 = 3 by omega)
    · refine x_iload_n B dX7_partOf_32 rfl ?_
      refine x_sV B msX7_131 (fun l => c_X7_kindOf (by omega)) dX7_partOf_33 rfl rfl (by decide) (by decide) (Nat.le_of_ble_eq_true rfl) (fun r33 => ?_)
      exact x_retI B R dX7_partOf_36 (by unfold prt; repeat (first | rfl | rw [if_pos (by omega)] | rw [if_neg (by omega)])) (by unfold prt; (repeat' split) <;> omega) (fun H h => by exact h)
    · refine x_iload_n B dX7_partOf_37 rfl ?_
      refine x_sV B msX7_134 (fun l => c_X7_durationOf (by omega)) dX7_partOf_38 rfl rfl (by decide) (by decide) (Nat.le_of_ble_eq_true rfl) (fun r38 => ?_)
      exact x_retI B R dX7_partOf_41 (by unfold prt; repeat (first | rfl | rw [if_pos (by omega)] | rw [if_neg (by omega)])) (by unfold prt; (repeat' split) <;> omega) (fun H h => by exact h)
    · refine x_iload_n B dX7_partOf_42 rfl ?_
      refine x_sV B msX7_137 (fun l => c_X7_sharedOf (by omega)) dX7_partOf_43 rfl rfl (by decide) (by decide) (Nat.le_of_ble_eq_true rfl) (fun r43 => ?_)
      refine x_iconst B dX7_partOf_46 ?_
      refine x_icmp_ne (tgt := 55) B dX7_partOf_47 (by decide) (by omega) (by omega) (fun c47 => ?_) (fun c47 => ?_)
      · refine x_iload_n B dX7_partOf_55 rfl ?_
        refine x_sV B msX7_137 (fun l => c_X7_sharedOf (by omega)) dX7_partOf_56 rfl rfl (by decide) (by decide) (Nat.le_of_ble_eq_true rfl) (fun r56 => ?_)
        exact x_retI B R dX7_partOf_59 (by unfold prt; repeat (first | rfl | rw [if_pos (by omega)] | rw [if_neg (by omega)])) (by unfold prt; (repeat' split) <;> omega) (fun H h => by exact h)
      · refine x_bipush B dX7_partOf_50 (by decide) ?_
        refine x_goto (tgt := 59) B dX7_partOf_52 (by decide) ?_
        exact x_retI B R dX7_partOf_59 (by unfold prt; repeat (first | rfl | rw [if_pos (by omega)] | rw [if_neg (by omega)])) (by unfold prt; (repeat' split) <;> omega) (fun H h => by exact h)
    · refine x_iload_n B dX7_partOf_60 rfl ?_
      refine x_sV B msX7_140 (fun l => c_X7_yieldOf (by omega)) dX7_partOf_61 rfl rfl (by decide) (by decide) (Nat.le_of_ble_eq_true rfl) (fun r61 => ?_)
      exact x_retI B R dX7_partOf_64 (by unfold prt; repeat (first | rfl | rw [if_pos (by omega)] | rw [if_neg (by omega)])) (by unfold prt; (repeat' split) <;> omega) (fun H h => by exact h)
def o_phase (m : Int → Int) (ρ : Nat → Int → Int) (r v k w : Int) : xO :=
  if ¬ ((0 ≤ r ∧ r ≤ 5) ∧ (1 ≤ v ∧ v ≤ m (56 + r)) ∧ 0 ≤ k ∧ (0 ≤ w ∧ w ≤ 4)) then (-1, m, ρ) else if k < m (62 + 9 * r + v - 1) then (prt (m (116 + 8 * (9 * r + v - 1) + k)) w, m, ρ) else (-4, m, ρ)
theorem c_X7_phase {G : xG} {l : Launch} {b : Nat} {m : Int → Int} {ρ : Nat → Int → Int} {W r v k w : Int} (h1 : Iv m W) (h3 : -2147483648 ≤ r ∧ r < 2147483648) (h4 : -2147483648 ≤ v ∧ v < 2147483648) (h5 : -2147483648 ≤ k ∧ k < 2147483648) (h6 : -2147483648 ≤ w ∧ w < 2147483648) : CT G l yX7_phase cX7_phase 5 (some .int) ({ frames := 2, cells := 0, slots := 0, locals := 42 } : Room) 0 0 [.ref b, vi r, vi v, vi k, vi w] (PM G b m ρ) (pI (o_phase m ρ r v k w).1 (PM G b (o_phase m ρ r v k w).2.1 (o_phase m ρ r v k w).2.2)) (AM b) := by
  refine x_met1 (own := RX7) (nm := "phase") (L := [(0, .ref b), (1, vi r), (2, vi v), (3, vi k), (4, vi w)]) (by decide) rfl rfl (fun _ => rfl) (Nat.le_of_ble_eq_true rfl) rfl rfl ?_
  intro Γ B R
  refine x_iload_n B dX7_phase_0 rfl ?_
  refine x_sZ B msX7_125 (fun l => c_X7_isRecipe (by omega)) dX7_phase_1 rfl rfl (by decide) (by decide) (Nat.le_of_ble_eq_true rfl) ?_
  refine x_ifz_eq (tgt := 38) B dX7_phase_4 (by decide) (fun c4 => ?_) (fun c4 => ?_)
  · refine x_iconst B dX7_phase_38 ?_
    exact x_retO B R dX7_phase_39 (by simp only [o_phase]; (repeat (first | rfl | rw [if_pos (by omega)] | rw [if_neg (by omega)])); try (exfalso; omega)) (by omega)
  · refine x_iload_n B dX7_phase_7 rfl ?_
    refine x_iconst B dX7_phase_8 ?_
    refine x_aload_n B dX7_phase_9 rfl ?_
    refine x_get B fgX7_7 dX7_phase_10 (fun _ h => ⟨_, PM.o h, rfl⟩) ?_
    refine x_bipush B dX7_phase_13 (by decide) ?_
    refine x_iload_n B dX7_phase_15 rfl ?_
    refine x_iadd B dX7_phase_16 ?_
    refine x_ialdR B dX7_phase_17 (by omega) (by decide) PM.am (fun r17 => ?_)
    have hvs := h1.vs (r := r) (by omega) (by omega)
    refine x_sZ B msX7_36 (fun l => c_X7_in (by omega) (by omega) (by omega)) dX7_phase_18 rfl rfl (by decide) (by decide) (Nat.le_of_ble_eq_true rfl) ?_
    refine x_ifz_eq (tgt := 38) B dX7_phase_21 (by decide) (fun c21 => ?_) (fun c21 => ?_)
    · refine x_iconst B dX7_phase_38 ?_
      exact x_retO B R dX7_phase_39 (by simp only [o_phase]; (repeat (first | rfl | rw [if_pos (by omega)] | rw [if_neg (by omega)])); try (exfalso; omega)) (by omega)
    · refine x_iload_n B dX7_phase_24 rfl ?_
      refine x_if_lt (tgt := 38) B dX7_phase_25 (by decide) (by omega) (fun c25 => ?_) (fun c25 => ?_)
      · refine x_iconst B dX7_phase_38 ?_
        exact x_retO B R dX7_phase_39 (by simp only [o_phase]; (repeat (first | rfl | rw [if_pos (by omega)] | rw [if_neg (by omega)])); try (exfalso; omega)) (by omega)
      · refine x_iload B dX7_phase_28 rfl ?_
        refine x_iconst B dX7_phase_30 ?_
        refine x_iconst B dX7_phase_31 ?_
        refine x_sZ B msX7_36 (fun l => c_X7_in (by omega) (by omega) (by omega)) dX7_phase_32 rfl rfl (by decide) (by decide) (Nat.le_of_ble_eq_true rfl) ?_
        refine x_ifz_ne (tgt := 40) B dX7_phase_35 (by decide) (fun c35 => ?_) (fun c35 => ?_)
        · have hpg := (h1.pg (r := r) (v := v) (by omega) (by omega) (by omega) (by omega)).1
          have e62 : 62 + (9 * r + v - 1) = 62 + 9 * r + v - 1 := by omega
          rw [e62] at hpg
          refine x_iload_n B dX7_phase_40 rfl ?_
          refine x_aload_n B dX7_phase_41 rfl ?_
          refine x_iload_n B dX7_phase_42 rfl ?_
          refine x_iload_n B dX7_phase_43 rfl ?_
          refine x_mV B mvX7_146 (fun l => c_X7_phasesOf (by omega) (by omega)) dX7_phase_44 rfl rfl (by decide) (by decide) (Nat.le_of_ble_eq_true rfl) PM.rv (fun r44 => ?_)
          refine x_icmp_ge (tgt := 65) B dX7_phase_47 (by decide) (by omega) (by omega) (fun c47 => ?_) (fun c47 => ?_)
          · refine x_bipush B dX7_phase_65 (by decide) ?_
            exact x_retO B R dX7_phase_67 (by simp only [o_phase]; (repeat (first | rfl | rw [if_pos (by omega)] | rw [if_neg (by omega)])); try (exfalso; omega)) (by omega)
          · have hph := (h1.pg (r := r) (v := v) (by omega) (by omega) (by omega) (by omega)).2 k (by omega) (by rw [e62]; omega)
            unfold okP at hph
            refine x_aload_n B dX7_phase_50 rfl ?_
            refine x_iload_n B dX7_phase_51 rfl ?_
            refine x_iload_n B dX7_phase_52 rfl ?_
            refine x_iload_n B dX7_phase_53 rfl ?_
            refine x_mV B mvX7_85 (fun l => c_X7_phaseIn (by omega) (by omega) (by omega)) dX7_phase_54 rfl rfl (by decide) (by decide) (Nat.le_of_ble_eq_true rfl) PM.rv (fun r54 => ?_)
            refine x_iload B dX7_phase_57 rfl ?_
            refine x_sV B msX7_149 (fun l => c_X7_partOf (by omega) (by omega)) dX7_phase_59 rfl rfl (by decide) (by decide) (Nat.le_of_ble_eq_true rfl) (fun r59 => ?_)
            refine x_goto (tgt := 67) B dX7_phase_62 (by decide) ?_
            exact x_retO B R dX7_phase_67 (by simp only [o_phase]; (repeat (first | rfl | rw [if_pos (by omega)] | rw [if_neg (by omega)])); try (exfalso; omega)) (by omega)
        · refine x_iconst B dX7_phase_38 ?_
          exact x_retO B R dX7_phase_39 (by simp only [o_phase]; (repeat (first | rfl | rw [if_pos (by omega)] | rw [if_neg (by omega)])); try (exfalso; omega)) (by omega)
def o_start (m : Int → Int) (ρ : Nat → Int → Int) (b : Int) : xO :=
  if ¬ (0 ≤ b ∧ b ≤ m 3 - 1) then (-1, m, ρ) else if m (548 + 10 * b + 5) ≠ 0 then (-2, m, ρ) else
  let m1 := up m (548 + 10 * b + 5) 1
  (cntB m1 1 (m1 3).toNat, m1, s_keep m ρ)
theorem c_X7_start {G : xG} {l : Launch} {b : Nat} {m : Int → Int} {ρ : Nat → Int → Int} {W x : Int} (h1 : Iv m W) (h2 : Ir ρ) (h3 : -2147483648 ≤ x ∧ x < 2147483648) : CT G l yX7_start cX7_start 2 (some .int) ({ frames := 2, cells := 0, slots := 0, locals := 45 } : Room) 0 0 [.ref b, vi x] (PM G b m ρ) (pI (o_start m ρ x).1 (PM G b (o_start m ρ x).2.1 (o_start m ρ x).2.2)) (AM b) := by
  refine x_met1 (own := RX7) (nm := "start") (L := [(0, .ref b), (1, vi x)]) (by decide) rfl rfl (fun _ => rfl) (Nat.le_of_ble_eq_true rfl) rfl rfl ?_
  intro Γ B R
  have hn := h1.n
  have hr := h2.1
  refine x_aload_n B dX7_start_0 rfl ?_
  refine x_iload_n B dX7_start_1 rfl ?_
  refine x_mZ B mvX7_152 (fun l => c_X7_isBatch (by omega) (by omega)) dX7_start_2 rfl rfl (by decide) (by decide) (Nat.le_of_ble_eq_true rfl) PM.rv ?_
  refine x_ifz_ne (tgt := 10) B dX7_start_5 (by decide) (fun c5 => ?_) (fun c5 => ?_)
  · have e3 : up m (548 + 10 * x + 5) 1 3 = m 3 := up_ne (by omega)
    refine x_aload_n B dX7_start_10 rfl ?_
    refine x_iload_n B dX7_start_11 rfl ?_
    refine x_iconst B dX7_start_12 ?_
    refine x_mV B mvX7_40 (fun l => c_X7_of (by omega)) dX7_start_13 rfl rfl (by decide) (by decide) (Nat.le_of_ble_eq_true rfl) PM.rv (fun r13 => ?_)
    refine x_if_eq (tgt := 22) B dX7_start_16 (by decide) (by omega) (fun c16 => ?_) (fun c16 => ?_)
    · refine x_aload_n B dX7_start_22 rfl ?_
      refine x_mN B mvX7_44 (fun l => c_X7_keep (by omega)) dX7_start_23 rfl rfl (by decide) (by decide) (Nat.le_of_ble_eq_true rfl) PM.rv ?_
      refine x_aload_n B dX7_start_26 rfl ?_
      refine x_iload_n B dX7_start_27 rfl ?_
      refine x_iconst B dX7_start_28 ?_
      refine x_iconst B dX7_start_29 ?_
      refine x_mN B mvX7_54 (fun l => c_X7_put (by omega) (by omega)) dX7_start_30 rfl rfl (by decide) (by decide) (Nat.le_of_ble_eq_true rfl) PM.rv ?_
      refine x_aload_n B dX7_start_33 rfl ?_
      refine x_iconst B dX7_start_34 ?_
      refine x_mV B mvX7_161 (fun l => c_X7_many (by omega) (by omega)) dX7_start_35 rfl rfl (by decide) (by decide) (Nat.le_of_ble_eq_true rfl) PM.rv (fun r35 => ?_)
      exact x_retO B R dX7_start_38 (by simp only [o_start]; (repeat (first | rfl | rw [if_pos (by omega)] | rw [if_neg (by omega)])); try (exfalso; omega)) (by omega)
    · refine x_bipush B dX7_start_19 (by decide) ?_
      exact x_retO B R dX7_start_21 (by simp only [o_start]; (repeat (first | rfl | rw [if_pos (by omega)] | rw [if_neg (by omega)])); try (exfalso; omega)) (by omega)
  · refine x_iconst B dX7_start_8 ?_
    exact x_retO B R dX7_start_9 (by simp only [o_start]; (repeat (first | rfl | rw [if_pos (by omega)] | rw [if_neg (by omega)])); try (exfalso; omega)) (by omega)
def o_hold (m : Int → Int) (ρ : Nat → Int → Int) (b : Int) : xO :=
  if ¬ (0 ≤ b ∧ b ≤ m 3 - 1) then (-1, m, ρ) else if ¬ (m (548 + 10 * b + 5) = 1 ∨ m (548 + 10 * b + 5) = 3) then (-2, m, ρ) else
  let m1 := s_holds m b
  (cntB m1 2 (m1 3).toNat, m1, s_keep m ρ)
theorem s_note_ne {m : Int → Int} {b w k : Int} (h : k < 668 ∨ 788 ≤ k) (h4 : k ≠ 4) : s_note m b w k = m k := by
  unfold s_note
  rw [if_neg (by omega), if_neg h4]
theorem s_holds_ne {m : Int → Int} {b k : Int} (hb : 0 ≤ b) (h : k < 53 ∨ 56 ≤ k) (h2 : k < 668 ∨ 788 ≤ k) (h4 : k ≠ 4) (h5 : k ≠ 548 + 10 * b + 5) : s_holds m b k = m k := by
  unfold s_holds
  rw [s_note_ne h2 h4, up_ne h5, s_relS_ne (by omega)]
theorem c_X7_hold {G : xG} {l : Launch} {b : Nat} {m : Int → Int} {ρ : Nat → Int → Int} {W x : Int} (h1 : Iv m W) (h2 : Ir ρ) (h3 : -2147483648 ≤ x ∧ x < 2147483648) : CT G l yX7_hold cX7_hold 2 (some .int) ({ frames := 2, cells := 0, slots := 0, locals := 45 } : Room) 0 0 [.ref b, vi x] (PM G b m ρ) (pI (o_hold m ρ x).1 (PM G b (o_hold m ρ x).2.1 (o_hold m ρ x).2.2)) (AM b) := by
  refine x_met1 (own := RX7) (nm := "hold") (L := [(0, .ref b), (1, vi x)]) (by decide) rfl rfl (fun _ => rfl) (Nat.le_of_ble_eq_true rfl) rfl rfl ?_
  intro Γ B R
  have hn := h1.n
  have hr := h2.1
  refine x_aload_n B dX7_hold_0 rfl ?_
  refine x_iload_n B dX7_hold_1 rfl ?_
  refine x_mZ B mvX7_152 (fun l => c_X7_isBatch (by omega) (by omega)) dX7_hold_2 rfl rfl (by decide) (by decide) (Nat.le_of_ble_eq_true rfl) PM.rv ?_
  refine x_ifz_ne (tgt := 10) B dX7_hold_5 (by decide) (fun c5 => ?_) (fun c5 => ?_)
  · have e3 : s_holds m x 3 = m 3 := s_holds_ne (by omega) (by omega) (by omega) (by omega) (by omega)
    refine x_aload_n B dX7_hold_10 rfl ?_
    refine x_iload_n B dX7_hold_11 rfl ?_
    refine x_mZ B mvX7_72 (fun l => c_X7_isActive (by omega)) dX7_hold_12 rfl rfl (by decide) (by decide) (Nat.le_of_ble_eq_true rfl) PM.rv ?_
    refine x_ifz_ne (tgt := 21) B dX7_hold_15 (by decide) (fun c15 => ?_) (fun c15 => ?_)
    · refine x_aload_n B dX7_hold_21 rfl ?_
      refine x_mN B mvX7_44 (fun l => c_X7_keep (by omega)) dX7_hold_22 rfl rfl (by decide) (by decide) (Nat.le_of_ble_eq_true rfl) PM.rv ?_
      refine x_aload_n B dX7_hold_25 rfl ?_
      refine x_iload_n B dX7_hold_26 rfl ?_
      refine x_mN B mvX7_75 (fun l => c_X7_holds (by omega) (by omega)) dX7_hold_27 rfl rfl (by decide) (by decide) (Nat.le_of_ble_eq_true rfl) PM.rv ?_
      refine x_aload_n B dX7_hold_30 rfl ?_
      refine x_iconst B dX7_hold_31 ?_
      refine x_mV B mvX7_161 (fun l => c_X7_many (by omega) (by omega)) dX7_hold_32 rfl rfl (by decide) (by decide) (Nat.le_of_ble_eq_true rfl) PM.rv (fun r32 => ?_)
      exact x_retO B R dX7_hold_35 (by simp only [o_hold]; (repeat (first | rfl | rw [if_pos (by omega)] | rw [if_neg (by omega)])); try (exfalso; omega)) (by omega)
    · refine x_bipush B dX7_hold_18 (by decide) ?_
      exact x_retO B R dX7_hold_20 (by simp only [o_hold]; (repeat (first | rfl | rw [if_pos (by omega)] | rw [if_neg (by omega)])); try (exfalso; omega)) (by omega)
  · refine x_iconst B dX7_hold_8 ?_
    exact x_retO B R dX7_hold_9 (by simp only [o_hold]; (repeat (first | rfl | rw [if_pos (by omega)] | rw [if_neg (by omega)])); try (exfalso; omega)) (by omega)
def s_restart (m : Int → Int) (b : Int) : Int → Int :=
  let m1 := up m (548 + 10 * b + 5) 1
  s_note (up m1 (548 + 10 * b + 7) (if phB m1 b (m1 (548 + 10 * b + 6)) / 262144 % 2 = 1 then 0 else m1 (548 + 10 * b + 7))) b 3
def o_restart (m : Int → Int) (ρ : Nat → Int → Int) (b : Int) : xO :=
  if ¬ (0 ≤ b ∧ b ≤ m 3 - 1) then (-1, m, ρ) else
  let u := m (548 + 10 * b + 8)
  if m (548 + 10 * b + 5) ≠ 2 ∨ (u ≠ -1 ∧ m (5 + 6 * u + 3) = 1) then (-2, m, ρ) else
  let m1 := s_restart m b
  (phB m1 b (m1 (548 + 10 * b + 6)) / 4 % 128 - m1 (548 + 10 * b + 7), m1, s_keep m ρ)
def o_priority (m : Int → Int) (ρ : Nat → Int → Int) (b v : Int) : xO :=
  if ¬ ((0 ≤ b ∧ b ≤ m 3 - 1) ∧ (0 ≤ v ∧ v ≤ 9)) then (-1, m, ρ) else (m (548 + 10 * b + 3), up m (548 + 10 * b + 3) v, s_keep m ρ)
theorem c_X7_priority {G : xG} {l : Launch} {b : Nat} {m : Int → Int} {ρ : Nat → Int → Int} {W x y : Int} (h1 : Iv m W) (h2 : Ir ρ) (h3 : -2147483648 ≤ x ∧ x < 2147483648) (h4 : -2147483648 ≤ y ∧ y < 2147483648) : CT G l yX7_priority cX7_priority 4 (some .int) ({ frames := 2, cells := 0, slots := 0, locals := 45 } : Room) 0 0 [.ref b, vi x, vi y] (PM G b m ρ) (pI (o_priority m ρ x y).1 (PM G b (o_priority m ρ x y).2.1 (o_priority m ρ x y).2.2)) (AM b) := by
  refine x_met1 (own := RX7) (nm := "priority") (L := [(0, .ref b), (1, vi x), (2, vi y)]) (by decide) rfl rfl (fun _ => rfl) (Nat.le_of_ble_eq_true rfl) rfl rfl ?_
  intro Γ B R
  have hn := h1.n
  have hr := h2.1
  refine x_aload_n B dX7_priority_0 rfl ?_
  refine x_iload_n B dX7_priority_1 rfl ?_
  refine x_mZ B mvX7_152 (fun l => c_X7_isBatch (by omega) (by omega)) dX7_priority_2 rfl rfl (by decide) (by decide) (Nat.le_of_ble_eq_true rfl) PM.rv ?_
  refine x_ifz_eq (tgt := 18) B dX7_priority_5 (by decide) (fun c5 => ?_) (fun c5 => ?_)
  · refine x_iconst B dX7_priority_18 ?_
    exact x_retO B R dX7_priority_19 (by simp only [o_priority]; (repeat (first | rfl | rw [if_pos (by omega)] | rw [if_neg (by omega)])); try (exfalso; omega)) (by omega)
  · refine x_iload_n B dX7_priority_8 rfl ?_
    refine x_iconst B dX7_priority_9 ?_
    refine x_bipush B dX7_priority_10 (by decide) ?_
    refine x_sZ B msX7_36 (fun l => c_X7_in (by omega) (by omega) (by omega)) dX7_priority_12 rfl rfl (by decide) (by decide) (Nat.le_of_ble_eq_true rfl) ?_
    refine x_ifz_ne (tgt := 20) B dX7_priority_15 (by decide) (fun c15 => ?_) (fun c15 => ?_)
    · refine x_aload_n B dX7_priority_20 rfl ?_
      refine x_mN B mvX7_44 (fun l => c_X7_keep (by omega)) dX7_priority_21 rfl rfl (by decide) (by decide) (Nat.le_of_ble_eq_true rfl) PM.rv ?_
      refine x_aload_n B dX7_priority_24 rfl ?_
      refine x_iload_n B dX7_priority_25 rfl ?_
      refine x_iconst B dX7_priority_26 ?_
      refine x_mV B mvX7_40 (fun l => c_X7_of (by omega)) dX7_priority_27 rfl rfl (by decide) (by decide) (Nat.le_of_ble_eq_true rfl) PM.rv (fun r27 => ?_)
      refine x_istore_n B dX7_priority_30 (by decide) ?_
      refine x_aload_n B dX7_priority_31 rfl ?_
      refine x_iload_n B dX7_priority_32 rfl ?_
      refine x_iconst B dX7_priority_33 ?_
      refine x_iload_n B dX7_priority_34 rfl ?_
      refine x_mN B mvX7_54 (fun l => c_X7_put (by omega) (by omega)) dX7_priority_35 rfl rfl (by decide) (by decide) (Nat.le_of_ble_eq_true rfl) PM.rv ?_
      refine x_iload_n B dX7_priority_38 rfl ?_
      exact x_retO B R dX7_priority_39 (by simp only [o_priority]; (repeat (first | rfl | rw [if_pos (by omega)] | rw [if_neg (by omega)])); try (exfalso; omega)) (by omega)
    · refine x_iconst B dX7_priority_18 ?_
      exact x_retO B R dX7_priority_19 (by simp only [o_priority]; (repeat (first | rfl | rw [if_pos (by omega)] | rw [if_neg (by omega)])); try (exfalso; omega)) (by omega)
def o_event (m : Int → Int) (ρ : Nat → Int → Int) (i w : Int) : xO :=
  if ¬ (0 ≤ i ∧ (0 ≤ w ∧ w ≤ 2)) then (-1, m, ρ) else if i < m 4 then (m (668 + 3 * i + w), m, ρ) else (-4, m, ρ)
theorem c_X7_event {G : xG} {l : Launch} {b : Nat} {m : Int → Int} {ρ : Nat → Int → Int} {W x y : Int} (h1 : Iv m W) (h3 : -2147483648 ≤ x ∧ x < 2147483648) (h4 : -2147483648 ≤ y ∧ y < 2147483648) : CT G l yX7_event cX7_event 3 (some .int) ({ frames := 1, cells := 0, slots := 0, locals := 22 } : Room) 0 0 [.ref b, vi x, vi y] (PM G b m ρ) (pI (o_event m ρ x y).1 (PM G b (o_event m ρ x y).2.1 (o_event m ρ x y).2.2)) (AM b) := by
  refine x_met1 (own := RX7) (nm := "event") (L := [(0, .ref b), (1, vi x), (2, vi y)]) (by decide) rfl rfl (fun _ => rfl) (Nat.le_of_ble_eq_true rfl) rfl rfl ?_
  intro Γ B R
  have hn := h1.n
  refine x_iload_n B dX7_event_0 rfl ?_
  refine x_if_lt (tgt := 13) B dX7_event_1 (by decide) (by omega) (fun c1 => ?_) (fun c1 => ?_)
  · refine x_iconst B dX7_event_13 ?_
    exact x_retO B R dX7_event_14 (by simp only [o_event]; (repeat (first | rfl | rw [if_pos (by omega)] | rw [if_neg (by omega)])); try (exfalso; omega)) (by omega)
  · refine x_iload_n B dX7_event_4 rfl ?_
    refine x_iconst B dX7_event_5 ?_
    refine x_iconst B dX7_event_6 ?_
    refine x_sZ B msX7_36 (fun l => c_X7_in (by omega) (by omega) (by omega)) dX7_event_7 rfl rfl (by decide) (by decide) (Nat.le_of_ble_eq_true rfl) ?_
    refine x_ifz_ne (tgt := 15) B dX7_event_10 (by decide) (fun c10 => ?_) (fun c10 => ?_)
    · refine x_iload_n B dX7_event_15 rfl ?_
      refine x_aload_n B dX7_event_16 rfl ?_
      refine x_get B fgX7_7 dX7_event_17 (fun _ h => ⟨_, PM.o h, rfl⟩) ?_
      refine x_iconst B dX7_event_20 ?_
      refine x_ialdR B dX7_event_21 (by omega) (by decide) PM.am (fun r21 => ?_)
      refine x_icmp_ge (tgt := 42) B dX7_event_22 (by decide) (by omega) (by omega) (fun c22 => ?_) (fun c22 => ?_)
      · refine x_bipush B dX7_event_42 (by decide) ?_
        exact x_retO B R dX7_event_44 (by simp only [o_event]; (repeat (first | rfl | rw [if_pos (by omega)] | rw [if_neg (by omega)])); try (exfalso; omega)) (by omega)
      · refine x_aload_n B dX7_event_25 rfl ?_
        refine x_get B fgX7_7 dX7_event_26 (fun _ h => ⟨_, PM.o h, rfl⟩) ?_
        refine x_sipush B dX7_event_29 (by decide) ?_
        refine x_iconst B dX7_event_32 ?_
        refine x_iload_n B dX7_event_33 rfl ?_
        refine x_imul B dX7_event_34 ?_
        refine x_iadd B dX7_event_35 ?_
        refine x_iload_n B dX7_event_36 rfl ?_
        refine x_iadd B dX7_event_37 ?_
        refine x_ialdR B dX7_event_38 (by omega) (by decide) PM.am (fun r38 => ?_)
        refine x_goto (tgt := 44) B dX7_event_39 (by decide) ?_
        exact x_retO B R dX7_event_44 (by simp only [o_event]; (repeat (first | rfl | rw [if_pos (by omega)] | rw [if_neg (by omega)])); try (exfalso; omega)) (by omega)
    · refine x_iconst B dX7_event_13 ?_
      exact x_retO B R dX7_event_14 (by simp only [o_event]; (repeat (first | rfl | rw [if_pos (by omega)] | rw [if_neg (by omega)])); try (exfalso; omega)) (by omega)
-- how the parts of a batch fare when other cells change
theorem pgB_eq {m m' : Int → Int} {b : Int} (h0 : m' (548 + 10 * b + 0) = m (548 + 10 * b + 0)) (h1 : m' (548 + 10 * b + 1) = m (548 + 10 * b + 1)) : pgB m' b = pgB m b := by
  unfold pgB
  rw [h0, h1]
theorem okB_pg {m : Int → Int} {W b : Int} (h : Iv m W) (h0 : 0 ≤ b) (h1 : b < m 3) : 0 ≤ pgB m b ∧ pgB m b < 54 ∧ okV m (pgB m b) := by
  have hb := h.b h0 h1
  unfold okB at hb
  have hv := h.vs (r := m (548 + 10 * b + 0)) (by omega) (by omega)
  have hp := h.pg (r := m (548 + 10 * b + 0)) (v := m (548 + 10 * b + 1)) (by omega) (by omega) (by omega) (by omega)
  unfold pgB
  exact ⟨by omega, by omega, hp⟩
theorem okB_ph {m : Int → Int} {W b k : Int} (h : Iv m W) (h0 : 0 ≤ b) (h1 : b < m 3) (h2 : 0 ≤ k) (h3 : k < lnB m b) : okP (phB m b k) := by
  obtain ⟨g1, g2, g3⟩ := okB_pg h h0 h1
  exact g3.2 k h2 h3
theorem lnB_rg {m : Int → Int} {W b : Int} (h : Iv m W) (h0 : 0 ≤ b) (h1 : b < m 3) : 1 ≤ lnB m b ∧ lnB m b ≤ 8 := (okB_pg h h0 h1).2.2.1
theorem phB_up {m : Int → Int} {b k p v : Int} (h : 548 ≤ p) (hp : p ≠ 548 + 10 * b + 0) (hp1 : p ≠ 548 + 10 * b + 1) (hg : 0 ≤ pgB m b ∧ pgB m b < 54) (hk : 0 ≤ k ∧ k < 8) : phB (up m p v) b k = phB m b k := by
  unfold phB
  rw [pgB_eq (m := m) (up_ne (by omega)) (up_ne (by omega)), up_ne (by omega)]
theorem phB_note {m : Int → Int} {b k x w : Int} (hb : 0 ≤ b ∧ b < 12) (hg : 0 ≤ pgB m b ∧ pgB m b < 54) (hk : 0 ≤ k ∧ k < 8) : phB (s_note m x w) b k = phB m b k := by
  unfold phB
  rw [pgB_eq (m := m) (s_note_ne (by omega) (by omega)) (s_note_ne (by omega) (by omega)), s_note_ne (by omega) (by omega)]
theorem c_X7_restart {G : xG} {l : Launch} {b : Nat} {m : Int → Int} {ρ : Nat → Int → Int} {W x : Int} (h1 : Iv m W) (h2 : Ir ρ) (h3 : -2147483648 ≤ x ∧ x < 2147483648) : CT G l yX7_restart cX7_restart 3 (some .int) ({ frames := 4, cells := 0, slots := 0, locals := 87 } : Room) 0 0 [.ref b, vi x] (PM G b m ρ) (pI (o_restart m ρ x).1 (PM G b (o_restart m ρ x).2.1 (o_restart m ρ x).2.2)) (AM b) := by
  refine x_met1 (own := RX7) (nm := "restart") (L := [(0, .ref b), (1, vi x)]) (by decide) rfl rfl (fun _ => rfl) (Nat.le_of_ble_eq_true rfl) rfl rfl ?_
  intro Γ B R
  have hn := h1.n
  have hr := h2.1
  have facts : 0 ≤ x ∧ x ≤ m 3 - 1 → okB m x ∧ m (56 + m (548 + 10 * x + 0)) ≤ 9 ∧ (1 ≤ lnB m x ∧ lnB m x ≤ 8) ∧ (0 ≤ pgB m x ∧ pgB m x < 54) ∧ (m (548 + 10 * x + 6) < lnB m x → okP (phB m x (m (548 + 10 * x + 6))) ∧ phB (up m (548 + 10 * x + 5) 1) x (m (548 + 10 * x + 6)) = phB m x (m (548 + 10 * x + 6))) := by
    intro hx
    have hb := h1.b (b := x) (by omega) (by omega)
    have hv := h1.vs (r := m (548 + 10 * x + 0)) (by unfold okB at hb; omega) (by unfold okB at hb; omega)
    have hl := lnB_rg h1 (b := x) (by omega) (by omega)
    obtain ⟨g1, g2, -⟩ := okB_pg h1 (b := x) (by omega) (by omega)
    refine ⟨hb, hv.2, hl, ⟨g1, g2⟩, fun h6 => ?_⟩
    unfold okB at hb
    exact ⟨okB_ph h1 (by omega) (by omega) (by omega) h6, phB_up (by omega) (by omega) (by omega) ⟨g1, g2⟩ (by omega)⟩
  have e0 : ∀ v w, (up (up m (548 + 10 * x + 5) 1) (548 + 10 * x + 7) v) (548 + 10 * x + w) = if w = 7 then v else if w = 5 then 1 else m (548 + 10 * x + w) := fun v w => by
    unfold up
    (repeat' split) <;> first | rfl | omega
  have tail : (0 ≤ x ∧ x ≤ m 3 - 1) → m (548 + 10 * x + 5) = 2 → ¬ (m (548 + 10 * x + 8) ≠ -1 ∧ m (5 + 6 * m (548 + 10 * x + 8) + 3) = 1) → ∀ v : Int, (0 ≤ v ∧ v < 99) → v = (if phB (up m (548 + 10 * x + 5) 1) x ((up m (548 + 10 * x + 5) 1) (548 + 10 * x + 6)) / 262144 % 2 = 1 then 0 else (up m (548 + 10 * x + 5) 1) (548 + 10 * x + 7)) →
      XJ Γ 0 0 (PM G b (up m (548 + 10 * x + 5) 1) (s_keep m ρ)) 84 [(0, .ref b), (1, vi x), (2, vi (m (548 + 10 * x + 8)))] [vi v, vi 7, vi x, .ref b] := by
    intro hx h5 hu v hv ev
    obtain ⟨hb, hvs, hl, hg, hp⟩ := facts hx
    unfold okB at hb
    obtain ⟨hq, ep⟩ := hp (by omega)
    unfold okP at hq
    have eS : s_restart m x = s_note (up (up m (548 + 10 * x + 5) 1) (548 + 10 * x + 7) v) x 3 := by
      simp only [s_restart]
      rw [← ev]
    have e4 : (up (up m (548 + 10 * x + 5) 1) (548 + 10 * x + 7) v) 4 = m 4 := by
      rw [up_ne (by omega), up_ne (by omega)]
    have f : ∀ w, 0 ≤ w → w < 10 → s_restart m x (548 + 10 * x + w) = if w = 7 then v else if w = 5 then 1 else m (548 + 10 * x + w) := fun w h0 h9 => by
      rw [eS, s_note_ne (by omega) (by omega), e0]
    have f0 := f 0 (by omega) (by omega)
    have f1 := f 1 (by omega) (by omega)
    have f6 := f 6 (by omega) (by omega)
    have f7 := f 7 (by omega) (by omega)
    simp only [show (0 : Int) ≠ 7 by decide, show (0 : Int) ≠ 5 by decide, show (1 : Int) ≠ 7 by decide, show (1 : Int) ≠ 5 by decide, show (6 : Int) ≠ 7 by decide, show (6 : Int) ≠ 5 by decide, if_false, if_true] at f0 f1 f6 f7
    have fp : phB (s_restart m x) x (s_restart m x (548 + 10 * x + 6)) = phB m x (m (548 + 10 * x + 6)) := by
      rw [f6]
      rw [eS, phB_note (by omega) (by rw [pgB_eq (m := m) (by rw [e0]; rfl) (by rw [e0]; rfl)]; exact hg) (by omega)]
      rw [phB_up (by omega) (by omega) (by omega) (by rw [pgB_eq (m := m) (up_ne (by omega)) (up_ne (by omega))]; exact hg) (by omega)]
      exact ep
    refine x_mN B mvX7_54 (fun l => c_X7_put (by omega) (by omega)) dX7_restart_84 rfl rfl (by decide) (by decide) (Nat.le_of_ble_eq_true rfl) PM.rv ?_
    refine x_aload_n B dX7_restart_87 rfl ?_
    refine x_iload_n B dX7_restart_88 rfl ?_
    refine x_iconst B dX7_restart_89 ?_
    refine x_mN B mvX7_64 (fun l => c_X7_note (by omega) (by omega) (by omega)) dX7_restart_90 rfl rfl (by decide) (by decide) (Nat.le_of_ble_eq_true rfl) PM.rv ?_
    rw [← eS]
    refine x_aload_n B dX7_restart_93 rfl ?_
    refine x_iload_n B dX7_restart_94 rfl ?_
    refine x_mV B mvX7_167 (fun l => c_X7_left (by omega) (by omega) (by omega) (by omega) (by omega) (by omega)) dX7_restart_95 rfl rfl (by decide) (by decide) (Nat.le_of_ble_eq_true rfl) PM.rv (fun r95 => ?_)
    exact x_retO B R dX7_restart_98 (by simp only [o_restart]; (repeat (first | rfl | rw [if_pos (by omega)] | rw [if_neg (by omega)])); try (exfalso; omega)) (by omega)
  refine x_aload_n B dX7_restart_0 rfl ?_
  refine x_iload_n B dX7_restart_1 rfl ?_
  refine x_mZ B mvX7_152 (fun l => c_X7_isBatch (by omega) (by omega)) dX7_restart_2 rfl rfl (by decide) (by decide) (Nat.le_of_ble_eq_true rfl) PM.rv ?_
  refine x_ifz_ne (tgt := 10) B dX7_restart_5 (by decide) (fun c5 => ?_) (fun c5 => ?_)
  · obtain ⟨hb, hvs, hl, hg, hp⟩ := facts c5
    unfold okB at hb
    have e6 : up m (548 + 10 * x + 5) 1 (548 + 10 * x + 6) = m (548 + 10 * x + 6) := up_ne (by omega)
    have e7 : up m (548 + 10 * x + 5) 1 (548 + 10 * x + 7) = m (548 + 10 * x + 7) := up_ne (by omega)
    have e0' : up m (548 + 10 * x + 5) 1 (548 + 10 * x + 0) = m (548 + 10 * x + 0) := up_ne (by omega)
    have e1' : up m (548 + 10 * x + 5) 1 (548 + 10 * x + 1) = m (548 + 10 * x + 1) := up_ne (by omega)
    have e4 : up m (548 + 10 * x + 5) 1 4 = m 4 := up_ne (by omega)
    refine x_aload_n B dX7_restart_10 rfl ?_
    refine x_iload_n B dX7_restart_11 rfl ?_
    refine x_bipush B dX7_restart_12 (by decide) ?_
    refine x_mV B mvX7_40 (fun l => c_X7_of (by omega)) dX7_restart_14 rfl rfl (by decide) (by decide) (Nat.le_of_ble_eq_true rfl) PM.rv (fun r14 => ?_)
    refine x_istore_n B dX7_restart_17 (by decide) ?_
    refine x_aload_n B dX7_restart_18 rfl ?_
    refine x_iload_n B dX7_restart_19 rfl ?_
    refine x_iconst B dX7_restart_20 ?_
    refine x_mV B mvX7_40 (fun l => c_X7_of (by omega)) dX7_restart_21 rfl rfl (by decide) (by decide) (Nat.le_of_ble_eq_true rfl) PM.rv (fun r21 => ?_)
    refine x_iconst B dX7_restart_24 ?_
    refine x_icmp_ne (tgt := 43) B dX7_restart_25 (by decide) (by omega) (by omega) (fun c25 => ?_) (fun c25 => ?_)
    · refine x_bipush B dX7_restart_43 (by decide) ?_
      exact x_retO B R dX7_restart_45 (by simp only [o_restart]; (repeat (first | rfl | rw [if_pos (by omega)] | rw [if_neg (by omega)])); try (exfalso; omega)) (by omega)
    · obtain ⟨hq, ep⟩ := hp (by omega)
      unfold okP at hq
      refine x_iload_n B dX7_restart_28 rfl ?_
      refine x_iconst B dX7_restart_29 ?_
      refine x_icmp_eq (tgt := 46) B dX7_restart_30 (by decide) (by omega) (by omega) (fun c30 => ?_) (fun c30 => ?_)
      · refine x_aload_n B dX7_restart_46 rfl ?_
        refine x_mN B mvX7_44 (fun l => c_X7_keep (by omega)) dX7_restart_47 rfl rfl (by decide) (by decide) (Nat.le_of_ble_eq_true rfl) PM.rv ?_
        refine x_aload_n B dX7_restart_50 rfl ?_
        refine x_iload_n B dX7_restart_51 rfl ?_
        refine x_iconst B dX7_restart_52 ?_
        refine x_iconst B dX7_restart_53 ?_
        refine x_mN B mvX7_54 (fun l => c_X7_put (by omega) (by omega)) dX7_restart_54 rfl rfl (by decide) (by decide) (Nat.le_of_ble_eq_true rfl) PM.rv ?_
        refine x_aload_n B dX7_restart_57 rfl ?_
        refine x_iload_n B dX7_restart_58 rfl ?_
        refine x_bipush B dX7_restart_59 (by decide) ?_
        refine x_aload_n B dX7_restart_61 rfl ?_
        refine x_iload_n B dX7_restart_62 rfl ?_
        refine x_mV B mvX7_164 (fun l => c_X7_phaseNow (by omega) (by omega) (by omega) (by omega)) dX7_restart_63 rfl rfl (by decide) (by decide) (Nat.le_of_ble_eq_true rfl) PM.rv (fun r63 => ?_)
        refine x_sV B msX7_143 (fun l => c_X7_markOf (by (rw [e6, ep]; omega))) dX7_restart_66 rfl rfl (by decide) (by decide) (Nat.le_of_ble_eq_true rfl) (fun r66 => ?_)
        refine x_iconst B dX7_restart_69 ?_
        refine x_icmp_ne (tgt := 77) B dX7_restart_70 (by decide) (by omega) (by omega) (fun c70 => ?_) (fun c70 => ?_)
        · refine x_aload_n B dX7_restart_77 rfl ?_
          refine x_iload_n B dX7_restart_78 rfl ?_
          refine x_bipush B dX7_restart_79 (by decide) ?_
          refine x_mV B mvX7_40 (fun l => c_X7_of (by omega)) dX7_restart_81 rfl rfl (by decide) (by decide) (Nat.le_of_ble_eq_true rfl) PM.rv (fun r81 => ?_)
          exact tail c5 c25 (by omega) _ (by omega) (by first | rw [if_pos (by omega)] | rw [if_neg (by omega)])
        · refine x_iconst B dX7_restart_73 ?_
          refine x_goto (tgt := 84) B dX7_restart_74 (by decide) ?_
          exact tail c5 c25 (by omega) _ (by omega) (by first | rw [if_pos (by omega)] | rw [if_neg (by omega)])
      · refine x_aload_n B dX7_restart_33 rfl ?_
        refine x_iload_n B dX7_restart_34 rfl ?_
        refine x_iconst B dX7_restart_35 ?_
        refine x_mV B mvX7_51 (fun l => c_X7_ofUnit (by omega)) dX7_restart_36 rfl rfl (by decide) (by decide) (Nat.le_of_ble_eq_true rfl) PM.rv (fun r36 => ?_)
        refine x_iconst B dX7_restart_39 ?_
        refine x_icmp_ne (tgt := 46) B dX7_restart_40 (by decide) (by omega) (by omega) (fun c40 => ?_) (fun c40 => ?_)
        · refine x_aload_n B dX7_restart_46 rfl ?_
          refine x_mN B mvX7_44 (fun l => c_X7_keep (by omega)) dX7_restart_47 rfl rfl (by decide) (by decide) (Nat.le_of_ble_eq_true rfl) PM.rv ?_
          refine x_aload_n B dX7_restart_50 rfl ?_
          refine x_iload_n B dX7_restart_51 rfl ?_
          refine x_iconst B dX7_restart_52 ?_
          refine x_iconst B dX7_restart_53 ?_
          refine x_mN B mvX7_54 (fun l => c_X7_put (by omega) (by omega)) dX7_restart_54 rfl rfl (by decide) (by decide) (Nat.le_of_ble_eq_true rfl) PM.rv ?_
          refine x_aload_n B dX7_restart_57 rfl ?_
          refine x_iload_n B dX7_restart_58 rfl ?_
          refine x_bipush B dX7_restart_59 (by decide) ?_
          refine x_aload_n B dX7_restart_61 rfl ?_
          refine x_iload_n B dX7_restart_62 rfl ?_
          refine x_mV B mvX7_164 (fun l => c_X7_phaseNow (by omega) (by omega) (by omega) (by omega)) dX7_restart_63 rfl rfl (by decide) (by decide) (Nat.le_of_ble_eq_true rfl) PM.rv (fun r63 => ?_)
          refine x_sV B msX7_143 (fun l => c_X7_markOf (by (rw [e6, ep]; omega))) dX7_restart_66 rfl rfl (by decide) (by decide) (Nat.le_of_ble_eq_true rfl) (fun r66 => ?_)
          refine x_iconst B dX7_restart_69 ?_
          refine x_icmp_ne (tgt := 77) B dX7_restart_70 (by decide) (by omega) (by omega) (fun c70 => ?_) (fun c70 => ?_)
          · refine x_aload_n B dX7_restart_77 rfl ?_
            refine x_iload_n B dX7_restart_78 rfl ?_
            refine x_bipush B dX7_restart_79 (by decide) ?_
            refine x_mV B mvX7_40 (fun l => c_X7_of (by omega)) dX7_restart_81 rfl rfl (by decide) (by decide) (Nat.le_of_ble_eq_true rfl) PM.rv (fun r81 => ?_)
            exact tail c5 c25 (by omega) _ (by omega) (by first | rw [if_pos (by omega)] | rw [if_neg (by omega)])
          · refine x_iconst B dX7_restart_73 ?_
            refine x_goto (tgt := 84) B dX7_restart_74 (by decide) ?_
            exact tail c5 c25 (by omega) _ (by omega) (by first | rw [if_pos (by omega)] | rw [if_neg (by omega)])
        · refine x_bipush B dX7_restart_43 (by decide) ?_
          exact x_retO B R dX7_restart_45 (by simp only [o_restart]; (repeat (first | rfl | rw [if_pos (by omega)] | rw [if_neg (by omega)])); try (exfalso; omega)) (by omega)
  · refine x_iconst B dX7_restart_8 ?_
    exact x_retO B R dX7_restart_9 (by simp only [o_restart]; (repeat (first | rfl | rw [if_pos (by omega)] | rw [if_neg (by omega)])); try (exfalso; omega)) (by omega)

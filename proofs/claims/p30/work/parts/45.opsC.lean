/-! ===== the executive's public methods that the present State answers ===== -/
theorem IL.x {m : Int → Int} {ρ : Nat → Int → Int} (h : IL m ρ) : Iv m (12 * m 1) ∧ (0 ≤ ρ 5 0 ∧ ρ 5 0 ≤ 4) ∧ ∀ u, 0 ≤ u → u < m 2 → 0 ≤ m (5 + 6 * u + 3) ∧ m (5 + 6 * u + 3) ≤ 1 := by
  refine ⟨h.1, h.2.2.1.1, fun u u0 u1 => ?_⟩
  have hu := h.1.u u0 u1
  unfold okU at hu
  omega
theorem x_RE {Γ : xE} {G : xG} {e kc ks pc : Nat} {β : Nat → Int → Int} {m od : Int → Int} {oc : Int} {q : Nat} {F : Nat → Option Nat} {T : Int → Int} {pc0 rs pl at_ : Int} {vs : Nat → Int → Int} {S : Int → Int → Int} {ρ : Nat → Int → Int} {L : List (Nat × Value)} {st : List Value} (hw : okW e q F T S ρ) (hr : 0 ≤ ρ 5 0 ∧ ρ 5 0 ≤ 4) (k : ∀ q' F' S', okW e q' F' T S' (s_keep m ρ) → XJ Γ kc ks (EX G e β m od oc q' F' T (s_keep m ρ 5 1) pc0 rs pl at_ vs (s_keep m ρ 5 0) S') pc L st) : XJ Γ kc ks (RE G e β m od oc T (ρ 5 1) pc0 rs pl at_ vs (ρ 5 0) S) pc L st := by
  refine x_ex (ι := Nat × (Nat → Option Nat) × (Int → Int → Int)) (P' := fun i H => EX G e β m od oc i.1 i.2.1 T (ρ 5 1) pc0 rs pl at_ vs (if ρ 5 0 = 4 then 4 else ρ 5 0 + 1) i.2.2 H ∧ (∀ k : Nat, k < 4 → i.2.1 k = some (pA e i.1 k)) ∧ ∀ j, 0 ≤ j → j < (if ρ 5 0 = 4 then 4 else ρ 5 0 + 1) → i.2.2 j = if j = (if ρ 5 0 = 4 then 4 else ρ 5 0 + 1) - 1 then m else S (if ρ 5 0 = 4 then j + 1 else j)) (fun H h => by obtain ⟨q', F', S', h1, h2⟩ := h; exact ⟨(q', F', S'), h1, h2⟩) (fun i => ?_)
  obtain ⟨q', F', S'⟩ := i
  refine x_fact (fun H h => h.2) (fun hh => ?_)
  obtain ⟨h1, h2⟩ := hh
  have e0 := keep_n (m := m) (ρ := ρ)
  have e1 := keep_2 (m := m) (ρ := ρ)
  have t := k q' F' S' ⟨h1, by rw [e1.1]; exact hw.2.1, fun i i0 i1 k k0 k1 => by
    rw [keep_sv hr i0 i1 k0 k1]
    have i2 := i1
    rw [e0] at i2 ⊢
    simp only at h2
    rw [h2 i i0 i2]
    by_cases c : i = (if ρ 5 0 = 4 then 4 else ρ 5 0 + 1) - 1
    · rw [if_pos c, if_pos c]
    · rw [if_neg c, if_neg c]
      refine hw.2.2 _ ?_ ?_ k k0 k1
      · split <;> omega
      · by_cases d : ρ 5 0 = 4
        · rw [if_pos d] at *; omega
        · rw [if_neg d] at *; omega⟩
  rw [e0, e1.2] at t
  exact x_weak (fun H h => h.1) t
section OPC
variable {G : xG} {l : Launch} {e : Nat} {m : Int → Int} {ρ : Nat → Int → Int}
theorem c_X6_unit {x y : Int} (hI : IL m ρ) (h3 : -2147483648 ≤ x ∧ x < 2147483648) (h4 : -2147483648 ≤ y ∧ y < 2147483648) : CT G l yX6_unit cX6_unit 3 (some .int) ({ frames := 4, cells := 0, slots := 0, locals := 97 } : Room) 0 0 [.ref e, vi x, vi y] (PE G e m ρ) (pI (o_unit m ρ x y).1 (PE G e (o_unit m ρ x y).2.1 (o_unit m ρ x y).2.2)) (AE e) := by
  refine x_met1 (own := RX6) (nm := "unit") (L := [(0, .ref e), (1, vi x), (2, vi y)]) (by decide) rfl rfl (fun _ => rfl) (Nat.le_of_ble_eq_true rfl) rfl rfl ?_
  intro Γ B R
  obtain ⟨hV, hr, hb⟩ := hI.x
  have hn := hV.n
  refine x_PE (fun β od oc q F T pc0 rs pl at_ vs S hw hm => ?_)
  refine x_iload_n B dX6_unit_0 rfl ?_
  refine x_iconst B dX6_unit_1 ?_
  refine x_iconst B dX6_unit_2 ?_
  refine x_sZ B msX6_39 (fun l => c_X6_isWithin (by omega) (by omega) (by omega)) dX6_unit_3 rfl rfl (by decide) (by decide) (Nat.le_of_ble_eq_true rfl) ?_
  refine x_ifz_eq (tgt := 20) B dX6_unit_6 (by decide) (fun c6 => ?_) (fun c6 => ?_)
  · refine x_iconst B dX6_unit_20 ?_
    exact x_retE B R dX6_unit_21 (by simp only [o_unit]; (repeat (first | rfl | rw [if_pos (by omega)] | rw [if_neg (by omega)])); try (exfalso; omega)) (by omega) rfl rfl (by assumption)
  · refine x_iload_n B dX6_unit_9 rfl ?_
    refine x_iconst B dX6_unit_10 ?_
    refine x_sipush B dX6_unit_11 (by decide) ?_
    refine x_sZ B msX6_39 (fun l => c_X6_isWithin (by omega) (by omega) (by omega)) dX6_unit_14 rfl rfl (by decide) (by decide) (Nat.le_of_ble_eq_true rfl) ?_
    refine x_ifz_ne (tgt := 22) B dX6_unit_17 (by decide) (fun c17 => ?_) (fun c17 => ?_)
    · refine x_aload_n B dX6_unit_22 rfl ?_
      refine x_get B fgX6_28 dX6_unit_23 (fun _ h => ⟨_, EX.o h, rfl⟩) ?_
      refine x_getI B fgX6_43 dX6_unit_26 (EX.lf PS.g7) (fun r26 => ?_)
      refine x_bipush B dX6_unit_29 (by decide) ?_
      refine x_icmp_lt (tgt := 37) B dX6_unit_31 (by decide) (by omega) (by omega) (fun c31 => ?_) (fun c31 => ?_)
      · refine x_aload_n B dX6_unit_37 rfl ?_
        refine x_mN B mvX6_47 (fun l => c_X6_record hw.1 hb) dX6_unit_38 rfl rfl (by decide) (by decide) (Nat.le_of_ble_eq_true rfl) EX.rv ?_
        refine x_RE hw hr (fun q' F' S' hw' => ?_)
        refine x_aload_n B dX6_unit_41 rfl ?_
        refine x_get B fgX6_28 dX6_unit_42 (fun _ h => ⟨_, EX.o h, rfl⟩) ?_
        refine x_iload_n B dX6_unit_45 rfl ?_
        refine x_iload_n B dX6_unit_46 rfl ?_
        refine x_fV B mvX6_50 (fun l => c_X3_addUnit (by omega) (by omega) (by omega)) dX6_unit_47 rfl rfl (by decide) (by decide) (Nat.le_of_ble_eq_true rfl) EX.faP EX.fbP EX.fcP (fun r47 => ?_)
        exact x_retE B R dX6_unit_50 (by simp only [o_unit]; (repeat (first | rfl | rw [if_pos (by omega)] | rw [if_neg (by omega)])); try (exfalso; omega)) (by omega) rfl rfl (by assumption)
      · refine x_bipush B dX6_unit_34 (by decide) ?_
        exact x_retE B R dX6_unit_36 (by simp only [o_unit]; (repeat (first | rfl | rw [if_pos (by omega)] | rw [if_neg (by omega)])); try (exfalso; omega)) (by omega) rfl rfl (by assumption)
    · refine x_iconst B dX6_unit_20 ?_
      exact x_retE B R dX6_unit_21 (by simp only [o_unit]; (repeat (first | rfl | rw [if_pos (by omega)] | rw [if_neg (by omega)])); try (exfalso; omega)) (by omega) rfl rfl (by assumption)
theorem c_X6_shared {x : Int} (hI : IL m ρ) (h3 : -2147483648 ≤ x ∧ x < 2147483648) : CT G l yX6_shared cX6_shared 2 (some .int) ({ frames := 2, cells := 0, slots := 0, locals := 42 } : Room) 0 0 [.ref e, vi x] (PE G e m ρ) (pI (o_shared m ρ x).1 (PE G e (o_shared m ρ x).2.1 (o_shared m ρ x).2.2)) (AE e) := by
  refine x_met1 (own := RX6) (nm := "shared") (L := [(0, .ref e), (1, vi x)]) (by decide) rfl rfl (fun _ => rfl) (Nat.le_of_ble_eq_true rfl) rfl rfl ?_
  intro Γ B R
  obtain ⟨hV, hr, hb⟩ := hI.x
  have hn := hV.n
  refine x_PE (fun β od oc q F T pc0 rs pl at_ vs S hw hm => ?_)
  refine x_iload_n B dX6_shared_0 rfl ?_
  refine x_sZ B msX6_101 (fun l => c_X6_isPiece (by omega)) dX6_shared_1 rfl rfl (by decide) (by decide) (Nat.le_of_ble_eq_true rfl) ?_
  refine x_ifz_ne (tgt := 9) B dX6_shared_4 (by decide) (fun c4 => ?_) (fun c4 => ?_)
  · refine x_aload_n B dX6_shared_9 rfl ?_
    refine x_get B fgX6_28 dX6_shared_10 (fun _ h => ⟨_, EX.o h, rfl⟩) ?_
    refine x_get B fgX6_104 dX6_shared_13 (EX.lf (fun _ h => ⟨_, PS.o h, rfl⟩)) ?_
    refine x_iload_n B dX6_shared_16 rfl ?_
    refine x_ialdR B dX6_shared_17 (by omega) (by decide) (EX.lf PS.ah) (fun r17 => ?_)
    refine x_sV B msX6_72 (fun l => c_X6_orNotFound (by omega)) dX6_shared_18 rfl rfl (by decide) (by decide) (Nat.le_of_ble_eq_true rfl) (fun r18 => ?_)
    exact x_retE B R dX6_shared_21 (by simp only [o_shared]; rw [if_neg (by omega)]; split <;> rfl) (by omega) rfl rfl (by assumption)
  · refine x_iconst B dX6_shared_7 ?_
    exact x_retE B R dX6_shared_8 (by simp only [o_shared]; (repeat (first | rfl | rw [if_pos (by omega)] | rw [if_neg (by omega)])); try (exfalso; omega)) (by omega) rfl rfl (by assumption)
theorem c_X6_setCleaning {x : Int} (hI : IL m ρ) (h3 : -2147483648 ≤ x ∧ x < 2147483648) : CT G l yX6_setCleaning cX6_setCleaning 3 (some .int) ({ frames := 4, cells := 0, slots := 0, locals := 97 } : Room) 0 0 [.ref e, vi x] (PE G e m ρ) (pI (o_setCleaning m ρ x).1 (PE G e (o_setCleaning m ρ x).2.1 (o_setCleaning m ρ x).2.2)) (AE e) := by
  refine x_met1 (own := RX6) (nm := "setCleaning") (L := [(0, .ref e), (1, vi x)]) (by decide) rfl rfl (fun _ => rfl) (Nat.le_of_ble_eq_true rfl) rfl rfl ?_
  intro Γ B R
  obtain ⟨hV, hr, hb⟩ := hI.x
  have hn := hV.n
  refine x_PE (fun β od oc q F T pc0 rs pl at_ vs S hw hm => ?_)
  refine x_iload_n B dX6_setCleaning_0 rfl ?_
  refine x_iconst B dX6_setCleaning_1 ?_
  refine x_bipush B dX6_setCleaning_2 (by decide) ?_
  refine x_sZ B msX6_39 (fun l => c_X6_isWithin (by omega) (by omega) (by omega)) dX6_setCleaning_4 rfl rfl (by decide) (by decide) (Nat.le_of_ble_eq_true rfl) ?_
  refine x_ifz_ne (tgt := 12) B dX6_setCleaning_7 (by decide) (fun c7 => ?_) (fun c7 => ?_)
  · refine x_aload_n B dX6_setCleaning_12 rfl ?_
    refine x_mN B mvX6_47 (fun l => c_X6_record hw.1 hb) dX6_setCleaning_13 rfl rfl (by decide) (by decide) (Nat.le_of_ble_eq_true rfl) EX.rv ?_
    refine x_RE hw hr (fun q' F' S' hw' => ?_)
    refine x_aload_n B dX6_setCleaning_16 rfl ?_
    refine x_get B fgX6_28 dX6_setCleaning_17 (fun _ h => ⟨_, EX.o h, rfl⟩) ?_
    refine x_getI B fgX6_108 dX6_setCleaning_20 (EX.lf PS.g11) (fun r20 => ?_)
    refine x_istore_n B dX6_setCleaning_23 (by decide) ?_
    refine x_aload_n B dX6_setCleaning_24 rfl ?_
    refine x_get B fgX6_28 dX6_setCleaning_25 (fun _ h => ⟨_, EX.o h, rfl⟩) ?_
    refine x_iload_n B dX6_setCleaning_28 rfl ?_
    refine x_put B fpX6_108 dX6_setCleaning_29 rfl rfl (by unfold AE; (try unfold uA); (try unfold bA); omega) (EX.lp (by (try unfold uA); (try unfold bA); omega) (PS.p11 (by omega))) ?_
    refine x_iload_n B dX6_setCleaning_32 rfl ?_
    exact x_retE B R dX6_setCleaning_33 (by simp only [o_setCleaning]; (repeat (first | rfl | rw [if_pos (by omega)] | rw [if_neg (by omega)])); try (exfalso; omega)) (by omega) rfl rfl (by assumption)
  · refine x_iconst B dX6_setCleaning_10 ?_
    exact x_retE B R dX6_setCleaning_11 (by simp only [o_setCleaning]; (repeat (first | rfl | rw [if_pos (by omega)] | rw [if_neg (by omega)])); try (exfalso; omega)) (by omega) rfl rfl (by assumption)
theorem c_X6_versions {x : Int} (hI : IL m ρ) (h3 : -2147483648 ≤ x ∧ x < 2147483648) : CT G l yX6_versions cX6_versions 2 (some .int) ({ frames := 2, cells := 0, slots := 0, locals := 42 } : Room) 0 0 [.ref e, vi x] (PE G e m ρ) (pI (o_versions m ρ x).1 (PE G e (o_versions m ρ x).2.1 (o_versions m ρ x).2.2)) (AE e) := by
  refine x_met1 (own := RX6) (nm := "versions") (L := [(0, .ref e), (1, vi x)]) (by decide) rfl rfl (fun _ => rfl) (Nat.le_of_ble_eq_true rfl) rfl rfl ?_
  intro Γ B R
  obtain ⟨hV, hr, hb⟩ := hI.x
  have hn := hV.n
  refine x_PE (fun β od oc q F T pc0 rs pl at_ vs S hw hm => ?_)
  refine x_iload_n B dX6_versions_0 rfl ?_
  refine x_sZ B msX6_109 (fun l => c_X6_isRecipe (by omega)) dX6_versions_1 rfl rfl (by decide) (by decide) (Nat.le_of_ble_eq_true rfl) ?_
  refine x_ifz_eq (tgt := 19) B dX6_versions_4 (by decide) (fun c4 => ?_) (fun c4 => ?_)
  · refine x_iconst B dX6_versions_19 ?_
    exact x_retE B R dX6_versions_20 (by simp only [o_versions]; (repeat (first | rfl | rw [if_pos (by omega)] | rw [if_neg (by omega)])); try (exfalso; omega)) (by omega) rfl rfl (by assumption)
  · refine x_aload_n B dX6_versions_7 rfl ?_
    refine x_get B fgX6_28 dX6_versions_8 (fun _ h => ⟨_, EX.o h, rfl⟩) ?_
    refine x_get B fgX6_118 dX6_versions_11 (EX.lf (fun _ h => ⟨_, PS.o h, rfl⟩)) ?_
    refine x_iload_n B dX6_versions_14 rfl ?_
    refine x_ialdR B dX6_versions_15 (by omega) (by decide) (EX.lf PS.av) (fun r15 => ?_)
    refine x_goto (tgt := 20) B dX6_versions_16 (by decide) ?_
    exact x_retE B R dX6_versions_20 (by simp only [o_versions]; (repeat (first | rfl | rw [if_pos (by omega)] | rw [if_neg (by omega)])); try (exfalso; omega)) (by omega) rfl rfl (by assumption)
theorem c_X6_start {x : Int} (hI : IL m ρ) (h3 : -2147483648 ≤ x ∧ x < 2147483648) : CT G l yX6_start cX6_start 2 (some .int) ({ frames := 4, cells := 0, slots := 0, locals := 97 } : Room) 0 0 [.ref e, vi x] (PE G e m ρ) (pI (o_start m ρ x).1 (PE G e (o_start m ρ x).2.1 (o_start m ρ x).2.2)) (AE e) := by
  refine x_met1 (own := RX6) (nm := "start") (L := [(0, .ref e), (1, vi x)]) (by decide) rfl rfl (fun _ => rfl) (Nat.le_of_ble_eq_true rfl) rfl rfl ?_
  intro Γ B R
  obtain ⟨hV, hr, hb⟩ := hI.x
  have hn := hV.n
  refine x_PE (fun β od oc q F T pc0 rs pl at_ vs S hw hm => ?_)
  refine x_aload_n B dX6_start_0 rfl ?_
  refine x_iload_n B dX6_start_1 rfl ?_
  refine x_mZ B mvX6_135 (fun l => c_X6_isBatch (by omega) (by omega)) dX6_start_2 rfl rfl (by decide) (by decide) (Nat.le_of_ble_eq_true rfl) EX.rv ?_
  refine x_ifz_ne (tgt := 10) B dX6_start_5 (by decide) (fun c5 => ?_) (fun c5 => ?_)
  · have e3 : up m (548 + 10 * x + 5) 1 3 = m 3 := up_ne (by omega)
    refine x_aload_n B dX6_start_10 rfl ?_
    refine x_get B fgX6_28 dX6_start_11 (fun _ h => ⟨_, EX.o h, rfl⟩) ?_
    refine x_get B fgX6_148 dX6_start_14 (EX.lf (fun _ h => ⟨_, PS.o h, rfl⟩)) ?_
    refine x_iload_n B dX6_start_17 rfl ?_
    refine x_aald (j := 4) B dX6_start_18 rfl (by omega) (by decide) (EX.lf (PS.ab (by omega))) ?_
    refine x_getI B fgX6_152 dX6_start_19 (EX.lf (PS.gb5 (by omega))) (fun r19 => ?_)
    refine x_if_eq (tgt := 28) B dX6_start_22 (by decide) (by omega) (fun c22 => ?_) (fun c22 => ?_)
    · refine x_aload_n B dX6_start_28 rfl ?_
      refine x_mN B mvX6_47 (fun l => c_X6_record hw.1 hb) dX6_start_29 rfl rfl (by decide) (by decide) (Nat.le_of_ble_eq_true rfl) EX.rv ?_
      refine x_RE hw hr (fun q' F' S' hw' => ?_)
      refine x_aload_n B dX6_start_32 rfl ?_
      refine x_get B fgX6_28 dX6_start_33 (fun _ h => ⟨_, EX.o h, rfl⟩) ?_
      refine x_get B fgX6_148 dX6_start_36 (EX.lf (fun _ h => ⟨_, PS.o h, rfl⟩)) ?_
      refine x_iload_n B dX6_start_39 rfl ?_
      refine x_aald (j := 4) B dX6_start_40 rfl (by omega) (by decide) (EX.lf (PS.ab (by omega))) ?_
      refine x_iconst B dX6_start_41 ?_
      refine x_put B fpX6_152 dX6_start_42 rfl rfl (by unfold AE; (try unfold uA); (try unfold bA); omega) (EX.lp (by (try unfold uA); (try unfold bA); omega) (PS.pb5 (by omega) (by omega))) ?_
      refine x_aload_n B dX6_start_45 rfl ?_
      refine x_get B fgX6_28 dX6_start_46 (fun _ h => ⟨_, EX.o h, rfl⟩) ?_
      refine x_iconst B dX6_start_49 ?_
      refine x_fV B mvX6_157 (fun l => c_X3_batchesIn (by omega) (by omega)) dX6_start_50 rfl rfl (by decide) (by decide) (Nat.le_of_ble_eq_true rfl) EX.faP EX.fbP EX.fcP (fun r50 => ?_)
      exact x_retE B R dX6_start_53 (by simp only [o_start]; (repeat (first | rfl | rw [if_pos (by omega)] | rw [if_neg (by omega)])); try (exfalso; omega)) (by omega) rfl rfl (by assumption)
    · refine x_bipush B dX6_start_25 (by decide) ?_
      exact x_retE B R dX6_start_27 (by simp only [o_start]; (repeat (first | rfl | rw [if_pos (by omega)] | rw [if_neg (by omega)])); try (exfalso; omega)) (by omega) rfl rfl (by assumption)
  · refine x_iconst B dX6_start_8 ?_
    exact x_retE B R dX6_start_9 (by simp only [o_start]; (repeat (first | rfl | rw [if_pos (by omega)] | rw [if_neg (by omega)])); try (exfalso; omega)) (by omega) rfl rfl (by assumption)
theorem c_X6_hold {x : Int} (hI : IL m ρ) (h3 : -2147483648 ≤ x ∧ x < 2147483648) : CT G l yX6_hold cX6_hold 2 (some .int) ({ frames := 4, cells := 0, slots := 0, locals := 97 } : Room) 0 0 [.ref e, vi x] (PE G e m ρ) (pI (o_hold m ρ x).1 (PE G e (o_hold m ρ x).2.1 (o_hold m ρ x).2.2)) (AE e) := by
  refine x_met1 (own := RX6) (nm := "hold") (L := [(0, .ref e), (1, vi x)]) (by decide) rfl rfl (fun _ => rfl) (Nat.le_of_ble_eq_true rfl) rfl rfl ?_
  intro Γ B R
  obtain ⟨hV, hr, hb⟩ := hI.x
  have hn := hV.n
  refine x_PE (fun β od oc q F T pc0 rs pl at_ vs S hw hm => ?_)
  refine x_aload_n B dX6_hold_0 rfl ?_
  refine x_iload_n B dX6_hold_1 rfl ?_
  refine x_mZ B mvX6_135 (fun l => c_X6_isBatch (by omega) (by omega)) dX6_hold_2 rfl rfl (by decide) (by decide) (Nat.le_of_ble_eq_true rfl) EX.rv ?_
  refine x_ifz_ne (tgt := 10) B dX6_hold_5 (by decide) (fun c5 => ?_) (fun c5 => ?_)
  · have e3 : s_holds m x 3 = m 3 := s_holds_ne (by omega) (by omega) (by omega) (by omega) (by omega)
    refine x_aload_n B dX6_hold_10 rfl ?_
    refine x_get B fgX6_28 dX6_hold_11 (fun _ h => ⟨_, EX.o h, rfl⟩) ?_
    refine x_get B fgX6_148 dX6_hold_14 (EX.lf (fun _ h => ⟨_, PS.o h, rfl⟩)) ?_
    refine x_iload_n B dX6_hold_17 rfl ?_
    refine x_aald (j := 4) B dX6_hold_18 rfl (by omega) (by decide) (EX.lf (PS.ab (by omega))) ?_
    refine x_mZ B mvX6_160 (fun l => c_X0_isActive (EX.lf (PS.ob (by omega))) hm) dX6_hold_19 rfl rfl (by decide) (by decide) (Nat.le_of_ble_eq_true rfl) (EX.lf (PS.rvB (by omega))) ?_
    refine x_ifz_ne (tgt := 28) B dX6_hold_22 (by decide) (fun c22 => ?_) (fun c22 => ?_)
    · refine x_aload_n B dX6_hold_28 rfl ?_
      refine x_mN B mvX6_47 (fun l => c_X6_record hw.1 hb) dX6_hold_29 rfl rfl (by decide) (by decide) (Nat.le_of_ble_eq_true rfl) EX.rv ?_
      refine x_RE hw hr (fun q' F' S' hw' => ?_)
      refine x_aload_n B dX6_hold_32 rfl ?_
      refine x_get B fgX6_28 dX6_hold_33 (fun _ h => ⟨_, EX.o h, rfl⟩) ?_
      refine x_iload_n B dX6_hold_36 rfl ?_
      refine x_fN B mvX6_164 (fun l => c_X3_holdBatch (by omega) (by omega)) dX6_hold_37 rfl rfl (by decide) (by decide) (Nat.le_of_ble_eq_true rfl) EX.faP EX.fbP EX.fcP ?_
      refine x_aload_n B dX6_hold_40 rfl ?_
      refine x_get B fgX6_28 dX6_hold_41 (fun _ h => ⟨_, EX.o h, rfl⟩) ?_
      refine x_iconst B dX6_hold_44 ?_
      refine x_fV B mvX6_157 (fun l => c_X3_batchesIn (by omega) (by omega)) dX6_hold_45 rfl rfl (by decide) (by decide) (Nat.le_of_ble_eq_true rfl) EX.faP EX.fbP EX.fcP (fun r45 => ?_)
      exact x_retE B R dX6_hold_48 (by simp only [o_hold]; (repeat (first | rfl | rw [if_pos (by omega)] | rw [if_neg (by omega)])); try (exfalso; omega)) (by omega) rfl rfl (by assumption)
    · refine x_bipush B dX6_hold_25 (by decide) ?_
      exact x_retE B R dX6_hold_27 (by simp only [o_hold]; (repeat (first | rfl | rw [if_pos (by omega)] | rw [if_neg (by omega)])); try (exfalso; omega)) (by omega) rfl rfl (by assumption)
  · refine x_iconst B dX6_hold_8 ?_
    exact x_retE B R dX6_hold_9 (by simp only [o_hold]; (repeat (first | rfl | rw [if_pos (by omega)] | rw [if_neg (by omega)])); try (exfalso; omega)) (by omega) rfl rfl (by assumption)
theorem c_X6_priority {x y : Int} (hI : IL m ρ) (h3 : -2147483648 ≤ x ∧ x < 2147483648) (h4 : -2147483648 ≤ y ∧ y < 2147483648) : CT G l yX6_priority cX6_priority 4 (some .int) ({ frames := 4, cells := 0, slots := 0, locals := 97 } : Room) 0 0 [.ref e, vi x, vi y] (PE G e m ρ) (pI (o_priority m ρ x y).1 (PE G e (o_priority m ρ x y).2.1 (o_priority m ρ x y).2.2)) (AE e) := by
  refine x_met1 (own := RX6) (nm := "priority") (L := [(0, .ref e), (1, vi x), (2, vi y)]) (by decide) rfl rfl (fun _ => rfl) (Nat.le_of_ble_eq_true rfl) rfl rfl ?_
  intro Γ B R
  obtain ⟨hV, hr, hb⟩ := hI.x
  have hn := hV.n
  refine x_PE (fun β od oc q F T pc0 rs pl at_ vs S hw hm => ?_)
  refine x_aload_n B dX6_priority_0 rfl ?_
  refine x_iload_n B dX6_priority_1 rfl ?_
  refine x_mZ B mvX6_135 (fun l => c_X6_isBatch (by omega) (by omega)) dX6_priority_2 rfl rfl (by decide) (by decide) (Nat.le_of_ble_eq_true rfl) EX.rv ?_
  refine x_ifz_eq (tgt := 15) B dX6_priority_5 (by decide) (fun c5 => ?_) (fun c5 => ?_)
  · refine x_iconst B dX6_priority_15 ?_
    exact x_retE B R dX6_priority_16 (by simp only [o_priority]; (repeat (first | rfl | rw [if_pos (by omega)] | rw [if_neg (by omega)])); try (exfalso; omega)) (by omega) rfl rfl (by assumption)
  · refine x_iload_n B dX6_priority_8 rfl ?_
    refine x_sZ B msX6_132 (fun l => c_X6_isPriority (by omega)) dX6_priority_9 rfl rfl (by decide) (by decide) (Nat.le_of_ble_eq_true rfl) ?_
    refine x_ifz_ne (tgt := 17) B dX6_priority_12 (by decide) (fun c12 => ?_) (fun c12 => ?_)
    · refine x_aload_n B dX6_priority_17 rfl ?_
      refine x_mN B mvX6_47 (fun l => c_X6_record hw.1 hb) dX6_priority_18 rfl rfl (by decide) (by decide) (Nat.le_of_ble_eq_true rfl) EX.rv ?_
      refine x_RE hw hr (fun q' F' S' hw' => ?_)
      refine x_aload_n B dX6_priority_21 rfl ?_
      refine x_get B fgX6_28 dX6_priority_22 (fun _ h => ⟨_, EX.o h, rfl⟩) ?_
      refine x_get B fgX6_148 dX6_priority_25 (EX.lf (fun _ h => ⟨_, PS.o h, rfl⟩)) ?_
      refine x_iload_n B dX6_priority_28 rfl ?_
      refine x_aald (j := 4) B dX6_priority_29 rfl (by omega) (by decide) (EX.lf (PS.ab (by omega))) ?_
      refine x_getI B fgX6_186 dX6_priority_30 (EX.lf (PS.gb3 (by omega))) (fun r30 => ?_)
      refine x_istore_n B dX6_priority_33 (by decide) ?_
      refine x_aload_n B dX6_priority_34 rfl ?_
      refine x_get B fgX6_28 dX6_priority_35 (fun _ h => ⟨_, EX.o h, rfl⟩) ?_
      refine x_get B fgX6_148 dX6_priority_38 (EX.lf (fun _ h => ⟨_, PS.o h, rfl⟩)) ?_
      refine x_iload_n B dX6_priority_41 rfl ?_
      refine x_aald (j := 4) B dX6_priority_42 rfl (by omega) (by decide) (EX.lf (PS.ab (by omega))) ?_
      refine x_iload_n B dX6_priority_43 rfl ?_
      refine x_put B fpX6_186 dX6_priority_44 rfl rfl (by unfold AE; (try unfold uA); (try unfold bA); omega) (EX.lp (by (try unfold uA); (try unfold bA); omega) (PS.pb3 (by omega) (by omega))) ?_
      refine x_iload_n B dX6_priority_47 rfl ?_
      exact x_retE B R dX6_priority_48 (by simp only [o_priority]; (repeat (first | rfl | rw [if_pos (by omega)] | rw [if_neg (by omega)])); try (exfalso; omega)) (by omega) rfl rfl (by assumption)
    · refine x_iconst B dX6_priority_15 ?_
      exact x_retE B R dX6_priority_16 (by simp only [o_priority]; (repeat (first | rfl | rw [if_pos (by omega)] | rw [if_neg (by omega)])); try (exfalso; omega)) (by omega) rfl rfl (by assumption)
theorem c_X6_stop {x : Int} (hI : IL m ρ) (h3 : -2147483648 ≤ x ∧ x < 2147483648) : CT G l yX6_stop cX6_stop 3 (some .int) ({ frames := 4, cells := 0, slots := 0, locals := 97 } : Room) 0 0 [.ref e, vi x] (PE G e m ρ) (pI (o_stop m ρ x).1 (PE G e (o_stop m ρ x).2.1 (o_stop m ρ x).2.2)) (AE e) := by
  refine x_met1 (own := RX6) (nm := "stop") (L := [(0, .ref e), (1, vi x)]) (by decide) rfl rfl (fun _ => rfl) (Nat.le_of_ble_eq_true rfl) rfl rfl ?_
  intro Γ B R
  obtain ⟨hV, hr, hb⟩ := hI.x
  have hn := hV.n
  refine x_PE (fun β od oc q F T pc0 rs pl at_ vs S hw hm => ?_)
  refine x_aload_n B dX6_stop_0 rfl ?_
  refine x_iload_n B dX6_stop_1 rfl ?_
  refine x_mZ B mvX6_135 (fun l => c_X6_isBatch (by omega) (by omega)) dX6_stop_2 rfl rfl (by decide) (by decide) (Nat.le_of_ble_eq_true rfl) EX.rv ?_
  refine x_ifz_ne (tgt := 10) B dX6_stop_5 (by decide) (fun c5 => ?_) (fun c5 => ?_)
  · have hbx := hV.b (b := x) (by omega) (by omega)
    unfold okB at hbx
    have e3 : up m (548 + 10 * x + 5) 3 (548 + 10 * x + 5) = 3 := up_eq rfl
    have e4 : s_endsBy m x 4 4 (548 + 10 * x + 5) = 4 := s_endsBy_st (by omega)
    refine x_aload_n B dX6_stop_10 rfl ?_
    refine x_get B fgX6_28 dX6_stop_11 (fun _ h => ⟨_, EX.o h, rfl⟩) ?_
    refine x_get B fgX6_148 dX6_stop_14 (EX.lf (fun _ h => ⟨_, PS.o h, rfl⟩)) ?_
    refine x_iload_n B dX6_stop_17 rfl ?_
    refine x_aald (j := 4) B dX6_stop_18 rfl (by omega) (by decide) (EX.lf (PS.ab (by omega))) ?_
    refine x_getI B fgX6_152 dX6_stop_19 (EX.lf (PS.gb5 (by omega))) (fun r19 => ?_)
    refine x_istore_n B dX6_stop_22 (by decide) ?_
    refine x_iload_n B dX6_stop_23 rfl ?_
    refine x_iconst B dX6_stop_24 ?_
    refine x_icmp_eq (tgt := 36) B dX6_stop_25 (by decide) (by omega) (by omega) (fun c25 => ?_) (fun c25 => ?_)
    · refine x_aload_n B dX6_stop_36 rfl ?_
      refine x_mN B mvX6_47 (fun l => c_X6_record hw.1 hb) dX6_stop_37 rfl rfl (by decide) (by decide) (Nat.le_of_ble_eq_true rfl) EX.rv ?_
      refine x_RE hw hr (fun q' F' S' hw' => ?_)
      refine x_aload_n B dX6_stop_40 rfl ?_
      refine x_get B fgX6_28 dX6_stop_41 (fun _ h => ⟨_, EX.o h, rfl⟩) ?_
      refine x_iload_n B dX6_stop_44 rfl ?_
      refine x_fN B mvX6_177 (fun l => c_X3_stopBatch (by omega) (by omega) (by omega)) dX6_stop_45 rfl rfl (by decide) (by decide) (Nat.le_of_ble_eq_true rfl) EX.faP EX.fbP EX.fcP ?_
      have e33 : (if m (548 + 10 * x + 5) = 1 ∧ 0 < m (548 + 10 * x + 7) then up m (548 + 10 * x + 5) 3 else s_endsBy m x 4 4) 3 = m 3 := by
        split
        · exact up_ne (by omega)
        · exact s_endsBy_ne (by omega) (by omega) (by omega) (by omega) (by omega) (by omega)
      refine x_aload_n B dX6_stop_48 rfl ?_
      refine x_get B fgX6_28 dX6_stop_49 (fun _ h => ⟨_, EX.o h, rfl⟩) ?_
      refine x_get B fgX6_148 dX6_stop_52 (EX.lf (fun _ h => ⟨_, PS.o h, rfl⟩)) ?_
      refine x_iload_n B dX6_stop_55 rfl ?_
      refine x_aald (j := 4) B dX6_stop_56 rfl (by omega) (by decide) (EX.lf (PS.ab (by omega))) ?_
      refine x_getI B fgX6_152 dX6_stop_57 (EX.lf (PS.gb5 (by omega))) (fun r57 => ?_)
      by_cases c : m (548 + 10 * x + 5) = 1 ∧ 0 < m (548 + 10 * x + 7)
      · rw [if_pos c] at *
        refine x_top e3 ?_
        exact x_retE B R dX6_stop_60 (by simp only [o_stop]; rw [if_neg (by omega), if_neg (by omega), if_pos c]) (by omega) rfl rfl (by assumption)
      · rw [if_neg c] at *
        refine x_top e4 ?_
        exact x_retE B R dX6_stop_60 (by simp only [o_stop]; rw [if_neg (by omega), if_neg (by omega), if_neg c]) (by omega) rfl rfl (by assumption)
    · refine x_iload_n B dX6_stop_28 rfl ?_
      refine x_iconst B dX6_stop_29 ?_
      refine x_icmp_eq (tgt := 36) B dX6_stop_30 (by decide) (by omega) (by omega) (fun c30 => ?_) (fun c30 => ?_)
      · refine x_aload_n B dX6_stop_36 rfl ?_
        refine x_mN B mvX6_47 (fun l => c_X6_record hw.1 hb) dX6_stop_37 rfl rfl (by decide) (by decide) (Nat.le_of_ble_eq_true rfl) EX.rv ?_
        refine x_RE hw hr (fun q' F' S' hw' => ?_)
        refine x_aload_n B dX6_stop_40 rfl ?_
        refine x_get B fgX6_28 dX6_stop_41 (fun _ h => ⟨_, EX.o h, rfl⟩) ?_
        refine x_iload_n B dX6_stop_44 rfl ?_
        refine x_fN B mvX6_177 (fun l => c_X3_stopBatch (by omega) (by omega) (by omega)) dX6_stop_45 rfl rfl (by decide) (by decide) (Nat.le_of_ble_eq_true rfl) EX.faP EX.fbP EX.fcP ?_
        have e33 : (if m (548 + 10 * x + 5) = 1 ∧ 0 < m (548 + 10 * x + 7) then up m (548 + 10 * x + 5) 3 else s_endsBy m x 4 4) 3 = m 3 := by
          split
          · exact up_ne (by omega)
          · exact s_endsBy_ne (by omega) (by omega) (by omega) (by omega) (by omega) (by omega)
        refine x_aload_n B dX6_stop_48 rfl ?_
        refine x_get B fgX6_28 dX6_stop_49 (fun _ h => ⟨_, EX.o h, rfl⟩) ?_
        refine x_get B fgX6_148 dX6_stop_52 (EX.lf (fun _ h => ⟨_, PS.o h, rfl⟩)) ?_
        refine x_iload_n B dX6_stop_55 rfl ?_
        refine x_aald (j := 4) B dX6_stop_56 rfl (by omega) (by decide) (EX.lf (PS.ab (by omega))) ?_
        refine x_getI B fgX6_152 dX6_stop_57 (EX.lf (PS.gb5 (by omega))) (fun r57 => ?_)
        by_cases c : m (548 + 10 * x + 5) = 1 ∧ 0 < m (548 + 10 * x + 7)
        · rw [if_pos c] at *
          refine x_top e3 ?_
          exact x_retE B R dX6_stop_60 (by simp only [o_stop]; rw [if_neg (by omega), if_neg (by omega), if_pos c]) (by omega) rfl rfl (by assumption)
        · rw [if_neg c] at *
          refine x_top e4 ?_
          exact x_retE B R dX6_stop_60 (by simp only [o_stop]; rw [if_neg (by omega), if_neg (by omega), if_neg c]) (by omega) rfl rfl (by assumption)
      · refine x_bipush B dX6_stop_33 (by decide) ?_
        exact x_retE B R dX6_stop_35 (by simp only [o_stop]; (repeat (first | rfl | rw [if_pos (by omega)] | rw [if_neg (by omega)])); try (exfalso; omega)) (by omega) rfl rfl (by assumption)
  · refine x_iconst B dX6_stop_8 ?_
    exact x_retE B R dX6_stop_9 (by simp only [o_stop]; (repeat (first | rfl | rw [if_pos (by omega)] | rw [if_neg (by omega)])); try (exfalso; omega)) (by omega) rfl rfl (by assumption)
theorem c_X6_abort {x : Int} (hI : IL m ρ) (h3 : -2147483648 ≤ x ∧ x < 2147483648) : CT G l yX6_abort cX6_abort 2 (some .int) ({ frames := 4, cells := 0, slots := 0, locals := 97 } : Room) 0 0 [.ref e, vi x] (PE G e m ρ) (pI (o_abort m ρ x).1 (PE G e (o_abort m ρ x).2.1 (o_abort m ρ x).2.2)) (AE e) := by
  refine x_met1 (own := RX6) (nm := "abort") (L := [(0, .ref e), (1, vi x)]) (by decide) rfl rfl (fun _ => rfl) (Nat.le_of_ble_eq_true rfl) rfl rfl ?_
  intro Γ B R
  obtain ⟨hV, hr, hb⟩ := hI.x
  have hn := hV.n
  refine x_PE (fun β od oc q F T pc0 rs pl at_ vs S hw hm => ?_)
  refine x_aload_n B dX6_abort_0 rfl ?_
  refine x_iload_n B dX6_abort_1 rfl ?_
  refine x_mZ B mvX6_135 (fun l => c_X6_isBatch (by omega) (by omega)) dX6_abort_2 rfl rfl (by decide) (by decide) (Nat.le_of_ble_eq_true rfl) EX.rv ?_
  refine x_ifz_ne (tgt := 10) B dX6_abort_5 (by decide) (fun c5 => ?_) (fun c5 => ?_)
  · have hbx := hV.b (b := x) (by omega) (by omega)
    unfold okB at hbx
    refine x_aload_n B dX6_abort_10 rfl ?_
    refine x_get B fgX6_28 dX6_abort_11 (fun _ h => ⟨_, EX.o h, rfl⟩) ?_
    refine x_get B fgX6_148 dX6_abort_14 (EX.lf (fun _ h => ⟨_, PS.o h, rfl⟩)) ?_
    refine x_iload_n B dX6_abort_17 rfl ?_
    refine x_aald (j := 4) B dX6_abort_18 rfl (by omega) (by decide) (EX.lf (PS.ab (by omega))) ?_
    refine x_mZ B mvX6_180 (fun l => c_X0_isAtEnd (EX.lf (PS.ob (by omega))) hm (by omega)) dX6_abort_19 rfl rfl (by decide) (by decide) (Nat.le_of_ble_eq_true rfl) (EX.lf (PS.rvB (by omega))) ?_
    refine x_ifz_eq (tgt := 28) B dX6_abort_22 (by decide) (fun c22 => ?_) (fun c22 => ?_)
    · refine x_aload_n B dX6_abort_28 rfl ?_
      refine x_mN B mvX6_47 (fun l => c_X6_record hw.1 hb) dX6_abort_29 rfl rfl (by decide) (by decide) (Nat.le_of_ble_eq_true rfl) EX.rv ?_
      refine x_RE hw hr (fun q' F' S' hw' => ?_)
      refine x_aload_n B dX6_abort_32 rfl ?_
      refine x_get B fgX6_28 dX6_abort_33 (fun _ h => ⟨_, EX.o h, rfl⟩) ?_
      refine x_iload_n B dX6_abort_36 rfl ?_
      refine x_fV B mvX6_183 (fun l => c_X3_abortWithFollowing hV (by omega) (by omega)) dX6_abort_37 rfl rfl (by decide) (by decide) (Nat.le_of_ble_eq_true rfl) EX.faP EX.fbP EX.fcP (fun r37 => ?_)
      exact x_retE B R dX6_abort_40 (by simp only [o_abort]; (repeat (first | rfl | rw [if_pos (by omega)] | rw [if_neg (by omega)])); try (exfalso; omega)) (by omega) rfl rfl (by assumption)
    · refine x_bipush B dX6_abort_25 (by decide) ?_
      exact x_retE B R dX6_abort_27 (by simp only [o_abort]; (repeat (first | rfl | rw [if_pos (by omega)] | rw [if_neg (by omega)])); try (exfalso; omega)) (by omega) rfl rfl (by assumption)
  · refine x_iconst B dX6_abort_8 ?_
    exact x_retE B R dX6_abort_9 (by simp only [o_abort]; (repeat (first | rfl | rw [if_pos (by omega)] | rw [if_neg (by omega)])); try (exfalso; omega)) (by omega) rfl rfl (by assumption)
end OPC

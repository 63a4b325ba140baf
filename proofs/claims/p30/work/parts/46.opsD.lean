/-! ===== the executive's public methods, on ===== -/
section OPC2
variable {G : xG} {l : Launch} {e : Nat} {m : Int → Int} {ρ : Nat → Int → Int} {W : Int}
theorem c_X6_fail {x : Int} (hI : IL m ρ) (h3 : -2147483648 ≤ x ∧ x < 2147483648) : CT G l yX6_fail cX6_fail 2 (some .int) ({ frames := 4, cells := 0, slots := 0, locals := 97 } : Room) 0 0 [.ref e, vi x] (PE G e m ρ) (pI (o_fail m ρ x).1 (PE G e (o_fail m ρ x).2.1 (o_fail m ρ x).2.2)) (AE e) := by
  refine x_met1 (own := RX6) (nm := "fail") (L := [(0, .ref e), (1, vi x)]) (by decide) rfl rfl (fun _ => rfl) (Nat.le_of_ble_eq_true rfl) rfl rfl ?_
  intro Γ B R
  obtain ⟨hV, hr, hb⟩ := hI.x
  have hn := hV.n
  refine x_PE (fun β od oc q F T pc0 rs pl at_ vs S hw hm => ?_)
  refine x_aload_n B dX6_fail_0 rfl ?_
  refine x_iload_n B dX6_fail_1 rfl ?_
  refine x_mZ B mvX6_54 (fun l => c_X6_isUnit (by omega) (by omega)) dX6_fail_2 rfl rfl (by decide) (by decide) (Nat.le_of_ble_eq_true rfl) EX.rv ?_
  refine x_ifz_ne (tgt := 10) B dX6_fail_5 (by decide) (fun c5 => ?_) (fun c5 => ?_)
  · have hu := hV.u (u := x) (by omega) (by omega)
    unfold okU at hu
    refine x_aload_n B dX6_fail_10 rfl ?_
    refine x_get B fgX6_28 dX6_fail_11 (fun _ h => ⟨_, EX.o h, rfl⟩) ?_
    refine x_get B fgX6_58 dX6_fail_14 (EX.lf (fun _ h => ⟨_, PS.o h, rfl⟩)) ?_
    refine x_iload_n B dX6_fail_17 rfl ?_
    refine x_aald (j := 3) B dX6_fail_18 rfl (by omega) (by decide) (EX.lf (PS.au (by omega))) ?_
    refine x_getI B fgX6_62 dX6_fail_19 (EX.lf (PS.gu5 (by omega))) (fun r19 => ?_)
    refine x_if_eq (tgt := 28) B dX6_fail_22 (by decide) (by omega) (fun c22 => ?_) (fun c22 => ?_)
    · refine x_aload_n B dX6_fail_28 rfl ?_
      refine x_mN B mvX6_47 (fun l => c_X6_record hw.1 hb) dX6_fail_29 rfl rfl (by decide) (by decide) (Nat.le_of_ble_eq_true rfl) EX.rv ?_
      refine x_RE hw hr (fun q' F' S' hw' => ?_)
      refine x_aload_n B dX6_fail_32 rfl ?_
      refine x_get B fgX6_28 dX6_fail_33 (fun _ h => ⟨_, EX.o h, rfl⟩) ?_
      refine x_iload_n B dX6_fail_36 rfl ?_
      refine x_fV B mvX6_68 (fun l => c_X3_breakUnit (by omega) (by omega) (by omega)) dX6_fail_37 rfl rfl (by decide) (by decide) (Nat.le_of_ble_eq_true rfl) EX.faP EX.fbP EX.fcP (fun r37 => ?_)
      refine x_sV B msX6_72 (fun l => c_X6_orNotFound (by omega)) dX6_fail_40 rfl rfl (by decide) (by decide) (Nat.le_of_ble_eq_true rfl) (fun r40 => ?_)
      by_cases c : m (5 + 6 * x + 2) = -1 ∨ ¬ (m (548 + 10 * m (5 + 6 * x + 2) + 5) = 1 ∨ m (548 + 10 * m (5 + 6 * x + 2) + 5) = 3)
      · rw [if_pos c, if_pos c, if_pos rfl]
        exact x_retE B R dX6_fail_43 (by simp only [o_fail]; rw [if_neg (by omega), if_neg (by omega)]; rw [if_pos c]) (by decide) rfl rfl (by assumption)
      · rw [if_neg c] at r37
        rw [if_neg c, if_neg c, if_neg (by omega)]
        exact x_retE B R dX6_fail_43 (by simp only [o_fail]; rw [if_neg (by omega), if_neg (by omega)]; rw [if_neg c]) (by omega) rfl rfl (by assumption)
    · refine x_bipush B dX6_fail_25 (by decide) ?_
      exact x_retE B R dX6_fail_27 (by simp only [o_fail]; (repeat (first | rfl | rw [if_pos (by omega)] | rw [if_neg (by omega)])); try (exfalso; omega)) (by omega) rfl rfl (by assumption)
  · refine x_iconst B dX6_fail_8 ?_
    exact x_retE B R dX6_fail_9 (by simp only [o_fail]; (repeat (first | rfl | rw [if_pos (by omega)] | rw [if_neg (by omega)])); try (exfalso; omega)) (by omega) rfl rfl (by assumption)
theorem c_X6_repair {x : Int} (hI : IL m ρ) (h3 : -2147483648 ≤ x ∧ x < 2147483648) : CT G l yX6_repair cX6_repair 2 (some .int) ({ frames := 4, cells := 0, slots := 0, locals := 97 } : Room) 0 0 [.ref e, vi x] (PE G e m ρ) (pI (o_repair m ρ x).1 (PE G e (o_repair m ρ x).2.1 (o_repair m ρ x).2.2)) (AE e) := by
  refine x_met1 (own := RX6) (nm := "repair") (L := [(0, .ref e), (1, vi x)]) (by decide) rfl rfl (fun _ => rfl) (Nat.le_of_ble_eq_true rfl) rfl rfl ?_
  intro Γ B R
  obtain ⟨hV, hr, hb⟩ := hI.x
  have hn := hV.n
  refine x_PE (fun β od oc q F T pc0 rs pl at_ vs S hw hm => ?_)
  refine x_aload_n B dX6_repair_0 rfl ?_
  refine x_iload_n B dX6_repair_1 rfl ?_
  refine x_mZ B mvX6_54 (fun l => c_X6_isUnit (by omega) (by omega)) dX6_repair_2 rfl rfl (by decide) (by decide) (Nat.le_of_ble_eq_true rfl) EX.rv ?_
  refine x_ifz_ne (tgt := 10) B dX6_repair_5 (by decide) (fun c5 => ?_) (fun c5 => ?_)
  · have e2 : up m (5 + 6 * x + 3) 0 2 = m 2 := up_ne (by omega)
    have hb' : ∀ u, 0 ≤ u → u < up m (5 + 6 * x + 3) 0 2 → 0 ≤ up m (5 + 6 * x + 3) 0 (5 + 6 * u + 3) ∧ up m (5 + 6 * x + 3) 0 (5 + 6 * u + 3) ≤ 1 := fun u u0 u1 => by
      have := hb u u0 (by omega)
      unfold up
      split <;> omega
    refine x_aload_n B dX6_repair_10 rfl ?_
    refine x_get B fgX6_28 dX6_repair_11 (fun _ h => ⟨_, EX.o h, rfl⟩) ?_
    refine x_get B fgX6_58 dX6_repair_14 (EX.lf (fun _ h => ⟨_, PS.o h, rfl⟩)) ?_
    refine x_iload_n B dX6_repair_17 rfl ?_
    refine x_aald (j := 3) B dX6_repair_18 rfl (by omega) (by decide) (EX.lf (PS.au (by omega))) ?_
    refine x_getI B fgX6_62 dX6_repair_19 (EX.lf (PS.gu5 (by omega))) (fun r19 => ?_)
    refine x_if_ne (tgt := 28) B dX6_repair_22 (by decide) (by omega) (fun c22 => ?_) (fun c22 => ?_)
    · refine x_aload_n B dX6_repair_28 rfl ?_
      refine x_mN B mvX6_47 (fun l => c_X6_record hw.1 hb) dX6_repair_29 rfl rfl (by decide) (by decide) (Nat.le_of_ble_eq_true rfl) EX.rv ?_
      refine x_RE hw hr (fun q' F' S' hw' => ?_)
      refine x_aload_n B dX6_repair_32 rfl ?_
      refine x_get B fgX6_28 dX6_repair_33 (fun _ h => ⟨_, EX.o h, rfl⟩) ?_
      refine x_get B fgX6_58 dX6_repair_36 (EX.lf (fun _ h => ⟨_, PS.o h, rfl⟩)) ?_
      refine x_iload_n B dX6_repair_39 rfl ?_
      refine x_aald (j := 3) B dX6_repair_40 rfl (by omega) (by decide) (EX.lf (PS.au (by omega))) ?_
      refine x_iconst B dX6_repair_41 ?_
      refine x_put B fpX6_62 dX6_repair_42 rfl rfl (by unfold AE; (try unfold uA); (try unfold bA); omega) (EX.lp (by (try unfold uA); (try unfold bA); omega) (PS.pu5 (by omega) (by omega))) ?_
      refine x_aload_n B dX6_repair_45 rfl ?_
      refine x_get B fgX6_28 dX6_repair_46 (fun _ h => ⟨_, EX.o h, rfl⟩) ?_
      refine x_fV B mvX6_75 (fun l => c_X3_brokenUnits (by omega) (by omega)) dX6_repair_49 rfl rfl (by decide) (by decide) (Nat.le_of_ble_eq_true rfl) EX.faP EX.fbP EX.fcP (fun r49 => ?_)
      exact x_retE B R dX6_repair_52 (by simp only [o_repair]; (repeat (first | rfl | rw [if_pos (by omega)] | rw [if_neg (by omega)])); try (exfalso; omega)) (by omega) rfl rfl (by assumption)
    · refine x_bipush B dX6_repair_25 (by decide) ?_
      exact x_retE B R dX6_repair_27 (by simp only [o_repair]; (repeat (first | rfl | rw [if_pos (by omega)] | rw [if_neg (by omega)])); try (exfalso; omega)) (by omega) rfl rfl (by assumption)
  · refine x_iconst B dX6_repair_8 ?_
    exact x_retE B R dX6_repair_9 (by simp only [o_repair]; (repeat (first | rfl | rw [if_pos (by omega)] | rw [if_neg (by omega)])); try (exfalso; omega)) (by omega) rfl rfl (by assumption)
theorem okW.ty {q : Nat} {F : Nat → Option Nat} {T : Int → Int} {S : Int → Int → Int} {x : Int} (hw : okW e q F T S ρ) : okW e q F (up T (ρ 5 1) x) S (ur (ur ρ 2 (up (ρ 2) (ρ 5 1) x)) 5 (up (ρ 5) 1 (ρ 5 1 + 1))) := by
  refine ⟨hw.1, ?_, hw.2.2⟩
  show up T (ρ 5 1) x = up (ρ 2) (ρ 5 1) x
  rw [hw.2.1]
theorem c_X6_type {x : Int} (hI : IL m ρ) (h3 : -2147483648 ≤ x ∧ x < 2147483648) : CT G l yX6_type cX6_type 2 (some .int) ({ frames := 1, cells := 0, slots := 0, locals := 22 } : Room) 0 0 [.ref e, vi x] (PE G e m ρ) (pI (o_type m ρ x).1 (PE G e (o_type m ρ x).2.1 (o_type m ρ x).2.2)) (AE e) := by
  refine x_met1 (own := RX6) (nm := "type") (L := [(0, .ref e), (1, vi x)]) (by decide) rfl rfl (fun _ => rfl) (Nat.le_of_ble_eq_true rfl) rfl rfl ?_
  intro Γ B R
  obtain ⟨hV, hr, hb⟩ := hI.x
  have hn := hV.n
  have hT := hI.2.2.2.1.1
  refine x_PE (fun β od oc q F T pc0 rs pl at_ vs S hw hm => ?_)
  refine x_iload_n B dX6_type_0 rfl ?_
  refine x_bipush B dX6_type_1 (by decide) ?_
  refine x_bipush B dX6_type_3 (by decide) ?_
  refine x_sZ B msX6_39 (fun l => c_X6_isWithin (by omega) (by omega) (by omega)) dX6_type_5 rfl rfl (by decide) (by decide) (Nat.le_of_ble_eq_true rfl) ?_
  refine x_ifz_ne (tgt := 13) B dX6_type_8 (by decide) (fun c8 => ?_) (fun c8 => ?_)
  · refine x_aload_n B dX6_type_13 rfl ?_
    refine x_get B fgX6_19 dX6_type_14 (fun _ h => ⟨_, EX.o h, rfl⟩) ?_
    refine x_getI B fgX6_256 dX6_type_17 (EX.lt TX.g2) (fun r17 => ?_)
    refine x_bipush B dX6_type_20 (by decide) ?_
    refine x_icmp_lt (tgt := 28) B dX6_type_22 (by decide) (by omega) (by omega) (fun c22 => ?_) (fun c22 => ?_)
    · refine x_aload_n B dX6_type_28 rfl ?_
      refine x_get B fgX6_19 dX6_type_29 (fun _ h => ⟨_, EX.o h, rfl⟩) ?_
      refine x_iload_n B dX6_type_32 rfl ?_
      refine x_i2c B dX6_type_33 (by omega) ?_
      refine x_fN B mvX6_265 (fun l => (c_X4_append (by omega) (by omega)) ) dX6_type_34 rfl rfl (by decide) (by decide) (Nat.le_of_ble_eq_true rfl) EX.faT EX.fbT EX.fcT ?_
      refine x_aload_n B dX6_type_37 rfl ?_
      refine x_get B fgX6_19 dX6_type_38 (fun _ h => ⟨_, EX.o h, rfl⟩) ?_
      refine x_getI B fgX6_256 dX6_type_41 (EX.lt TX.g2) (fun r41 => ?_)
      exact x_retE (ρ' := ur (ur ρ 2 (up (ρ 2) (ρ 5 1) x)) 5 (up (ρ 5) 1 (ρ 5 1 + 1))) B R dX6_type_44 (by simp only [o_type]; rw [if_neg (by omega), if_neg (by omega)]) (by omega) rfl rfl hw.ty
    · refine x_bipush B dX6_type_25 (by decide) ?_
      exact x_retE B R dX6_type_27 (by simp only [o_type]; (repeat (first | rfl | rw [if_pos (by omega)] | rw [if_neg (by omega)])); try (exfalso; omega)) (by omega) rfl rfl (by assumption)
  · refine x_iconst B dX6_type_11 ?_
    exact x_retE B R dX6_type_12 (by simp only [o_type]; (repeat (first | rfl | rw [if_pos (by omega)] | rw [if_neg (by omega)])); try (exfalso; omega)) (by omega) rfl rfl (by assumption)
theorem okW.cl {q : Nat} {F : Nat → Option Nat} {T : Int → Int} {S : Int → Int → Int} (hw : okW e q F T S ρ) : okW e q F T S (ur ρ 5 (up (ρ 5) 1 0)) := by
  exact ⟨hw.1, hw.2.1, hw.2.2⟩
theorem c_X6_clearText (hI : IL m ρ) : CT G l yX6_clearText cX6_clearText 2 (some .int) ({ frames := 0, cells := 0, slots := 0, locals := 0 } : Room) 0 0 [.ref e] (PE G e m ρ) (pI (o_clearText m ρ).1 (PE G e (o_clearText m ρ).2.1 (o_clearText m ρ).2.2)) (AE e) := by
  refine x_met1 (own := RX6) (nm := "clearText") (L := [(0, .ref e)]) (by decide) rfl rfl (fun _ => rfl) (Nat.le_of_ble_eq_true rfl) rfl rfl ?_
  intro Γ B R
  obtain ⟨hV, hr, hb⟩ := hI.x
  have hn := hV.n
  refine x_PE (fun β od oc q F T pc0 rs pl at_ vs S hw hm => ?_)
  refine x_aload_n B dX6_clearText_0 rfl ?_
  refine x_get B fgX6_19 dX6_clearText_1 (fun _ h => ⟨_, EX.o h, rfl⟩) ?_
  refine x_getI B fgX6_256 dX6_clearText_4 (EX.lt TX.g2) (fun r4 => ?_)
  refine x_istore_n B dX6_clearText_7 (by decide) ?_
  refine x_aload_n B dX6_clearText_8 rfl ?_
  refine x_get B fgX6_19 dX6_clearText_9 (fun _ h => ⟨_, EX.o h, rfl⟩) ?_
  refine x_iconst B dX6_clearText_12 ?_
  refine x_put B fpX6_256 dX6_clearText_13 rfl rfl (by unfold AE; omega) (EX.lpT (by omega) (TX.p2 (by omega))) ?_
  refine x_iload_n B dX6_clearText_16 rfl ?_
  exact x_retE (ρ' := ur ρ 5 (up (ρ 5) 1 0)) B R dX6_clearText_17 rfl (by have := hI.2.2.2.1.1; omega) rfl rfl hw.cl
/-- the text was read -/
def ER (G : xG) (e : Nat) (β : Nat → Int → Int) (m od : Int → Int) (oc : Int) (q : Nat) (F : Nat → Option Nat) (T : Int → Int) (n N : Int) (S : Int → Int → Int) (r : Int × Int × List Int) (H : Heap) : Prop := ∃ k pl at_ vs, EX G e β m od oc q F T n k r.1 pl at_ vs N S H ∧ (r.1 ≠ 0 → pl = r.2.1) ∧ (r.1 = 0 → k = r.2.2.length ∧ ∀ w : Nat, w < 5 → ∀ j : Nat, j < r.2.2.length → vs w j = pt (r.2.2.getD j 0) w)
theorem EX.fcR {β : Nat → Int → Int} {od : Int → Int} {oc : Int} {q : Nat} {F : Nat → Option Nat} {T : Int → Int} {n pc rs pl at_ : Int} {vs : Nat → Int → Int} {N : Int} {S : Int → Int → Int} {r : Int × Int × List Int} : ∀ H H1, EX G e β m od oc q F T n pc rs pl at_ vs N S H → RT G (e + 9) T n r H1 → H.size ≤ H1.size → (∀ q : Nat, q < H.size → ¬ AT (e + 9) q → H1[q]? = H[q]?) → ER G e β m od oc q F T n N S r H1 := fun H H1 h hp hs hq => by
  obtain ⟨k, pl', at_', vs', h1, h2, h3⟩ := hp
  exact ⟨k, pl', at_', vs', EX.fcT H H1 h h1 hs hq, h2, h3⟩
theorem x_ER {Γ : xE} {kc ks pc : Nat} {β : Nat → Int → Int} {od : Int → Int} {oc : Int} {q : Nat} {F : Nat → Option Nat} {T : Int → Int} {n N : Int} {S : Int → Int → Int} {r : Int × Int × List Int} {L : List (Nat × Value)} {st : List Value} (k : ∀ (k : Int) (pl at_ : Int) (vs : Nat → Int → Int), (r.1 ≠ 0 → pl = r.2.1) → (r.1 = 0 → k = r.2.2.length ∧ ∀ w : Nat, w < 5 → ∀ j : Nat, j < r.2.2.length → vs w j = pt (r.2.2.getD j 0) w) → XJ Γ kc ks (EX G e β m od oc q F T n k r.1 pl at_ vs N S) pc L st) : XJ Γ kc ks (ER G e β m od oc q F T n N S r) pc L st := by
  refine x_ex (ι := Int × Int × Int × (Nat → Int → Int)) (P' := fun i H => EX G e β m od oc q F T n i.1 r.1 i.2.1 i.2.2.1 i.2.2.2 N S H ∧ (r.1 ≠ 0 → i.2.1 = r.2.1) ∧ (r.1 = 0 → i.1 = r.2.2.length ∧ ∀ w : Nat, w < 5 → ∀ j : Nat, j < r.2.2.length → i.2.2.2 w j = pt (r.2.2.getD j 0) w)) (fun H h => by obtain ⟨k, pl, at_, vs, h⟩ := h; exact ⟨(k, pl, at_, vs), h⟩) (fun i => ?_)
  obtain ⟨k0, pl, at_, vs⟩ := i
  exact x_fact (fun H h => h.2) (fun hh => x_weak (fun H h => h.1) (k k0 pl at_ vs hh.1 hh.2))
theorem c_X6_fault {x : Int} (hI : IL m ρ) (h3 : -2147483648 ≤ x ∧ x < 2147483648) : CT G l yX6_fault cX6_fault 2 (some .int) ({ frames := 6, cells := 0, slots := 0, locals := 130 } : Room) 0 0 [.ref e, vi x] (PE G e m ρ) (pI (o_fault m ρ x).1 (PE G e (o_fault m ρ x).2.1 (o_fault m ρ x).2.2)) (AE e) := by
  refine x_met1 (own := RX6) (nm := "fault") (L := [(0, .ref e), (1, vi x)]) (by decide) rfl rfl (fun _ => rfl) (Nat.le_of_ble_eq_true rfl) rfl rfl ?_
  intro Γ B R
  obtain ⟨hV, hr, hb⟩ := hI.x
  have hn := hV.n
  have hO : o_fault m ρ x = (if ¬ (0 ≤ x ∧ x ≤ 1) then -1 else if (t_all (ρ 2) (ρ 5 1)).1 = 0 then -4 else if x = 0 then (t_all (ρ 2) (ρ 5 1)).2.1 else (t_all (ρ 2) (ρ 5 1)).1, m, ρ) := rfl
  refine x_PE (fun β od oc q F T pc0 rs pl at_ vs S hw hm => ?_)
  refine x_iload_n B dX6_fault_0 rfl ?_
  refine x_iconst B dX6_fault_1 ?_
  refine x_iconst B dX6_fault_2 ?_
  refine x_sZ B msX6_39 (fun l => c_X6_isWithin (by omega) (by omega) (by omega)) dX6_fault_3 rfl rfl (by decide) (by decide) (Nat.le_of_ble_eq_true rfl) ?_
  refine x_ifz_ne (tgt := 11) B dX6_fault_6 (by decide) (fun c6 => ?_) (fun c6 => ?_)
  · refine x_aload_n B dX6_fault_11 rfl ?_
    refine x_get B fgX6_19 dX6_fault_12 (fun _ h => ⟨_, EX.o h, rfl⟩) ?_
    refine x_fN B mvX6_112 (fun l => (c_X4_read (by rw [hw.2.1]; exact hI.2.2.2.1)) ) dX6_fault_15 rfl rfl (by decide) (by decide) (Nat.le_of_ble_eq_true rfl) EX.faT EX.fbT EX.fcR ?_
    rw [hw.2.1]
    have ha := all_rg hI.2.2.2.1
    refine x_ER (fun k pl' at_' vs' h1 h2 => ?_)
    generalize t_all (ρ 2) (ρ 5 1) = r at *
    refine x_aload_n B dX6_fault_18 rfl ?_
    refine x_get B fgX6_19 dX6_fault_19 (fun _ h => ⟨_, EX.o h, rfl⟩) ?_
    refine x_getI B fgX6_115 dX6_fault_22 (EX.lt TX.g4) (fun r22 => ?_)
    refine x_if_ne (tgt := 31) B dX6_fault_25 (by decide) (by omega) (fun c25 => ?_) (fun c25 => ?_)
    · refine x_iload_n B dX6_fault_31 rfl ?_
      refine x_if_ne (tgt := 45) B dX6_fault_32 (by decide) (by omega) (fun c32 => ?_) (fun c32 => ?_)
      · refine x_aload_n B dX6_fault_45 rfl ?_
        refine x_get B fgX6_19 dX6_fault_46 (fun _ h => ⟨_, EX.o h, rfl⟩) ?_
        refine x_getI B fgX6_115 dX6_fault_49 (EX.lt TX.g4) (fun r49 => ?_)
        first
          | exact x_retE B R dX6_fault_52 (by rw [hO, if_neg (by omega), if_neg (by omega), if_pos (by omega), h1 (by omega)]) (by omega) rfl rfl ⟨hw.1, rfl, hw.2.2⟩
          | exact x_retE B R dX6_fault_52 (by rw [hO, if_neg (by omega), if_neg (by omega), if_neg (by omega)]) (by omega) rfl rfl ⟨hw.1, rfl, hw.2.2⟩
      · refine x_aload_n B dX6_fault_35 rfl ?_
        refine x_get B fgX6_19 dX6_fault_36 (fun _ h => ⟨_, EX.o h, rfl⟩) ?_
        refine x_getI B fgX6_269 dX6_fault_39 (EX.lt TX.g5) (fun r39 => ?_)
        refine x_goto (tgt := 52) B dX6_fault_42 (by decide) ?_
        first
          | exact x_retE B R dX6_fault_52 (by rw [hO, if_neg (by omega), if_neg (by omega), if_pos (by omega), h1 (by omega)]) (by omega) rfl rfl ⟨hw.1, rfl, hw.2.2⟩
          | exact x_retE B R dX6_fault_52 (by rw [hO, if_neg (by omega), if_neg (by omega), if_neg (by omega)]) (by omega) rfl rfl ⟨hw.1, rfl, hw.2.2⟩
    · refine x_bipush B dX6_fault_28 (by decide) ?_
      exact x_retE B R dX6_fault_30 (by rw [hO, if_neg (by omega), if_pos (by omega)]) (by omega) rfl rfl ⟨hw.1, rfl, hw.2.2⟩
  · refine x_iconst B dX6_fault_9 ?_
    exact x_retE B R dX6_fault_10 (by simp only [o_fault]; rw [if_pos (by omega)]) (by omega) rfl rfl hw
theorem lowU_cg {p q : Int → Prop} [DecidablePred p] [DecidablePred q] : ∀ (n : Nat) (u : Int), (∀ x, u ≤ x → x < u + n → (p x ↔ q x)) → lowU p n u = lowU q n u
  | 0, _, _ => rfl
  | n + 1, u, h => by
    unfold lowU
    have h0 := h u (by omega) (by omega)
    rw [lowU_cg n (u + 1) (fun x a b => h x (by omega) (by omega))]
    by_cases c : p u
    · rw [if_pos c, if_pos (h0.mp c)]
    · rw [if_neg c, if_neg (fun z => c (h0.mpr z))]
theorem PS.gJl {a κ : Nat} {β : Nat → Int → Int} {od : Int → Int} {oc : Int} : ∀ H, PS G a κ β m od oc H → ∃ fs, oat G (a + 5) 2 fs H ∧ fs[3]? = some (vi (m 4)) ∧ (-2147483648 ≤ m 4 ∧ m 4 < 2147483648) := fun _ h => by
  obtain ⟨nx, j0, j1, j2, h1, -⟩ := h.1.1.2.2.2.2.2.1
  exact ⟨_, h1.1, rfl, h.1.2.1.2.2.2 4⟩
theorem reason_clean (hV : Iv m W) {x : Int} (x0 : 0 ≤ x) (x1 : x < m 3) : s_reason (s_clean m (m 2)) 0 x = s_reason m 1 x := by
  have hn := hV.n
  have eb : ∀ y w, 0 ≤ y → 0 ≤ w → w < 10 → s_clean m (m 2) (548 + 10 * y + w) = m (548 + 10 * y + w) := fun y w _ _ _ => s_clean_ne (by omega)
  have hbx := hV.b x0 x1
  unfold okB at hbx
  have e0 := eb x 0 x0 (by omega) (by omega)
  have e1 := eb x 1 x0 (by omega) (by omega)
  have e2 := eb x 2 x0 (by omega) (by omega)
  have e4 := eb x 4 x0 (by omega) (by omega)
  have e6 := eb x 6 x0 (by omega) (by omega)
  have e7 := eb x 7 x0 (by omega) (by omega)
  have e8 := eb x 8 x0 (by omega) (by omega)
  have ep : phB (s_clean m (m 2)) x (m (548 + 10 * x + 6)) = phB m x (m (548 + 10 * x + 6)) := by
    unfold phB
    rw [pgB_eq e0 e1]
    have := okB_pg hV x0 x1
    exact s_clean_ne (by omega)
  have em2 : s_clean m (m 2) 2 = m 2 := s_clean_ne (by omega)
  have eu : ∀ kd, s_uFor (s_clean m (m 2)) 0 x kd = s_uFor m 1 x kd := fun kd => by
    unfold s_uFor
    rw [em2, e2]
    refine lowU_cg _ 0 (fun u u0 u1 => ?_)
    have hu := hV.u u0 (by omega)
    unfold okU at hu
    have f0 : s_clean m (m 2) (5 + 6 * u + 0) = m (5 + 6 * u + 0) := s_clean_ne (by omega)
    have f1 : s_clean m (m 2) (5 + 6 * u + 1) = m (5 + 6 * u + 1) := s_clean_ne (by omega)
    have f2 : s_clean m (m 2) (5 + 6 * u + 2) = m (5 + 6 * u + 2) := s_clean_ne (by omega)
    have f3 : s_clean m (m 2) (5 + 6 * u + 3) = m (5 + 6 * u + 3) := s_clean_ne (by omega)
    rw [f0, f1, f2, f3]
    have f4 : s_clean m (m 2) (5 + 6 * u + 4) ≤ 0 ↔ m (5 + 6 * u + 4) ≤ 1 := by
      unfold s_clean
      rw [if_pos (by omega)]
      split <;> omega
    rw [f4]
  unfold s_reason
  have e5 : s_clean m (m 2) (548 + 10 * m (548 + 10 * x + 4) + 5) = m (548 + 10 * m (548 + 10 * x + 4) + 5) := s_clean_ne (by omega)
  rw [e6, ep]
  have es : s_clean m (m 2) (53 + (phB m x (m (548 + 10 * x + 6)) / 512 % 4 - 1)) = m (53 + (phB m x (m (548 + 10 * x + 6)) / 512 % 4 - 1)) := s_clean_ne (by omega)
  rw [e4, e7, e8, eu, e5, es]
theorem c_X6_waits {x : Int} (hI : IL m ρ) (h3 : -2147483648 ≤ x ∧ x < 2147483648) : CT G l yX6_waits cX6_waits 2 (some .int) ({ frames := 4, cells := 0, slots := 0, locals := 94 } : Room) 0 0 [.ref e, vi x] (PE G e m ρ) (pI (o_waits m ρ x).1 (PE G e (o_waits m ρ x).2.1 (o_waits m ρ x).2.2)) (AE e) := by
  refine x_met1 (own := RX6) (nm := "waits") (L := [(0, .ref e), (1, vi x)]) (by decide) rfl rfl (fun _ => rfl) (Nat.le_of_ble_eq_true rfl) rfl rfl ?_
  intro Γ B R
  obtain ⟨hV, hr, hb⟩ := hI.x
  have hn := hV.n
  refine x_PE (fun β od oc q F T pc0 rs pl at_ vs S hw hm => ?_)
  refine x_aload_n B dX6_waits_0 rfl ?_
  refine x_iload_n B dX6_waits_1 rfl ?_
  refine x_mZ B mvX6_135 (fun l => c_X6_isBatch (by omega) (by omega)) dX6_waits_2 rfl rfl (by decide) (by decide) (Nat.le_of_ble_eq_true rfl) EX.rv ?_
  refine x_ifz_ne (tgt := 10) B dX6_waits_5 (by decide) (fun c5 => ?_) (fun c5 => ?_)
  · have hbx := hV.b (b := x) (by omega) (by omega)
    unfold okB at hbx
    refine x_aload_n B dX6_waits_10 rfl ?_
    refine x_get B fgX6_28 dX6_waits_11 (fun _ h => ⟨_, EX.o h, rfl⟩) ?_
    refine x_get B fgX6_148 dX6_waits_14 (EX.lf (fun _ h => ⟨_, PS.o h, rfl⟩)) ?_
    refine x_iload_n B dX6_waits_17 rfl ?_
    refine x_aald (j := 4) B dX6_waits_18 rfl (by omega) (by decide) (EX.lf (PS.ab (by omega))) ?_
    refine x_mZ B mvX6_160 (fun l => c_X0_isActive (EX.lf (PS.ob (by omega))) hm) dX6_waits_19 rfl rfl (by decide) (by decide) (Nat.le_of_ble_eq_true rfl) (EX.lf (PS.rvB (by omega))) ?_
    refine x_ifz_ne (tgt := 28) B dX6_waits_22 (by decide) (fun c22 => ?_) (fun c22 => ?_)
    · refine x_aload_n B dX6_waits_28 rfl ?_
      refine x_get B fgX6_28 dX6_waits_29 (fun _ h => ⟨_, EX.o h, rfl⟩) ?_
      refine x_iload_n B dX6_waits_32 rfl ?_
      refine x_iconst B dX6_waits_33 ?_
      refine x_fV B mvX6_218 (fun l => c_X3_reasonToWait (by omega) (Iv0.rdC (Iv_iff.mp hV).1 (by omega) (by omega) (by omega)) (by omega) (by omega) (by omega)) dX6_waits_34 rfl rfl (by decide) (by decide) (Nat.le_of_ble_eq_true rfl) EX.faP EX.fbP EX.fcP (fun r34 => ?_)
      exact x_retE (ρ' := ur ρ 0 (cpyN m (ρ 0) 0 0 788)) B R dX6_waits_37 (by simp only [o_waits]; rw [if_neg (by omega), if_neg (by omega), reason_clean hV (by omega) (by omega)]) (by omega) rfl rfl hw
    · refine x_bipush B dX6_waits_25 (by decide) ?_
      exact x_retE B R dX6_waits_27 (by simp only [o_waits]; rw [if_neg (by omega), if_pos (by omega)]) (by omega) rfl rfl hw
  · refine x_iconst B dX6_waits_8 ?_
    exact x_retE B R dX6_waits_9 (by simp only [o_waits]; rw [if_pos (by omega)]) (by omega) rfl rfl hw
theorem c_X6_batch {r sz pr bf : Int} (hI : IL m ρ) (h3 : -2147483648 ≤ r ∧ r < 2147483648) (h4 : -2147483648 ≤ sz ∧ sz < 2147483648) (h5 : -2147483648 ≤ pr ∧ pr < 2147483648) (h6 : -2147483648 ≤ bf ∧ bf < 2147483648) : CT G l yX6_batch cX6_batch 5 (some .int) ({ frames := 4, cells := 0, slots := 0, locals := 97 } : Room) 0 0 [.ref e, vi r, vi sz, vi pr, vi bf] (PE G e m ρ) (pI (o_batch m ρ r sz pr bf).1 (PE G e (o_batch m ρ r sz pr bf).2.1 (o_batch m ρ r sz pr bf).2.2)) (AE e) := by
  refine x_met1 (own := RX6) (nm := "batch") (L := [(0, .ref e), (1, vi r), (2, vi sz), (3, vi pr), (4, vi bf)]) (by decide) rfl rfl (fun _ => rfl) (Nat.le_of_ble_eq_true rfl) rfl rfl ?_
  intro Γ B R
  obtain ⟨hV, hr, hb⟩ := hI.x
  have hn := hV.n
  refine x_PE (fun β od oc q F T pc0 rs pl at_ vs S hw hm => ?_)
  refine x_iload_n B dX6_batch_0 rfl ?_
  refine x_sZ B msX6_109 (fun l => c_X6_isRecipe (by omega)) dX6_batch_1 rfl rfl (by decide) (by decide) (Nat.le_of_ble_eq_true rfl) ?_
  refine x_ifz_eq (tgt := 25) B dX6_batch_4 (by decide) (fun c4 => ?_) (fun c4 => ?_)
  · refine x_iconst B dX6_batch_25 ?_
    exact x_retE B R dX6_batch_26 (by simp only [o_batch]; (repeat (first | rfl | rw [if_pos (by omega)] | rw [if_neg (by omega)])); try (exfalso; omega)) (by omega) rfl rfl (by assumption)
  · refine x_iload_n B dX6_batch_7 rfl ?_
    refine x_iconst B dX6_batch_8 ?_
    refine x_sipush B dX6_batch_9 (by decide) ?_
    refine x_sZ B msX6_39 (fun l => c_X6_isWithin (by omega) (by omega) (by omega)) dX6_batch_12 rfl rfl (by decide) (by decide) (Nat.le_of_ble_eq_true rfl) ?_
    refine x_ifz_eq (tgt := 25) B dX6_batch_15 (by decide) (fun c15 => ?_) (fun c15 => ?_)
    · refine x_iconst B dX6_batch_25 ?_
      exact x_retE B R dX6_batch_26 (by simp only [o_batch]; (repeat (first | rfl | rw [if_pos (by omega)] | rw [if_neg (by omega)])); try (exfalso; omega)) (by omega) rfl rfl (by assumption)
    · refine x_iload_n B dX6_batch_18 rfl ?_
      refine x_sZ B msX6_132 (fun l => c_X6_isPriority (by omega)) dX6_batch_19 rfl rfl (by decide) (by decide) (Nat.le_of_ble_eq_true rfl) ?_
      refine x_ifz_ne (tgt := 27) B dX6_batch_22 (by decide) (fun c22 => ?_) (fun c22 => ?_)
      · refine x_iload B dX6_batch_27 rfl ?_
        refine x_iconst B dX6_batch_29 ?_
        refine x_icmp_eq (tgt := 44) B dX6_batch_30 (by decide) (by omega) (by omega) (fun c30 => ?_) (fun c30 => ?_)
        · refine x_aload_n B dX6_batch_44 rfl ?_
          refine x_get B fgX6_28 dX6_batch_45 (fun _ h => ⟨_, EX.o h, rfl⟩) ?_
          refine x_get B fgX6_118 dX6_batch_48 (EX.lf (fun _ h => ⟨_, PS.o h, rfl⟩)) ?_
          refine x_iload_n B dX6_batch_51 rfl ?_
          refine x_ialdR B dX6_batch_52 (by omega) (by decide) (EX.lf PS.av) (fun r52 => ?_)
          refine x_if_eq (tgt := 68) B dX6_batch_53 (by decide) (by omega) (fun c53 => ?_) (fun c53 => ?_)
          · refine x_bipush B dX6_batch_68 (by decide) ?_
            exact x_retE B R dX6_batch_70 (by simp only [o_batch]; (repeat (first | rfl | rw [if_pos (by omega)] | rw [if_neg (by omega)])); try (exfalso; omega)) (by omega) rfl rfl (by assumption)
          · refine x_aload_n B dX6_batch_56 rfl ?_
            refine x_get B fgX6_28 dX6_batch_57 (fun _ h => ⟨_, EX.o h, rfl⟩) ?_
            refine x_iload B dX6_batch_60 rfl ?_
            refine x_fZ B mvX6_138 (fun l => c_X3_isGivenUp (by omega) (by omega)) dX6_batch_62 rfl rfl (by decide) (by decide) (Nat.le_of_ble_eq_true rfl) EX.faP EX.fbP EX.fcP ?_
            refine x_ifz_eq (tgt := 71) B dX6_batch_65 (by decide) (fun c65 => ?_) (fun c65 => ?_)
            · refine x_aload_n B dX6_batch_71 rfl ?_
              refine x_get B fgX6_28 dX6_batch_72 (fun _ h => ⟨_, EX.o h, rfl⟩) ?_
              refine x_getI B fgX6_141 dX6_batch_75 (EX.lf PS.g8) (fun r75 => ?_)
              refine x_bipush B dX6_batch_78 (by decide) ?_
              refine x_icmp_lt (tgt := 86) B dX6_batch_80 (by decide) (by omega) (by omega) (fun c80 => ?_) (fun c80 => ?_)
              · refine x_aload_n B dX6_batch_86 rfl ?_
                refine x_mN B mvX6_47 (fun l => c_X6_record hw.1 hb) dX6_batch_87 rfl rfl (by decide) (by decide) (Nat.le_of_ble_eq_true rfl) EX.rv ?_
                refine x_RE hw hr (fun q' F' S' hw' => ?_)
                refine x_aload_n B dX6_batch_90 rfl ?_
                refine x_get B fgX6_28 dX6_batch_91 (fun _ h => ⟨_, EX.o h, rfl⟩) ?_
                refine x_iload_n B dX6_batch_94 rfl ?_
                refine x_iload_n B dX6_batch_95 rfl ?_
                refine x_iload_n B dX6_batch_96 rfl ?_
                refine x_iload B dX6_batch_97 rfl ?_
                refine x_fV B mvX6_144 (fun l => c_X3_addBatch (by omega) (by omega) (by omega) (by omega) (by omega)) dX6_batch_99 rfl rfl (by decide) (by decide) (Nat.le_of_ble_eq_true rfl) EX.faP EX.fbP EX.fcP (fun r99 => ?_)
                exact x_retE B R dX6_batch_102 (by simp only [o_batch]; (repeat (first | rfl | rw [if_pos (by omega)] | rw [if_neg (by omega)])); try (exfalso; omega)) (by omega) rfl rfl (by assumption)
              · refine x_bipush B dX6_batch_83 (by decide) ?_
                exact x_retE B R dX6_batch_85 (by simp only [o_batch]; (repeat (first | rfl | rw [if_pos (by omega)] | rw [if_neg (by omega)])); try (exfalso; omega)) (by omega) rfl rfl (by assumption)
            · refine x_bipush B dX6_batch_68 (by decide) ?_
              exact x_retE B R dX6_batch_70 (by simp only [o_batch]; (repeat (first | rfl | rw [if_pos (by omega)] | rw [if_neg (by omega)])); try (exfalso; omega)) (by omega) rfl rfl (by assumption)
        · refine x_aload_n B dX6_batch_33 rfl ?_
          refine x_iload B dX6_batch_34 rfl ?_
          refine x_mZ B mvX6_135 (fun l => c_X6_isBatch (by omega) (by omega)) dX6_batch_36 rfl rfl (by decide) (by decide) (Nat.le_of_ble_eq_true rfl) EX.rv ?_
          refine x_ifz_ne (tgt := 44) B dX6_batch_39 (by decide) (fun c39 => ?_) (fun c39 => ?_)
          · refine x_aload_n B dX6_batch_44 rfl ?_
            refine x_get B fgX6_28 dX6_batch_45 (fun _ h => ⟨_, EX.o h, rfl⟩) ?_
            refine x_get B fgX6_118 dX6_batch_48 (EX.lf (fun _ h => ⟨_, PS.o h, rfl⟩)) ?_
            refine x_iload_n B dX6_batch_51 rfl ?_
            refine x_ialdR B dX6_batch_52 (by omega) (by decide) (EX.lf PS.av) (fun r52 => ?_)
            refine x_if_eq (tgt := 68) B dX6_batch_53 (by decide) (by omega) (fun c53 => ?_) (fun c53 => ?_)
            · refine x_bipush B dX6_batch_68 (by decide) ?_
              exact x_retE B R dX6_batch_70 (by simp only [o_batch]; (repeat (first | rfl | rw [if_pos (by omega)] | rw [if_neg (by omega)])); try (exfalso; omega)) (by omega) rfl rfl (by assumption)
            · refine x_aload_n B dX6_batch_56 rfl ?_
              refine x_get B fgX6_28 dX6_batch_57 (fun _ h => ⟨_, EX.o h, rfl⟩) ?_
              refine x_iload B dX6_batch_60 rfl ?_
              refine x_fZ B mvX6_138 (fun l => c_X3_isGivenUp (by omega) (by omega)) dX6_batch_62 rfl rfl (by decide) (by decide) (Nat.le_of_ble_eq_true rfl) EX.faP EX.fbP EX.fcP ?_
              refine x_ifz_eq (tgt := 71) B dX6_batch_65 (by decide) (fun c65 => ?_) (fun c65 => ?_)
              · refine x_aload_n B dX6_batch_71 rfl ?_
                refine x_get B fgX6_28 dX6_batch_72 (fun _ h => ⟨_, EX.o h, rfl⟩) ?_
                refine x_getI B fgX6_141 dX6_batch_75 (EX.lf PS.g8) (fun r75 => ?_)
                refine x_bipush B dX6_batch_78 (by decide) ?_
                refine x_icmp_lt (tgt := 86) B dX6_batch_80 (by decide) (by omega) (by omega) (fun c80 => ?_) (fun c80 => ?_)
                · refine x_aload_n B dX6_batch_86 rfl ?_
                  refine x_mN B mvX6_47 (fun l => c_X6_record hw.1 hb) dX6_batch_87 rfl rfl (by decide) (by decide) (Nat.le_of_ble_eq_true rfl) EX.rv ?_
                  refine x_RE hw hr (fun q' F' S' hw' => ?_)
                  refine x_aload_n B dX6_batch_90 rfl ?_
                  refine x_get B fgX6_28 dX6_batch_91 (fun _ h => ⟨_, EX.o h, rfl⟩) ?_
                  refine x_iload_n B dX6_batch_94 rfl ?_
                  refine x_iload_n B dX6_batch_95 rfl ?_
                  refine x_iload_n B dX6_batch_96 rfl ?_
                  refine x_iload B dX6_batch_97 rfl ?_
                  refine x_fV B mvX6_144 (fun l => c_X3_addBatch (by omega) (by omega) (by omega) (by omega) (by omega)) dX6_batch_99 rfl rfl (by decide) (by decide) (Nat.le_of_ble_eq_true rfl) EX.faP EX.fbP EX.fcP (fun r99 => ?_)
                  exact x_retE B R dX6_batch_102 (by simp only [o_batch]; (repeat (first | rfl | rw [if_pos (by omega)] | rw [if_neg (by omega)])); try (exfalso; omega)) (by omega) rfl rfl (by assumption)
                · refine x_bipush B dX6_batch_83 (by decide) ?_
                  exact x_retE B R dX6_batch_85 (by simp only [o_batch]; (repeat (first | rfl | rw [if_pos (by omega)] | rw [if_neg (by omega)])); try (exfalso; omega)) (by omega) rfl rfl (by assumption)
              · refine x_bipush B dX6_batch_68 (by decide) ?_
                exact x_retE B R dX6_batch_70 (by simp only [o_batch]; (repeat (first | rfl | rw [if_pos (by omega)] | rw [if_neg (by omega)])); try (exfalso; omega)) (by omega) rfl rfl (by assumption)
          · refine x_iconst B dX6_batch_42 ?_
            exact x_retE B R dX6_batch_43 (by simp only [o_batch]; (repeat (first | rfl | rw [if_pos (by omega)] | rw [if_neg (by omega)])); try (exfalso; omega)) (by omega) rfl rfl (by assumption)
      · refine x_iconst B dX6_batch_25 ?_
        exact x_retE B R dX6_batch_26 (by simp only [o_batch]; (repeat (first | rfl | rw [if_pos (by omega)] | rw [if_neg (by omega)])); try (exfalso; omega)) (by omega) rfl rfl (by assumption)
theorem c_X6_count {x : Int} (hI : IL m ρ) (h3 : -2147483648 ≤ x ∧ x < 2147483648) : CT G l yX6_count cX6_count 2 (some .int) ({ frames := 2, cells := 0, slots := 0, locals := 43 } : Room) 0 0 [.ref e, vi x] (PE G e m ρ) (pI (o_count m ρ x).1 (PE G e (o_count m ρ x).2.1 (o_count m ρ x).2.2)) (AE e) := by
  refine x_met1 (own := RX6) (nm := "count") (L := [(0, .ref e), (1, vi x)]) (by decide) rfl rfl (fun _ => rfl) (Nat.le_of_ble_eq_true rfl) rfl rfl ?_
  intro Γ B R
  obtain ⟨hV, hr, hb⟩ := hI.x
  have hn := hV.n
  have hr1 := hI.2.2.2.1.1
  have hW := hI.2.1
  have s3 := sumU_rg hV 3 (Or.inl rfl) (m 2).toNat (by omega)
  have s5 := sumU_rg hV 5 (Or.inr rfl) (m 2).toNat (by omega)
  have s5' : 12 * m 1 * ((m 2).toNat : Int) ≤ 12 * m 1 * 8 := Int.mul_le_mul_of_nonneg_left (by omega) (by omega)
  have g1 := cntP_rg (fun u => m (5 + 6 * u + 2) = -1 ∧ m (5 + 6 * u + 3) = 0 ∧ m (5 + 6 * u + 4) = 0) (m 2).toNat
  have g2 := cntP_rg (fun k => m (53 + k) = -1) 3
  have g3 := cntB_rg m (x - 4) (m 3).toNat
  refine x_PE (fun β od oc q F T pc0 rs pl at_ vs S hw hm => ?_)
  refine x_iload_n B dX6_count_0 rfl ?_
  refine x_tsw (tgt := 187) (tgs := [88, 96, 104, 112, 120, 120, 120, 120, 120, 120, 120, 131, 139, 147, 158, 163, 171, 179]) (n := 18) B dX6_count_1 (by decide) (by decide) rfl (by decide) (by omega) (fun s1 => ?_) (fun i1 l1 s1 => ?_)
  · refine x_iconst B dX6_count_187 ?_
    exact x_retE B R dX6_count_188 (by simp only [o_count]; (repeat (first | rfl | rw [if_pos (by omega)] | rw [if_neg (by omega)])); try (exfalso; omega)) (by omega) rfl rfl (by assumption)
  · obtain rfl | rfl | rfl | rfl | rfl | rfl | rfl | rfl | rfl | rfl | rfl | rfl | rfl | rfl | rfl | rfl | rfl | rfl := (show i1 = 0 ∨ i1 = 1 ∨ i1 = 2 ∨ i1 = 3 ∨ i1 = 4 ∨ i1 = 5 ∨ i1 = 6 ∨ i1 = 7 ∨ i1 = 8 ∨ i1 = 9 ∨ i1 = 10 ∨ i1 = 11 ∨ i1 = 12 ∨ i1 = 13 ∨ i1 = 14 ∨ i1 = 15 ∨ i1 = 16 ∨ i1 = 17 by omega)
    · refine x_aload_n B dX6_count_88 rfl ?_
      refine x_get B fgX6_28 dX6_count_89 (fun _ h => ⟨_, EX.o h, rfl⟩) ?_
      refine x_getI B fgX6_43 dX6_count_92 (EX.lf PS.g7) (fun r92 => ?_)
      exact x_retE B R dX6_count_95 (by simp only [o_count]; (repeat (first | rfl | rw [if_pos (by omega)] | rw [if_neg (by omega)])); try (exfalso; omega)) (by omega) rfl rfl (by assumption)
    · refine x_aload_n B dX6_count_96 rfl ?_
      refine x_get B fgX6_28 dX6_count_97 (fun _ h => ⟨_, EX.o h, rfl⟩) ?_
      refine x_fV B mvX6_75 (fun l => c_X3_brokenUnits (by omega) hb) dX6_count_100 rfl rfl (by decide) (by decide) (Nat.le_of_ble_eq_true rfl) EX.faP EX.fbP EX.fcP (fun r100 => ?_)
      exact x_retE B R dX6_count_103 (by simp only [o_count]; (repeat (first | rfl | rw [if_pos (by omega)] | rw [if_neg (by omega)])); try (exfalso; omega)) (by omega) rfl rfl (by assumption)
    · refine x_aload_n B dX6_count_104 rfl ?_
      refine x_get B fgX6_28 dX6_count_105 (fun _ h => ⟨_, EX.o h, rfl⟩) ?_
      refine x_fV B mvX6_241 (fun l => c_X3_freeUnits (by omega) (fun u u0 u1 => by have hu := hV.u u0 u1; unfold okU at hu; omega)) dX6_count_108 rfl rfl (by decide) (by decide) (Nat.le_of_ble_eq_true rfl) EX.faP EX.fbP EX.fcP (fun r108 => ?_)
      exact x_retE B R dX6_count_111 (by simp only [o_count]; (repeat (first | rfl | rw [if_pos (by omega)] | rw [if_neg (by omega)])); try (exfalso; omega)) (by omega) rfl rfl (by assumption)
    · refine x_aload_n B dX6_count_112 rfl ?_
      refine x_get B fgX6_28 dX6_count_113 (fun _ h => ⟨_, EX.o h, rfl⟩) ?_
      refine x_getI B fgX6_141 dX6_count_116 (EX.lf PS.g8) (fun r116 => ?_)
      exact x_retE B R dX6_count_119 (by simp only [o_count]; (repeat (first | rfl | rw [if_pos (by omega)] | rw [if_neg (by omega)])); try (exfalso; omega)) (by omega) rfl rfl (by assumption)
    · refine x_aload_n B dX6_count_120 rfl ?_
      refine x_get B fgX6_28 dX6_count_121 (fun _ h => ⟨_, EX.o h, rfl⟩) ?_
      refine x_iload_n B dX6_count_124 rfl ?_
      refine x_iconst B dX6_count_125 ?_
      refine x_isub B dX6_count_126 ?_
      refine x_fV B mvX6_157 (fun l => c_X3_batchesIn (by omega) (by omega)) dX6_count_127 rfl rfl (by decide) (by decide) (Nat.le_of_ble_eq_true rfl) EX.faP EX.fbP EX.fcP (fun r127 => ?_)
      exact x_retE B R dX6_count_130 (by simp only [o_count]; (repeat (first | rfl | rw [if_pos (by omega)] | rw [if_neg (by omega)])); try (exfalso; omega)) (by omega) rfl rfl (by assumption)
    · refine x_aload_n B dX6_count_120 rfl ?_
      refine x_get B fgX6_28 dX6_count_121 (fun _ h => ⟨_, EX.o h, rfl⟩) ?_
      refine x_iload_n B dX6_count_124 rfl ?_
      refine x_iconst B dX6_count_125 ?_
      refine x_isub B dX6_count_126 ?_
      refine x_fV B mvX6_157 (fun l => c_X3_batchesIn (by omega) (by omega)) dX6_count_127 rfl rfl (by decide) (by decide) (Nat.le_of_ble_eq_true rfl) EX.faP EX.fbP EX.fcP (fun r127 => ?_)
      exact x_retE B R dX6_count_130 (by simp only [o_count]; (repeat (first | rfl | rw [if_pos (by omega)] | rw [if_neg (by omega)])); try (exfalso; omega)) (by omega) rfl rfl (by assumption)
    · refine x_aload_n B dX6_count_120 rfl ?_
      refine x_get B fgX6_28 dX6_count_121 (fun _ h => ⟨_, EX.o h, rfl⟩) ?_
      refine x_iload_n B dX6_count_124 rfl ?_
      refine x_iconst B dX6_count_125 ?_
      refine x_isub B dX6_count_126 ?_
      refine x_fV B mvX6_157 (fun l => c_X3_batchesIn (by omega) (by omega)) dX6_count_127 rfl rfl (by decide) (by decide) (Nat.le_of_ble_eq_true rfl) EX.faP EX.fbP EX.fcP (fun r127 => ?_)
      exact x_retE B R dX6_count_130 (by simp only [o_count]; (repeat (first | rfl | rw [if_pos (by omega)] | rw [if_neg (by omega)])); try (exfalso; omega)) (by omega) rfl rfl (by assumption)
    · refine x_aload_n B dX6_count_120 rfl ?_
      refine x_get B fgX6_28 dX6_count_121 (fun _ h => ⟨_, EX.o h, rfl⟩) ?_
      refine x_iload_n B dX6_count_124 rfl ?_
      refine x_iconst B dX6_count_125 ?_
      refine x_isub B dX6_count_126 ?_
      refine x_fV B mvX6_157 (fun l => c_X3_batchesIn (by omega) (by omega)) dX6_count_127 rfl rfl (by decide) (by decide) (Nat.le_of_ble_eq_true rfl) EX.faP EX.fbP EX.fcP (fun r127 => ?_)
      exact x_retE B R dX6_count_130 (by simp only [o_count]; (repeat (first | rfl | rw [if_pos (by omega)] | rw [if_neg (by omega)])); try (exfalso; omega)) (by omega) rfl rfl (by assumption)
    · refine x_aload_n B dX6_count_120 rfl ?_
      refine x_get B fgX6_28 dX6_count_121 (fun _ h => ⟨_, EX.o h, rfl⟩) ?_
      refine x_iload_n B dX6_count_124 rfl ?_
      refine x_iconst B dX6_count_125 ?_
      refine x_isub B dX6_count_126 ?_
      refine x_fV B mvX6_157 (fun l => c_X3_batchesIn (by omega) (by omega)) dX6_count_127 rfl rfl (by decide) (by decide) (Nat.le_of_ble_eq_true rfl) EX.faP EX.fbP EX.fcP (fun r127 => ?_)
      exact x_retE B R dX6_count_130 (by simp only [o_count]; (repeat (first | rfl | rw [if_pos (by omega)] | rw [if_neg (by omega)])); try (exfalso; omega)) (by omega) rfl rfl (by assumption)
    · refine x_aload_n B dX6_count_120 rfl ?_
      refine x_get B fgX6_28 dX6_count_121 (fun _ h => ⟨_, EX.o h, rfl⟩) ?_
      refine x_iload_n B dX6_count_124 rfl ?_
      refine x_iconst B dX6_count_125 ?_
      refine x_isub B dX6_count_126 ?_
      refine x_fV B mvX6_157 (fun l => c_X3_batchesIn (by omega) (by omega)) dX6_count_127 rfl rfl (by decide) (by decide) (Nat.le_of_ble_eq_true rfl) EX.faP EX.fbP EX.fcP (fun r127 => ?_)
      exact x_retE B R dX6_count_130 (by simp only [o_count]; (repeat (first | rfl | rw [if_pos (by omega)] | rw [if_neg (by omega)])); try (exfalso; omega)) (by omega) rfl rfl (by assumption)
    · refine x_aload_n B dX6_count_120 rfl ?_
      refine x_get B fgX6_28 dX6_count_121 (fun _ h => ⟨_, EX.o h, rfl⟩) ?_
      refine x_iload_n B dX6_count_124 rfl ?_
      refine x_iconst B dX6_count_125 ?_
      refine x_isub B dX6_count_126 ?_
      refine x_fV B mvX6_157 (fun l => c_X3_batchesIn (by omega) (by omega)) dX6_count_127 rfl rfl (by decide) (by decide) (Nat.le_of_ble_eq_true rfl) EX.faP EX.fbP EX.fcP (fun r127 => ?_)
      exact x_retE B R dX6_count_130 (by simp only [o_count]; (repeat (first | rfl | rw [if_pos (by omega)] | rw [if_neg (by omega)])); try (exfalso; omega)) (by omega) rfl rfl (by assumption)
    · refine x_aload_n B dX6_count_131 rfl ?_
      refine x_get B fgX6_28 dX6_count_132 (fun _ h => ⟨_, EX.o h, rfl⟩) ?_
      refine x_getI B fgX6_230 dX6_count_135 (EX.lf PS.g10) (fun r135 => ?_)
      exact x_retE B R dX6_count_138 (by simp only [o_count]; (repeat (first | rfl | rw [if_pos (by omega)] | rw [if_neg (by omega)])); try (exfalso; omega)) (by omega) rfl rfl (by assumption)
    · refine x_aload_n B dX6_count_139 rfl ?_
      refine x_get B fgX6_28 dX6_count_140 (fun _ h => ⟨_, EX.o h, rfl⟩) ?_
      refine x_getI B fgX6_108 dX6_count_143 (EX.lf PS.g11) (fun r143 => ?_)
      exact x_retE B R dX6_count_146 (by simp only [o_count]; (repeat (first | rfl | rw [if_pos (by omega)] | rw [if_neg (by omega)])); try (exfalso; omega)) (by omega) rfl rfl (by assumption)
    · refine x_aload_n B dX6_count_147 rfl ?_
      refine x_get B fgX6_28 dX6_count_148 (fun _ h => ⟨_, EX.o h, rfl⟩) ?_
      refine x_get B fgX6_244 dX6_count_151 (EX.lf (fun _ h => ⟨_, PS.o h, rfl⟩)) ?_
      refine x_getI B fgX6_248 dX6_count_154 (EX.lf PS.gJl) (fun r154 => ?_)
      exact x_retE B R dX6_count_157 (by simp only [o_count]; (repeat (first | rfl | rw [if_pos (by omega)] | rw [if_neg (by omega)])); try (exfalso; omega)) (by omega) rfl rfl (by assumption)
    · refine x_aload_n B dX6_count_158 rfl ?_
      refine x_getI B fgX6_253 dX6_count_159 EX.g5 (fun r159 => ?_)
      exact x_retE B R dX6_count_162 (by simp only [o_count]; (repeat (first | rfl | rw [if_pos (by omega)] | rw [if_neg (by omega)])); try (exfalso; omega)) (by omega) rfl rfl (by assumption)
    · refine x_aload_n B dX6_count_163 rfl ?_
      refine x_get B fgX6_19 dX6_count_164 (fun _ h => ⟨_, EX.o h, rfl⟩) ?_
      refine x_getI B fgX6_256 dX6_count_167 (EX.lt TX.g2) (fun r167 => ?_)
      exact x_retE B R dX6_count_170 (by simp only [o_count]; (repeat (first | rfl | rw [if_pos (by omega)] | rw [if_neg (by omega)])); try (exfalso; omega)) (by omega) rfl rfl (by assumption)
    · refine x_aload_n B dX6_count_171 rfl ?_
      refine x_get B fgX6_28 dX6_count_172 (fun _ h => ⟨_, EX.o h, rfl⟩) ?_
      refine x_fV B mvX6_257 (fun l => c_X3_workedTicks (by omega) (by omega)) dX6_count_175 rfl rfl (by decide) (by decide) (Nat.le_of_ble_eq_true rfl) EX.faP EX.fbP EX.fcP (fun r175 => ?_)
      exact x_retE B R dX6_count_178 (by simp only [o_count]; (repeat (first | rfl | rw [if_pos (by omega)] | rw [if_neg (by omega)])); try (exfalso; omega)) (by omega) rfl rfl (by assumption)
    · refine x_aload_n B dX6_count_179 rfl ?_
      refine x_get B fgX6_28 dX6_count_180 (fun _ h => ⟨_, EX.o h, rfl⟩) ?_
      refine x_fV B mvX6_260 (fun l => c_X3_freePieces ) dX6_count_183 rfl rfl (by decide) (by decide) (Nat.le_of_ble_eq_true rfl) EX.faP EX.fbP EX.fcP (fun r183 => ?_)
      exact x_retE B R dX6_count_186 (by simp only [o_count]; (repeat (first | rfl | rw [if_pos (by omega)] | rw [if_neg (by omega)])); try (exfalso; omega)) (by omega) rfl rfl (by assumption)
end OPC2

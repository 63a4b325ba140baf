/-! ===== the executive: restart, the order, runs, events, undo ===== -/
section OPC3
variable {G : xG} {l : Launch} {e : Nat} {m : Int → Int} {ρ : Nat → Int → Int} {W : Int}
theorem c_X6_restart {x : Int} (hI : IL m ρ) (h3 : -2147483648 ≤ x ∧ x < 2147483648) : CT G l yX6_restart cX6_restart 2 (some .int) ({ frames := 4, cells := 0, slots := 0, locals := 97 } : Room) 0 0 [.ref e, vi x] (PE G e m ρ) (pI (o_restart m ρ x).1 (PE G e (o_restart m ρ x).2.1 (o_restart m ρ x).2.2)) (AE e) := by
  refine x_met1 (own := RX6) (nm := "restart") (L := [(0, .ref e), (1, vi x)]) (by decide) rfl rfl (fun _ => rfl) (Nat.le_of_ble_eq_true rfl) rfl rfl ?_
  intro Γ B R
  obtain ⟨hV, hr, hb⟩ := hI.x
  have hn := hV.n
  refine x_PE (fun β od oc q F T pc0 rs pl at_ vs S hw hm => ?_)
  refine x_aload_n B dX6_restart_0 rfl ?_
  refine x_iload_n B dX6_restart_1 rfl ?_
  refine x_mZ B mvX6_135 (fun l => c_X6_isBatch (by omega) (by omega)) dX6_restart_2 rfl rfl (by decide) (by decide) (Nat.le_of_ble_eq_true rfl) EX.rv ?_
  refine x_ifz_ne (tgt := 10) B dX6_restart_5 (by decide) (fun c5 => ?_) (fun c5 => ?_)
  · have hbx := hV.b (b := x) (by omega) (by omega)
    unfold okB at hbx
    refine x_aload_n B dX6_restart_10 rfl ?_
    refine x_get B fgX6_28 dX6_restart_11 (fun _ h => ⟨_, EX.o h, rfl⟩) ?_
    refine x_get B fgX6_148 dX6_restart_14 (EX.lf (fun _ h => ⟨_, PS.o h, rfl⟩)) ?_
    refine x_iload_n B dX6_restart_17 rfl ?_
    refine x_aald (j := 4) B dX6_restart_18 rfl (by omega) (by decide) (EX.lf (PS.ab (by omega))) ?_
    refine x_getI B fgX6_152 dX6_restart_19 (EX.lf (PS.gb5 (by omega))) (fun r19 => ?_)
    refine x_iconst B dX6_restart_22 ?_
    refine x_icmp_ne (tgt := 37) B dX6_restart_23 (by decide) (by omega) (by omega) (fun c23 => ?_) (fun c23 => ?_)
    · refine x_bipush B dX6_restart_37 (by decide) ?_
      exact x_retE B R dX6_restart_39 (by simp only [o_restart]; (repeat (first | rfl | rw [if_pos (by omega)] | rw [if_neg (by omega)])); try (exfalso; omega)) (by omega) rfl rfl (by assumption)
    · refine x_aload_n B dX6_restart_26 rfl ?_
      refine x_get B fgX6_28 dX6_restart_27 (fun _ h => ⟨_, EX.o h, rfl⟩) ?_
      refine x_iload_n B dX6_restart_30 rfl ?_
      refine x_fZ B mvX6_168 (fun l => c_X3_hasBrokenUnit (by omega) (by omega) (by omega) hb) dX6_restart_31 rfl rfl (by decide) (by decide) (Nat.le_of_ble_eq_true rfl) EX.faP EX.fbP EX.fcP ?_
      refine x_ifz_eq (tgt := 40) B dX6_restart_34 (by decide) (fun c34 => ?_) (fun c34 => ?_)
      · refine x_aload_n B dX6_restart_40 rfl ?_
        refine x_mN B mvX6_47 (fun l => c_X6_record hw.1 hb) dX6_restart_41 rfl rfl (by decide) (by decide) (Nat.le_of_ble_eq_true rfl) EX.rv ?_
        refine x_RE hw hr (fun q' F' S' hw' => ?_)
        refine x_aload_n B dX6_restart_44 rfl ?_
        refine x_get B fgX6_28 dX6_restart_45 (fun _ h => ⟨_, EX.o h, rfl⟩) ?_
        refine x_iload_n B dX6_restart_48 rfl ?_
        refine x_fN B mvX6_171 (fun l => c_X3_restartBatch (Iv0.rdC (Iv_iff.mp hV).1 (by omega) (by omega) (by omega))) dX6_restart_49 rfl rfl (by decide) (by decide) (Nat.le_of_ble_eq_true rfl) EX.faP EX.fbP EX.fcP ?_
        have hwG := restart_wG hV (x := x) (by omega) (by omega) (by omega)
        have hV' := wG_Iv hwG hV (by omega) (by omega)
        have e3 : s_restart m x 3 = m 3 := hwG.1 3 (by omega) (by omega) (by omega)
        have hbx' := hV'.b (b := x) (by omega) (by omega)
        unfold okB at hbx'
        have e5 : s_restart m x (548 + 10 * x + 5) = 1 := by
          unfold s_restart
          try dsimp only
          rw [s_note_ne (by omega) (by omega), up_ne (by omega), up_eq rfl]
        refine x_aload_n B dX6_restart_52 rfl ?_
        refine x_get B fgX6_28 dX6_restart_53 (fun _ h => ⟨_, EX.o h, rfl⟩) ?_
        refine x_iload_n B dX6_restart_56 rfl ?_
        refine x_fV B mvX6_174 (fun l => c_X3_ticksLeft (Iv0.rdC (Iv_iff.mp hV').1 (by omega) (by omega) (by omega)) (by omega)) dX6_restart_57 rfl rfl (by decide) (by decide) (Nat.le_of_ble_eq_true rfl) EX.faP EX.fbP EX.fcP (fun r57 => ?_)
        exact x_retE B R dX6_restart_60 (by simp only [o_restart]; (repeat (first | rfl | rw [if_pos (by omega)] | rw [if_neg (by omega)])); try (exfalso; omega)) (by omega) rfl rfl (by assumption)
      · refine x_bipush B dX6_restart_37 (by decide) ?_
        exact x_retE B R dX6_restart_39 (by simp only [o_restart]; (repeat (first | rfl | rw [if_pos (by omega)] | rw [if_neg (by omega)])); try (exfalso; omega)) (by omega) rfl rfl (by assumption)
  · refine x_iconst B dX6_restart_8 ?_
    exact x_retE B R dX6_restart_9 (by simp only [o_restart]; (repeat (first | rfl | rw [if_pos (by omega)] | rw [if_neg (by omega)])); try (exfalso; omega)) (by omega) rfl rfl (by assumption)
theorem sort_any (m od od' : Int → Int) {x : Int} (hx : 0 ≤ x) {n : Nat} : (s_sort m od n).2 = (s_sort m od' n).2 ∧ (x < (s_sort m od n).2 → (s_sort m od n).1 x = (s_sort m od' n).1 x) := by
  obtain ⟨h1, h2⟩ := sort_rep (m := m) (od := od) (n := n)
  obtain ⟨h3, h4⟩ := sort_rep (m := m) (od := od') (n := n)
  refine ⟨by omega, fun h => ?_⟩
  have a := h2 x.toNat (by omega)
  have b := h4 x.toNat (by omega)
  rw [a] at b
  rw [show ((x.toNat : Nat) : Int) = x by omega] at b
  exact Option.some.inj b
theorem c_X6_inOrder {x : Int} (hI : IL m ρ) (h3 : -2147483648 ≤ x ∧ x < 2147483648) : CT G l yX6_inOrder cX6_inOrder 2 (some .int) ({ frames := 2, cells := 0, slots := 0, locals := 43 } : Room) 0 0 [.ref e, vi x] (PE G e m ρ) (pI (o_inOrder m ρ x).1 (PE G e (o_inOrder m ρ x).2.1 (o_inOrder m ρ x).2.2)) (AE e) := by
  refine x_met1 (own := RX6) (nm := "inOrder") (L := [(0, .ref e), (1, vi x)]) (by decide) rfl rfl (fun _ => rfl) (Nat.le_of_ble_eq_true rfl) rfl rfl ?_
  intro Γ B R
  obtain ⟨hV, hr, hb⟩ := hI.x
  have hn := hV.n
  refine x_PE (fun β od oc q F T pc0 rs pl at_ vs S hw hm => ?_)
  refine x_iload_n B dX6_inOrder_0 rfl ?_
  refine x_if_ge (tgt := 6) B dX6_inOrder_1 (by decide) (by omega) (fun c1 => ?_) (fun c1 => ?_)
  · refine x_aload_n B dX6_inOrder_6 rfl ?_
    refine x_get B fgX6_28 dX6_inOrder_7 (fun _ h => ⟨_, EX.o h, rfl⟩) ?_
    refine x_fN B mvX6_221 (fun l => c_X3_arrange (by omega)) dX6_inOrder_10 rfl rfl (by decide) (by decide) (Nat.le_of_ble_eq_true rfl) EX.faP EX.fbP EX.fcP ?_
    have hs := s_sort_rg m od (m 3).toNat
    have ha := sort_any m od (ρ 4) (x := x) (by omega) (n := (m 3).toNat)
    refine x_iload_n B dX6_inOrder_13 rfl ?_
    refine x_aload_n B dX6_inOrder_14 rfl ?_
    refine x_get B fgX6_28 dX6_inOrder_15 (fun _ h => ⟨_, EX.o h, rfl⟩) ?_
    refine x_getI B fgX6_224 dX6_inOrder_18 (EX.lf PS.g9) (fun r18 => ?_)
    refine x_icmp_ge (tgt := 36) B dX6_inOrder_21 (by decide) (by omega) (by omega) (fun c21 => ?_) (fun c21 => ?_)
    · refine x_bipush B dX6_inOrder_36 (by decide) ?_
      first
        | exact x_retE (ρ' := ur ρ 4 (s_sort m (ρ 4) (m 3).toNat).1) B R dX6_inOrder_38 (by simp only [o_inOrder]; rw [if_neg (by omega), if_pos (by omega), ha.2 (by omega)]) (by omega) rfl rfl hw
        | exact x_retE (ρ' := ur ρ 4 (s_sort m (ρ 4) (m 3).toNat).1) B R dX6_inOrder_38 (by simp only [o_inOrder]; rw [if_neg (by omega), if_neg (by omega)]) (by omega) rfl rfl hw
    · refine x_aload_n B dX6_inOrder_24 rfl ?_
      refine x_get B fgX6_28 dX6_inOrder_25 (fun _ h => ⟨_, EX.o h, rfl⟩) ?_
      refine x_get B fgX6_227 dX6_inOrder_28 (EX.lf (fun _ h => ⟨_, PS.o h, rfl⟩)) ?_
      refine x_iload_n B dX6_inOrder_31 rfl ?_
      refine x_ialdR B dX6_inOrder_32 (by omega) (by decide) (EX.lf PS.ao) (fun r32 => ?_)
      refine x_goto (tgt := 38) B dX6_inOrder_33 (by decide) ?_
      first
        | exact x_retE (ρ' := ur ρ 4 (s_sort m (ρ 4) (m 3).toNat).1) B R dX6_inOrder_38 (by simp only [o_inOrder]; rw [if_neg (by omega), if_pos (by omega), ha.2 (by omega)]) (by omega) rfl rfl hw
        | exact x_retE (ρ' := ur ρ 4 (s_sort m (ρ 4) (m 3).toNat).1) B R dX6_inOrder_38 (by simp only [o_inOrder]; rw [if_neg (by omega), if_neg (by omega)]) (by omega) rfl rfl hw
  · refine x_iconst B dX6_inOrder_4 ?_
    exact x_retE B R dX6_inOrder_5 (by simp only [o_inOrder]; rw [if_pos (by omega)]) (by omega) rfl rfl hw
theorem c_X6_run {x : Int} (hI : IL m ρ) (h3 : -2147483648 ≤ x ∧ x < 2147483648) : CT G l yX6_run cX6_run 4 (some .int) ({ frames := 6, cells := 0, slots := 0, locals := 140 } : Room) 0 0 [.ref e, vi x] (PE G e m ρ) (pI (o_run m ρ x).1 (PE G e (o_run m ρ x).2.1 (o_run m ρ x).2.2)) (AE e) := by
  refine x_met1 (own := RX6) (nm := "run") (L := [(0, .ref e), (1, vi x)]) (by decide) rfl rfl (fun _ => rfl) (Nat.le_of_ble_eq_true rfl) rfl rfl ?_
  intro Γ B R
  obtain ⟨hV, hr, hb⟩ := hI.x
  have hn := hV.n
  have hT := hI.2.1
  have loop : ∀ (r : Nat) (k : Nat) (L : List (Nat × Value)) (β : Nat → Int → Int) (od : Int → Int) (oc : Int) (q : Nat) (F : Nat → Option Nat) (T : Int → Int) (pc0 rs pl at_ : Int) (vs : Nat → Int → Int) (S : Int → Int → Int), okW e q F T S (s_keep m ρ) → (1 ≤ x ∧ x ≤ 500) → m 1 + x ≤ 50000 → (k : Int) + r = x → oc = (ordL m (m 3).toNat).length → lrep od (ordL m (m 3).toNat) → (∀ p2 ∈ [(0, Value.ref e), (1, vi x), (2, vi (cntB m 6 (m 3).toNat)), (3, vi (k : Int))], lget L p2.1 = some p2.2) → XJ Γ 0 0 (EX G e β (s_ticks k m) od oc q F T (s_keep m ρ 5 1) pc0 rs pl at_ vs (s_keep m ρ 5 0) S) 53 L [] := by
    intro r
    induction r with
    | zero =>
      intro k L β od oc q F T pc0 rs pl at_ vs S hw hx ht hk ho hl hL
      refine x_locs hL ?_
      obtain ⟨g0, g1, g2, g3, g4, g5⟩ := ticks_E hV k (by omega)
      have e3 := g2 3 (by omega)
      have hc1 := cntB_rg m 6 (m 3).toNat
      have hc2 := cntB_rg (s_ticks k m) 6 (s_ticks k m 3).toNat
      have ek : x.toNat = k := by omega
      refine x_iload_n B dX6_run_53 rfl ?_
      refine x_iload_n B dX6_run_54 rfl ?_
      refine x_icmp_ge (tgt := 72) B dX6_run_55 (by decide) (by omega) (by omega) (fun c55 => ?_) (fun c55 => ?_)
      · refine x_aload_n B dX6_run_72 rfl ?_
        refine x_get B fgX6_28 dX6_run_73 (fun _ h => ⟨_, EX.o h, rfl⟩) ?_
        refine x_bipush B dX6_run_76 (by decide) ?_
        refine x_fV B mvX6_157 (fun l => c_X3_batchesIn (by omega) (by omega)) dX6_run_78 rfl rfl (by decide) (by decide) (Nat.le_of_ble_eq_true rfl) EX.faP EX.fbP EX.fcP (fun r78 => ?_)
        refine x_iload_n B dX6_run_81 rfl ?_
        refine x_isub B dX6_run_82 ?_
        exact x_retE B R dX6_run_83 (by simp only [o_run]; rw [if_neg (by omega), if_neg (by omega), ek]) (by omega) rfl rfl hw
      · omega
    | succ r ih =>
      intro k L β od oc q F T pc0 rs pl at_ vs S hw hx ht hk ho hl hL
      refine x_locs hL ?_
      obtain ⟨g0, g1, g2, g3, g4, g5⟩ := ticks_E hV k (by omega)
      have e3 := g2 3 (by omega)
      have hpt : (passM (ordL m (m 3).toNat) (s_ticks k m)).1 = s_ticks (k + 1) m := passM_tick g0 e3 (fun b b0 b1 => g3 b 3 b0 (by omega) (by omega) (by omega)) (fun b b0 b1 ha => by have := g5 b b0 (by omega); omega)
      have hlen := ordL_len (m := m) (n := (m 3).toNat)
      refine x_iload_n B dX6_run_53 rfl ?_
      refine x_iload_n B dX6_run_54 rfl ?_
      refine x_icmp_ge (tgt := 72) B dX6_run_55 (by decide) (by omega) (by omega) (fun c55 => ?_) (fun c55 => ?_)
      · omega
      · refine x_aload_n B dX6_run_58 rfl ?_
        refine x_get B fgX6_28 dX6_run_59 (fun _ h => ⟨_, EX.o h, rfl⟩) ?_
        refine x_fZ B mvX6_234 (fun l => c_X3_passTick g0 (by omega) (by omega) ho hl (fun c hc => by have := ordL_mem.mp hc; omega) (by omega)) dX6_run_62 rfl rfl (by decide) (by decide) (Nat.le_of_ble_eq_true rfl) EX.faP EX.fbP EX.fcP ?_
        rw [hpt]
        refine x_pop B dX6_run_65 rfl ?_
        refine x_iinc B dX6_run_66 rfl (by decide) ?_
        refine x_goto (tgt := 53) B dX6_run_69 (by decide) ?_
        exact ih (k + 1) _ β od oc q F T pc0 rs pl at_ vs S hw hx ht (by omega) ho hl (xl_cons rfl (xl_cons rfl (xl_cons rfl (xl_cons rfl xl_nil))))
  refine x_PE (fun β od oc q F T pc0 rs pl at_ vs S hw hm => ?_)
  refine x_iload_n B dX6_run_0 rfl ?_
  refine x_iconst B dX6_run_1 ?_
  refine x_sipush B dX6_run_2 (by decide) ?_
  refine x_sZ B msX6_39 (fun l => c_X6_isWithin (by omega) (by omega) (by omega)) dX6_run_5 rfl rfl (by decide) (by decide) (Nat.le_of_ble_eq_true rfl) ?_
  refine x_ifz_ne (tgt := 13) B dX6_run_8 (by decide) (fun c8 => ?_) (fun c8 => ?_)
  · refine x_aload_n B dX6_run_13 rfl ?_
    refine x_get B fgX6_28 dX6_run_14 (fun _ h => ⟨_, EX.o h, rfl⟩) ?_
    refine x_getI B fgX6_230 dX6_run_17 (EX.lf PS.g10) (fun r17 => ?_)
    refine x_iload_n B dX6_run_20 rfl ?_
    refine x_iadd B dX6_run_21 ?_
    refine x_ldc (n := 50000) B dX6_run_22 ckX6_233 rfl ?_
    refine x_icmp_le (tgt := 30) B dX6_run_24 (by decide) (by omega) (by omega) (fun c24 => ?_) (fun c24 => ?_)
    · refine x_aload_n B dX6_run_30 rfl ?_
      refine x_mN B mvX6_47 (fun l => c_X6_record hw.1 hb) dX6_run_31 rfl rfl (by decide) (by decide) (Nat.le_of_ble_eq_true rfl) EX.rv ?_
      refine x_RE hw hr (fun q' F' S' hw' => ?_)
      refine x_aload_n B dX6_run_34 rfl ?_
      refine x_get B fgX6_28 dX6_run_35 (fun _ h => ⟨_, EX.o h, rfl⟩) ?_
      refine x_bipush B dX6_run_38 (by decide) ?_
      refine x_fV B mvX6_157 (fun l => c_X3_batchesIn (by omega) (by omega)) dX6_run_40 rfl rfl (by decide) (by decide) (Nat.le_of_ble_eq_true rfl) EX.faP EX.fbP EX.fcP (fun r40 => ?_)
      refine x_istore_n B dX6_run_43 (by decide) ?_
      refine x_aload_n B dX6_run_44 rfl ?_
      refine x_get B fgX6_28 dX6_run_45 (fun _ h => ⟨_, EX.o h, rfl⟩) ?_
      refine x_fN B mvX6_221 (fun l => c_X3_arrange (by omega)) dX6_run_48 rfl rfl (by decide) (by decide) (Nat.le_of_ble_eq_true rfl) EX.faP EX.fbP EX.fcP ?_
      refine x_iconst B dX6_run_51 ?_
      refine x_istore_n B dX6_run_52 (by decide) ?_
      exact loop x.toNat 0 _ β _ _ q' F' T pc0 rs pl at_ vs S' hw' (by omega) (by omega) (by omega) (by rw [sort_rep.1]) sort_rep.2 (xl_cons rfl (xl_cons rfl (xl_cons rfl (xl_cons rfl xl_nil))))
    · refine x_bipush B dX6_run_27 (by decide) ?_
      exact x_retE B R dX6_run_29 (by simp only [o_run]; (repeat (first | rfl | rw [if_pos (by omega)] | rw [if_neg (by omega)])); try (exfalso; omega)) (by omega) rfl rfl (by assumption)
  · refine x_iconst B dX6_run_11 ?_
    exact x_retE B R dX6_run_12 (by simp only [o_run]; (repeat (first | rfl | rw [if_pos (by omega)] | rw [if_neg (by omega)])); try (exfalso; omega)) (by omega) rfl rfl (by assumption)
theorem c_X2_find {P : Heap → Prop} {A : Nat → Prop} {j : Nat} {nx ln : Int} {j0 j1 j2 : Int → Int} {i w : Int} (hp : ∀ H, P H → JR G j nx ln j0 j1 j2 H) (hi : 0 ≤ i ∧ i < 40) (hnx : 0 ≤ nx ∧ nx < 40) (hw : 0 ≤ w ∧ w ≤ 2) : CT G l yX2_find cX2_find 4 (some .int) ({ frames := 0, cells := 0, slots := 0, locals := 0 } : Room) 0 0 [.ref j, vi i, vi w] P (pI (if w = 0 then j0 ((nx + 39 - i) % 40) else if w = 1 then j1 ((nx + 39 - i) % 40) else j2 ((nx + 39 - i) % 40)) P) A := by
  have er : (nx + 40 - 1 - i) % 40 = (nx + 39 - i) % 40 := by omega
  have hm : 0 ≤ (nx + 39 - i) % 40 ∧ (nx + 39 - i) % 40 < 40 := by omega
  have hw3 : w = 0 ∨ w = 1 ∨ w = 2 := by omega
  rcases hw3 with hw3 | hw3 | hw3 <;> subst hw3
  · rw [if_pos rfl]
    refine x_met1 (own := RX2) (nm := "find") (L := [(0, .ref j), (1, vi i), (2, vi 0)]) (by decide) rfl rfl (fun _ => rfl) (Nat.le_of_ble_eq_true rfl) rfl rfl ?_
    intro Γ B R
    refine x_aload_n B dX2_find_0 rfl ?_
    refine x_getI B fgX2_21 dX2_find_1 (fun H h => ⟨_, (hp H h).1, rfl, by omega⟩) (fun r1 => ?_)
    refine x_bipush B dX2_find_4 (by decide) ?_
    refine x_iadd B dX2_find_6 ?_
    refine x_iconst B dX2_find_7 ?_
    refine x_isub B dX2_find_8 ?_
    refine x_iload_n B dX2_find_9 rfl ?_
    refine x_isub B dX2_find_10 ?_
    refine x_bipush B dX2_find_11 (by decide) ?_
    refine x_irem B dX2_find_13 (by omega) (by omega) ?_
    rw [er]
    generalize (nx + 39 - i) % 40 = z at *
    refine x_istore_n B dX2_find_14 (by decide) ?_
    refine x_iload_n B dX2_find_15 rfl ?_
    refine x_lookup (tgt := 44) (off := 28) B dX2_find_16 (by decide) (by decide) (by decide) ?_
    refine x_aload_n B dX2_find_44 rfl ?_
    refine x_get B fgX2_9 dX2_find_45 (fun H h => ⟨_, (hp H h).1, rfl⟩) ?_
    refine x_iload_n B dX2_find_48 rfl ?_
    refine x_ialdR B dX2_find_49 (by omega) (by decide) (fun H h => ⟨(hp H h).2.1, fun k => ((hp H h).2.2.2.2.2.2 k).1⟩) (fun r49 => ?_)
    exact x_retI B R dX2_find_50 (by first | rfl | omega) (by omega) (fun H h => by exact h)
  · rw [if_neg (by decide), if_pos rfl]
    refine x_met1 (own := RX2) (nm := "find") (L := [(0, .ref j), (1, vi i), (2, vi 1)]) (by decide) rfl rfl (fun _ => rfl) (Nat.le_of_ble_eq_true rfl) rfl rfl ?_
    intro Γ B R
    refine x_aload_n B dX2_find_0 rfl ?_
    refine x_getI B fgX2_21 dX2_find_1 (fun H h => ⟨_, (hp H h).1, rfl, by omega⟩) (fun r1 => ?_)
    refine x_bipush B dX2_find_4 (by decide) ?_
    refine x_iadd B dX2_find_6 ?_
    refine x_iconst B dX2_find_7 ?_
    refine x_isub B dX2_find_8 ?_
    refine x_iload_n B dX2_find_9 rfl ?_
    refine x_isub B dX2_find_10 ?_
    refine x_bipush B dX2_find_11 (by decide) ?_
    refine x_irem B dX2_find_13 (by omega) (by omega) ?_
    rw [er]
    generalize (nx + 39 - i) % 40 = z at *
    refine x_istore_n B dX2_find_14 (by decide) ?_
    refine x_iload_n B dX2_find_15 rfl ?_
    refine x_lookup (tgt := 51) (off := 35) B dX2_find_16 (by decide) (by decide) (by decide) ?_
    refine x_aload_n B dX2_find_51 rfl ?_
    refine x_get B fgX2_15 dX2_find_52 (fun H h => ⟨_, (hp H h).1, rfl⟩) ?_
    refine x_iload_n B dX2_find_55 rfl ?_
    refine x_ialdR B dX2_find_56 (by omega) (by decide) (fun H h => ⟨(hp H h).2.2.1, fun k => ((hp H h).2.2.2.2.2.2 k).2.1⟩) (fun r56 => ?_)
    exact x_retI B R dX2_find_57 (by first | rfl | omega) (by omega) (fun H h => by exact h)
  · rw [if_neg (by decide), if_neg (by decide)]
    refine x_met1 (own := RX2) (nm := "find") (L := [(0, .ref j), (1, vi i), (2, vi 2)]) (by decide) rfl rfl (fun _ => rfl) (Nat.le_of_ble_eq_true rfl) rfl rfl ?_
    intro Γ B R
    refine x_aload_n B dX2_find_0 rfl ?_
    refine x_getI B fgX2_21 dX2_find_1 (fun H h => ⟨_, (hp H h).1, rfl, by omega⟩) (fun r1 => ?_)
    refine x_bipush B dX2_find_4 (by decide) ?_
    refine x_iadd B dX2_find_6 ?_
    refine x_iconst B dX2_find_7 ?_
    refine x_isub B dX2_find_8 ?_
    refine x_iload_n B dX2_find_9 rfl ?_
    refine x_isub B dX2_find_10 ?_
    refine x_bipush B dX2_find_11 (by decide) ?_
    refine x_irem B dX2_find_13 (by omega) (by omega) ?_
    rw [er]
    generalize (nx + 39 - i) % 40 = z at *
    refine x_istore_n B dX2_find_14 (by decide) ?_
    refine x_iload_n B dX2_find_15 rfl ?_
    refine x_lookup (tgt := 58) (off := 42) B dX2_find_16 (by decide) (by decide) (by decide) ?_
    refine x_aload_n B dX2_find_58 rfl ?_
    refine x_get B fgX2_18 dX2_find_59 (fun H h => ⟨_, (hp H h).1, rfl⟩) ?_
    refine x_iload_n B dX2_find_62 rfl ?_
    refine x_ialdR B dX2_find_63 (by omega) (by decide) (fun H h => ⟨(hp H h).2.2.2.1, fun k => ((hp H h).2.2.2.2.2.2 k).2.2⟩) (fun r63 => ?_)
    exact x_retI B R dX2_find_64 (by first | rfl | omega) (by omega) (fun H h => by exact h)
theorem c_X6_event {x y : Int} (hI : IL m ρ) (h3 : -2147483648 ≤ x ∧ x < 2147483648) (h4 : -2147483648 ≤ y ∧ y < 2147483648) : CT G l yX6_event cX6_event 3 (some .int) ({ frames := 1, cells := 0, slots := 0, locals := 23 } : Room) 0 0 [.ref e, vi x, vi y] (PE G e m ρ) (pI (o_event m ρ x y).1 (PE G e (o_event m ρ x y).2.1 (o_event m ρ x y).2.2)) (AE e) := by
  refine x_met1 (own := RX6) (nm := "event") (L := [(0, .ref e), (1, vi x), (2, vi y)]) (by decide) rfl rfl (fun _ => rfl) (Nat.le_of_ble_eq_true rfl) rfl rfl ?_
  intro Γ B R
  obtain ⟨hV, hr, hb⟩ := hI.x
  have hn := hV.n
  refine x_PE (fun β od oc q F T pc0 rs pl at_ vs S hw hm => ?_)
  refine x_iload_n B dX6_event_0 rfl ?_
  refine x_if_lt (tgt := 13) B dX6_event_1 (by decide) (by omega) (fun c1 => ?_) (fun c1 => ?_)
  · refine x_iconst B dX6_event_13 ?_
    exact x_retE B R dX6_event_14 (by simp only [o_event]; (repeat (first | rfl | rw [if_pos (by omega)] | rw [if_neg (by omega)])); try (exfalso; omega)) (by omega) rfl rfl (by assumption)
  · refine x_iload_n B dX6_event_4 rfl ?_
    refine x_iconst B dX6_event_5 ?_
    refine x_iconst B dX6_event_6 ?_
    refine x_sZ B msX6_39 (fun l => c_X6_isWithin (by omega) (by omega) (by omega)) dX6_event_7 rfl rfl (by decide) (by decide) (Nat.le_of_ble_eq_true rfl) ?_
    refine x_ifz_ne (tgt := 15) B dX6_event_10 (by decide) (fun c10 => ?_) (fun c10 => ?_)
    · refine x_iload_n B dX6_event_15 rfl ?_
      refine x_aload_n B dX6_event_16 rfl ?_
      refine x_get B fgX6_28 dX6_event_17 (fun _ h => ⟨_, EX.o h, rfl⟩) ?_
      refine x_get B fgX6_244 dX6_event_20 (EX.lf (fun _ h => ⟨_, PS.o h, rfl⟩)) ?_
      refine x_getI B fgX6_248 dX6_event_23 (EX.lf PS.gJl) (fun r23 => ?_)
      refine x_icmp_ge (tgt := 44) B dX6_event_26 (by decide) (by omega) (by omega) (fun c26 => ?_) (fun c26 => ?_)
      · refine x_bipush B dX6_event_44 (by decide) ?_
        exact x_retE B R dX6_event_46 (by simp only [o_event]; (repeat (first | rfl | rw [if_pos (by omega)] | rw [if_neg (by omega)])); try (exfalso; omega)) (by omega) rfl rfl (by assumption)
      · refine x_aload_n B dX6_event_29 rfl ?_
        refine x_get B fgX6_28 dX6_event_30 (fun _ h => ⟨_, EX.o h, rfl⟩) ?_
        refine x_get B fgX6_244 dX6_event_33 (EX.lf (fun _ h => ⟨_, PS.o h, rfl⟩)) ?_
        refine x_iload_n B dX6_event_36 rfl ?_
        refine x_iload_n B dX6_event_37 rfl ?_
        refine x_ex (ι := Int × (Int → Int) × (Int → Int) × (Int → Int)) (P' := fun i H => EX G e β m od oc q F T (ρ 5 1) pc0 rs pl at_ vs (ρ 5 0) S H ∧ JR G (e + 17 + 5) i.1 (m 4) i.2.1 i.2.2.1 i.2.2.2 H ∧ jOK m i.1 i.2.1 i.2.2.1 i.2.2.2) (fun H h => by
          obtain ⟨nx, i0, i1, i2, h1, h2⟩ := h.2.1.1.1.2.2.2.2.2.1
          exact ⟨(nx, i0, i1, i2), h, h1, h2⟩) (fun i => ?_)
        obtain ⟨nx, j0, j1, j2⟩ := i
        refine x_fact (fun H h => (⟨h.2.2, h.2.1.rg⟩ : _ ∧ _)) (fun hj => ?_)
        obtain ⟨hj, hjr⟩ := hj
        simp only at hj hjr
        obtain ⟨a1, a2, a3⟩ := hj x (by omega) (by omega)
        have ev : (if y = 0 then j0 ((nx + 39 - x) % 40) else if y = 1 then j1 ((nx + 39 - x) % 40) else j2 ((nx + 39 - x) % 40)) = m (668 + 3 * x + y) := by
          by_cases c0 : y = 0
          · rw [if_pos c0, a1, c0]
          · by_cases c1 : y = 1
            · rw [if_neg c0, if_pos c1, a2, c1]
            · rw [if_neg c0, if_neg c1, a3, show y = 2 by omega]
        refine x_mV B mvX6_263 (fun l => (c_X2_find (fun H h => h.2.1) (by omega) hjr.1 (by omega)) ) dX6_event_38 rfl rfl (by decide) (by decide) (Nat.le_of_ble_eq_true rfl) (fun H h => ⟨_, h.2.1.1⟩) (fun r38 => ?_)
        refine x_weak (fun H h => h.1) ?_
        refine x_top ev ?_
        simp only at r38
        rw [ev] at r38
        refine x_goto (tgt := 46) B dX6_event_41 (by decide) ?_
        exact x_retE B R dX6_event_46 (by simp only [o_event]; (repeat (first | rfl | rw [if_pos (by omega)] | rw [if_neg (by omega)])); try (exfalso; omega)) (by omega) rfl rfl (by assumption)
    · refine x_iconst B dX6_event_13 ?_
      exact x_retE B R dX6_event_14 (by simp only [o_event]; (repeat (first | rfl | rw [if_pos (by omega)] | rw [if_neg (by omega)])); try (exfalso; omega)) (by omega) rfl rfl (by assumption)
theorem okW.un {q : Nat} {F : Nat → Option Nat} {T : Int → Int} {S : Int → Int → Int} (hw : okW e q F T S ρ) : okW e q F T S (ur ρ 5 (up (ρ 5) 0 (ρ 5 0 - 1))) := by
  refine ⟨hw.1, hw.2.1, fun i i0 i1 k k0 k1 => ?_⟩
  have i2 : i < ρ 5 0 - 1 := i1
  exact hw.2.2 i i0 (by omega) k k0 k1
theorem c_X6_undo (hI : IL m ρ) (hρ : ∀ j k, -2147483648 ≤ ρ j k ∧ ρ j k < 2147483648) : CT G l yX6_undo cX6_undo 1 (some .int) ({ frames := 3, cells := 0, slots := 0, locals := 75 } : Room) 0 0 [.ref e] (PE G e m ρ) (pI (o_undo m ρ).1 (PE G e (o_undo m ρ).2.1 (o_undo m ρ).2.2)) (AE e) := by
  refine x_met1 (own := RX6) (nm := "undo") (L := [(0, .ref e)]) (by decide) rfl rfl (fun _ => rfl) (Nat.le_of_ble_eq_true rfl) rfl rfl ?_
  intro Γ B R
  obtain ⟨hV, hr, hb⟩ := hI.x
  have hn := hV.n
  refine x_PE (fun β od oc q F T pc0 rs pl at_ vs S hw hm => ?_)
  have hcr : ∀ k, -2147483648 ≤ cpyN (ρ 1) m (788 * (ρ 5 0 - 1)) 0 788 k ∧ cpyN (ρ 1) m (788 * (ρ 5 0 - 1)) 0 788 k < 2147483648 := fun k => by
    unfold cpyN
    split
    · exact hρ 1 _
    · exact hm k
  have hS : ρ 5 0 ≠ 0 → ∀ k, 0 ≤ k → k < 788 → cpyN (ρ 1) m (788 * (ρ 5 0 - 1)) 0 788 k = S (ρ 5 0 - 1) k := fun hz k k0 k1 => by
    rw [hw.2.2 (ρ 5 0 - 1) (by omega) (by omega) k k0 k1]
    unfold cpyN sv
    rw [if_pos (by omega)]
    congr 1
    omega
  have hbS : ρ 5 0 ≠ 0 → ∀ u, 0 ≤ u → u < S (ρ 5 0 - 1) 2 → 0 ≤ S (ρ 5 0 - 1) (5 + 6 * u + 3) ∧ S (ρ 5 0 - 1) (5 + 6 * u + 3) ≤ 1 := fun hz u u0 u1 => by
    have hIs := (hI.2.2.2.2.1 (ρ 5 0 - 1) (by omega) (by omega)).1
    have e2 := hw.2.2 (ρ 5 0 - 1) (by omega) (by omega) 2 (by omega) (by omega)
    have hn2 := hIs.n
    have hu := hIs.u u0 (by omega)
    unfold okU at hu
    rw [hw.2.2 (ρ 5 0 - 1) (by omega) (by omega) _ (by omega) (by omega)]
    omega
  refine x_aload_n B dX6_undo_0 rfl ?_
  refine x_getI B fgX6_253 dX6_undo_1 EX.g5 (fun r1 => ?_)
  refine x_if_gt (tgt := 10) B dX6_undo_4 (by decide) (by omega) (fun c4 => ?_) (fun c4 => ?_)
  · have hS := hS (by omega)
    have hbS := hbS (by omega)
    refine x_aload_n B dX6_undo_10 rfl ?_
    refine x_dup B dX6_undo_11 rfl ?_
    refine x_getI B fgX6_253 dX6_undo_12 EX.g5 (fun r12 => ?_)
    refine x_iconst B dX6_undo_15 ?_
    refine x_isub B dX6_undo_16 ?_
    refine x_put B fpX6_253 dX6_undo_17 rfl rfl (by unfold AE; omega) (P' := fun H => EX G e β m od oc q F T (ρ 5 1) pc0 rs pl at_ vs (ρ 5 0 - 1) S H ∧ ∃ od oc, PS G (pA e q (ρ 5 0 - 1).toNat) (e + 1) β (S (ρ 5 0 - 1)) od oc H) (fun H h => ⟨_, h.o, Nat.le_of_ble_eq_true rfl, fun H1 g1 _ g3 => ⟨h.setN (by omega) g1 g3 (fun i hi => ⟨i, by omega, rfl, rfl⟩), by
  obtain ⟨od1, oc1, p⟩ := h.2.2.2.2.2.2.1 (ρ 5 0 - 1).toNat (by omega)
  have hg := pA_rg (e := e) (q := q) (i := (ρ 5 0 - 1).toNat)
  rw [show (((ρ 5 0 - 1).toNat : Nat) : Int) = ρ 5 0 - 1 by omega] at p
  exact ⟨od1, oc1, p.kept (fun q a b => g3 q (by omega)) (fun q a b => g3 q (by omega))⟩⟩⟩) ?_
    refine x_ex (ι := (Int → Int) × Int) (P' := fun i H => EX G e β m od oc q F T (ρ 5 1) pc0 rs pl at_ vs (ρ 5 0 - 1) S H ∧ PS G (pA e q (ρ 5 0 - 1).toNat) (e + 1) β (S (ρ 5 0 - 1)) i.1 i.2 H) (fun H h => by obtain ⟨h1, od1, oc1, h2⟩ := h; exact ⟨(od1, oc1), h1, h2⟩) (fun i => ?_)
    obtain ⟨od1, oc1⟩ := i
    have hg := pA_rg (e := e) (q := q) (i := (ρ 5 0 - 1).toNat)
    refine x_aload_n B dX6_undo_20 rfl ?_
    refine x_get B fgX6_28 dX6_undo_21 (fun H h => ⟨_, h.1.o, rfl⟩) ?_
    refine x_aload_n B dX6_undo_24 rfl ?_
    refine x_get B fgX6_35 dX6_undo_25 (fun H h => ⟨_, h.1.o, rfl⟩) ?_
    refine x_aload_n B dX6_undo_28 rfl ?_
    refine x_getI B fgX6_253 dX6_undo_29 (fun H h => EX.g5 H h.1) (fun r29 => ?_)
    refine x_aald (j := 5) B dX6_undo_32 rfl (by omega) (by decide) (fun H h => EX.fr hw.1 (by omega) H h.1) ?_
    refine x_fN B mvX6_237 (fun l => (c_X3_copyFrom (β := β) (m := S (ρ 5 0 - 1)) (od' := od1) (oc' := oc1) (κ := e + 1) (by omega) (by omega) hbS) ) dX6_undo_33 rfl rfl (by decide) (by decide) (Nat.le_of_ble_eq_true rfl) EX.faP (fun H h => ⟨⟨h.1.2.1.js, h.2⟩, _, h.1.2.1.o⟩) (fun H H1 h h1 hs hq => (by obtain ⟨od2, oc2, h2⟩ := h1.1; exact ⟨od2, oc2, EX.fcP H H1 h.1 (h2.congr hS hcr) hs hq⟩ : ∃ od2 oc2, EX G e β (cpyN (ρ 1) m (788 * (ρ 5 0 - 1)) 0 788) od2 oc2 q F T (ρ 5 1) pc0 rs pl at_ vs (ρ 5 0 - 1) S H1)) ?_
    refine x_ex (ι := (Int → Int) × Int) (P' := fun i H => EX G e β (cpyN (ρ 1) m (788 * (ρ 5 0 - 1)) 0 788) i.1 i.2 q F T (ρ 5 1) pc0 rs pl at_ vs (ρ 5 0 - 1) S H) (fun H h => by obtain ⟨od2, oc2, h⟩ := h; exact ⟨(od2, oc2), h⟩) (fun i => ?_)
    obtain ⟨od2, oc2⟩ := i
    simp only
    refine x_aload_n B dX6_undo_36 rfl ?_
    refine x_getI B fgX6_253 dX6_undo_37 EX.g5 (fun r37 => ?_)
    exact x_retE (ρ' := ur ρ 5 (up (ρ 5) 0 (ρ 5 0 - 1))) B R dX6_undo_40 (by simp only [o_undo]; rw [if_neg (by omega)]) (by omega) rfl rfl hw.un
  · refine x_bipush B dX6_undo_7 (by decide) ?_
    exact x_retE B R dX6_undo_9 (by simp only [o_undo]; (repeat (first | rfl | rw [if_pos (by omega)] | rw [if_neg (by omega)])); try (exfalso; omega)) (by omega) rfl rfl (by assumption)
end OPC3

/-! ===== the class's State, walked: commands, the order, a tick ===== -/
theorem c_X3_restartBatch {G : xG} {l : Launch} {a κ : Nat} {β : Nat → Int → Int} {m od : Int → Int} {oc x : Int} (h1 : rdC m x) : CT G l yX3_restartBatch cX3_restartBatch 3 none ({ frames := 2, cells := 0, slots := 0, locals := 45 } : Room) 0 0 [.ref a, vi x] (PS G a κ β m od oc) (pV (PS G a κ β (s_restart m x) od oc)) (AS a) := by
  refine x_met1 (own := RX3) (nm := "restartBatch") (L := [(0, .ref a), (1, vi x)]) (by decide) rfl rfl (fun _ => rfl) (Nat.le_of_ble_eq_true rfl) rfl rfl ?_
  intro Γ B R
  have h1' := h1
  unfold rdC at h1'
  have e6 : up m (548 + 10 * x + 5) 1 (548 + 10 * x + 6) = m (548 + 10 * x + 6) := up_ne (by omega)
  have e7 : up m (548 + 10 * x + 5) 1 (548 + 10 * x + 7) = m (548 + 10 * x + 7) := up_ne (by omega)
  have hpg : 0 ≤ pgB m x ∧ pgB m x < 54 := by unfold pgB; omega
  have ep : phB (up m (548 + 10 * x + 5) 1) x (m (548 + 10 * x + 6)) = phB m x (m (548 + 10 * x + 6)) := phB_up (by omega) (by omega) (by omega) hpg (by omega)
  have eS : s_restart m x = s_note (up (up m (548 + 10 * x + 5) 1) (548 + 10 * x + 7) (if phB m x (m (548 + 10 * x + 6)) / 262144 % 2 = 1 then 0 else m (548 + 10 * x + 7))) x 3 := by
    unfold s_restart
    try dsimp only
    rw [e6, e7, ep]
  have ec : up m (548 + 10 * x + 7) 0 3 = m 3 := up_ne (by omega)
  refine x_aload_n B dX3_restartBatch_0 rfl ?_
  refine x_get B fgX3_19 dX3_restartBatch_1 (fun _ h => ⟨_, PS.o h, rfl⟩) ?_
  refine x_iload_n B dX3_restartBatch_4 rfl ?_
  refine x_aald (j := 4) B dX3_restartBatch_5 rfl (by omega) (by decide) (PS.ab (by omega)) ?_
  refine x_astore_n B dX3_restartBatch_6 (by decide) ?_
  refine x_aload_n B dX3_restartBatch_7 rfl ?_
  refine x_aload_n B dX3_restartBatch_8 rfl ?_
  refine x_iconst B dX3_restartBatch_9 ?_
  refine x_mV B mvX3_104 (fun l => c_X3_valueOf h1 (by omega)) dX3_restartBatch_10 rfl rfl (by decide) (by decide) (Nat.le_of_ble_eq_true rfl) PS.rv (fun r10 => ?_)
  refine x_top (show _ = phB m x (m (548 + 10 * x + 6)) / 262144 % 2 from rfl) ?_
  refine x_iconst B dX3_restartBatch_13 ?_
  refine x_icmp_ne (tgt := 22) B dX3_restartBatch_14 (by decide) (by omega) (by omega) (fun c14 => ?_) (fun c14 => ?_)
  · refine x_aload_n B dX3_restartBatch_22 rfl ?_
    refine x_iconst B dX3_restartBatch_23 ?_
    refine x_put B fpX3_127 dX3_restartBatch_24 rfl rfl (by unfold AS bA; omega) (PS.pb5 (by omega) (by omega)) ?_
    refine x_aload_n B dX3_restartBatch_27 rfl ?_
    refine x_get B fgX3_33 dX3_restartBatch_28 (fun _ h => ⟨_, PS.o h, rfl⟩) ?_
    refine x_aload_n B dX3_restartBatch_31 rfl ?_
    refine x_getI B fgX3_72 dX3_restartBatch_32 PS.g10 (fun r32 => ?_)
    refine x_iload_n B dX3_restartBatch_35 rfl ?_
    refine x_iconst B dX3_restartBatch_36 ?_
    refine x_jadd B mvX3_155 dX3_restartBatch_37 (by omega) (by omega) (by decide) (Nat.le_of_ble_eq_true rfl) ?_
    exact x_retV B R dX3_restartBatch_40 (fun H h => by rw [eS]; first | (rw [if_pos (by omega), up_comm (by omega)]; exact h) | (rw [if_neg (by omega), ← e7, up_self]; exact h))
  · refine x_aload_n B dX3_restartBatch_17 rfl ?_
    refine x_iconst B dX3_restartBatch_18 ?_
    refine x_put B fpX3_130 dX3_restartBatch_19 rfl rfl (by unfold AS bA; omega) (PS.pb7 (by omega) (by omega)) ?_
    refine x_aload_n B dX3_restartBatch_22 rfl ?_
    refine x_iconst B dX3_restartBatch_23 ?_
    refine x_put B fpX3_127 dX3_restartBatch_24 rfl rfl (by unfold AS bA; omega) (PS.pb5 (by omega) (by omega)) ?_
    refine x_aload_n B dX3_restartBatch_27 rfl ?_
    refine x_get B fgX3_33 dX3_restartBatch_28 (fun _ h => ⟨_, PS.o h, rfl⟩) ?_
    refine x_aload_n B dX3_restartBatch_31 rfl ?_
    refine x_getI B fgX3_72 dX3_restartBatch_32 PS.g10 (fun r32 => ?_)
    refine x_iload_n B dX3_restartBatch_35 rfl ?_
    refine x_iconst B dX3_restartBatch_36 ?_
    refine x_jadd B mvX3_155 dX3_restartBatch_37 (by omega) (by omega) (by decide) (Nat.le_of_ble_eq_true rfl) ?_
    exact x_retV B R dX3_restartBatch_40 (fun H h => by rw [eS]; first | (rw [if_pos (by omega), up_comm (by omega)]; exact h) | (rw [if_neg (by omega), ← e7, up_self]; exact h))
theorem c_X3_stopBatch {G : xG} {l : Launch} {a κ : Nat} {β : Nat → Int → Int} {m od : Int → Int} {oc x : Int} (h0 : (0 ≤ m 2 ∧ m 2 ≤ 8) ∧ 0 ≤ m 3 ∧ m 3 ≤ 12) (h1 : 0 ≤ x ∧ x < m 3) (h2 : -1 ≤ m (548 + 10 * x + 8) ∧ m (548 + 10 * x + 8) < m 2) : CT G l yX3_stopBatch cX3_stopBatch 3 none ({ frames := 3, cells := 0, slots := 0, locals := 65 } : Room) 0 0 [.ref a, vi x] (PS G a κ β m od oc) (pV (PS G a κ β (if m (548 + 10 * x + 5) = 1 ∧ 0 < m (548 + 10 * x + 7) then up m (548 + 10 * x + 5) 3 else s_endsBy m x 4 4) od oc)) (AS a) := by
  refine x_met1 (own := RX3) (nm := "stopBatch") (L := [(0, .ref a), (1, vi x)]) (by decide) rfl rfl (fun _ => rfl) (Nat.le_of_ble_eq_true rfl) rfl rfl ?_
  intro Γ B R
  refine x_fact (fun H h => (PS.mok h).2.2.2) (fun hm => ?_)
  refine x_aload_n B dX3_stopBatch_0 rfl ?_
  refine x_get B fgX3_19 dX3_stopBatch_1 (fun _ h => ⟨_, PS.o h, rfl⟩) ?_
  refine x_iload_n B dX3_stopBatch_4 rfl ?_
  refine x_aald (j := 4) B dX3_stopBatch_5 rfl (by omega) (by decide) (PS.ab (by omega)) ?_
  refine x_astore_n B dX3_stopBatch_6 (by decide) ?_
  refine x_aload_n B dX3_stopBatch_7 rfl ?_
  refine x_getI B fgX3_127 dX3_stopBatch_8 (PS.gb5 (by omega)) (fun r8 => ?_)
  refine x_iconst B dX3_stopBatch_11 ?_
  refine x_icmp_ne (tgt := 30) B dX3_stopBatch_12 (by decide) (by omega) (by omega) (fun c12 => ?_) (fun c12 => ?_)
  · refine x_aload_n B dX3_stopBatch_30 rfl ?_
    refine x_iload_n B dX3_stopBatch_31 rfl ?_
    refine x_iconst B dX3_stopBatch_32 ?_
    refine x_iconst B dX3_stopBatch_33 ?_
    refine x_mN B mvX3_162 (fun l => c_X3_bringToEnd (by omega) (by omega) (by omega) (by omega) (by omega)) dX3_stopBatch_34 rfl rfl (by decide) (by decide) (Nat.le_of_ble_eq_true rfl) PS.rv ?_
    exact x_retV B R dX3_stopBatch_37 (fun H h => by first | (rw [if_pos (by omega)]; exact h) | (rw [if_neg (by omega)]; exact h))
  · refine x_aload_n B dX3_stopBatch_15 rfl ?_
    refine x_mZ B mvX3_159 (fun l => c_X0_isUnderWay (PS.ob (by omega)) hm) dX3_stopBatch_16 rfl rfl (by decide) (by decide) (Nat.le_of_ble_eq_true rfl) (PS.rvB (by omega)) ?_
    refine x_ifz_eq (tgt := 30) B dX3_stopBatch_19 (by decide) (fun c19 => ?_) (fun c19 => ?_)
    · refine x_aload_n B dX3_stopBatch_30 rfl ?_
      refine x_iload_n B dX3_stopBatch_31 rfl ?_
      refine x_iconst B dX3_stopBatch_32 ?_
      refine x_iconst B dX3_stopBatch_33 ?_
      refine x_mN B mvX3_162 (fun l => c_X3_bringToEnd (by omega) (by omega) (by omega) (by omega) (by omega)) dX3_stopBatch_34 rfl rfl (by decide) (by decide) (Nat.le_of_ble_eq_true rfl) PS.rv ?_
      exact x_retV B R dX3_stopBatch_37 (fun H h => by first | (rw [if_pos (by omega)]; exact h) | (rw [if_neg (by omega)]; exact h))
    · refine x_aload_n B dX3_stopBatch_22 rfl ?_
      refine x_iconst B dX3_stopBatch_23 ?_
      refine x_put B fpX3_127 dX3_stopBatch_24 rfl rfl (by unfold AS bA; omega) (PS.pb5 (by omega) (by omega)) ?_
      refine x_goto (tgt := 37) B dX3_stopBatch_27 (by decide) ?_
      exact x_retV B R dX3_stopBatch_37 (fun H h => by first | (rw [if_pos (by omega)]; exact h) | (rw [if_neg (by omega)]; exact h))
theorem c_X3_breakUnit {G : xG} {l : Launch} {a κ : Nat} {β : Nat → Int → Int} {m od : Int → Int} {oc x : Int} (h0 : (0 ≤ m 2 ∧ m 2 ≤ 8) ∧ 0 ≤ m 3 ∧ m 3 ≤ 12) (h1 : 0 ≤ x ∧ x < m 2) (h2 : -1 ≤ m (5 + 6 * x + 2) ∧ m (5 + 6 * x + 2) < m 3) : CT G l yX3_breakUnit cX3_breakUnit 3 (some .int) ({ frames := 2, cells := 0, slots := 0, locals := 44 } : Room) 0 0 [.ref a, vi x] (PS G a κ β m od oc) (fun v H => v = some (vi (if m (5 + 6 * x + 2) = -1 ∨ ¬ (m (548 + 10 * (m (5 + 6 * x + 2)) + 5) = 1 ∨ m (548 + 10 * (m (5 + 6 * x + 2)) + 5) = 3) then -1 else m (5 + 6 * x + 2))) ∧ (-2147483648 ≤ (if m (5 + 6 * x + 2) = -1 ∨ ¬ (m (548 + 10 * (m (5 + 6 * x + 2)) + 5) = 1 ∨ m (548 + 10 * (m (5 + 6 * x + 2)) + 5) = 3) then -1 else m (5 + 6 * x + 2)) ∧ (if m (5 + 6 * x + 2) = -1 ∨ ¬ (m (548 + 10 * (m (5 + 6 * x + 2)) + 5) = 1 ∨ m (548 + 10 * (m (5 + 6 * x + 2)) + 5) = 3) then -1 else m (5 + 6 * x + 2)) < 2147483648) ∧ PS G a κ β (if m (5 + 6 * x + 2) = -1 ∨ ¬ (m (548 + 10 * (m (5 + 6 * x + 2)) + 5) = 1 ∨ m (548 + 10 * (m (5 + 6 * x + 2)) + 5) = 3) then up m (5 + 6 * x + 3) 1 else s_holds (up m (5 + 6 * x + 3) 1) (m (5 + 6 * x + 2))) od oc H) (AS a) := by
  refine x_met1 (own := RX3) (nm := "breakUnit") (L := [(0, .ref a), (1, vi x)]) (by decide) rfl rfl (fun _ => rfl) (Nat.le_of_ble_eq_true rfl) rfl rfl ?_
  intro Γ B R
  refine x_fact (fun H h => (PS.mok h).2.2.2) (fun hm => ?_)
  have hm1 := up_rg (z := 5 + 6 * x + 3) (v := 1) hm (by omega)
  have e2 : up m (5 + 6 * x + 3) 1 2 = m 2 := up_ne (by omega)
  have e3 : up m (5 + 6 * x + 3) 1 3 = m 3 := up_ne (by omega)
  have eh : up m (5 + 6 * x + 3) 1 (5 + 6 * x + 2) = m (5 + 6 * x + 2) := up_ne (by omega)
  have es : up m (5 + 6 * x + 3) 1 (548 + 10 * m (5 + 6 * x + 2) + 5) = m (548 + 10 * m (5 + 6 * x + 2) + 5) := up_ne (by omega)
  refine x_aload_n B dX3_breakUnit_0 rfl ?_
  refine x_get B fgX3_11 dX3_breakUnit_1 (fun _ h => ⟨_, PS.o h, rfl⟩) ?_
  refine x_iload_n B dX3_breakUnit_4 rfl ?_
  refine x_aald (j := 3) B dX3_breakUnit_5 rfl (by omega) (by decide) (PS.au (by omega)) ?_
  refine x_iconst B dX3_breakUnit_6 ?_
  refine x_put B fpX3_79 dX3_breakUnit_7 rfl rfl (by unfold AS uA; omega) (PS.pu5 (by omega) (by omega)) ?_
  refine x_aload_n B dX3_breakUnit_10 rfl ?_
  refine x_get B fgX3_11 dX3_breakUnit_11 (fun _ h => ⟨_, PS.o h, rfl⟩) ?_
  refine x_iload_n B dX3_breakUnit_14 rfl ?_
  refine x_aald (j := 3) B dX3_breakUnit_15 rfl (by omega) (by decide) (PS.au (by omega)) ?_
  refine x_getI B fgX3_83 dX3_breakUnit_16 (PS.gu2 (by omega)) (fun r16 => ?_)
  refine x_top eh ?_
  refine x_istore_n B dX3_breakUnit_19 (by decide) ?_
  refine x_aload_n B dX3_breakUnit_20 rfl ?_
  refine x_iload_n B dX3_breakUnit_21 rfl ?_
  refine x_mZ B mvX3_86 (fun l => c_X3_hasBatch (by omega)) dX3_breakUnit_22 rfl rfl (by decide) (by decide) (Nat.le_of_ble_eq_true rfl) PS.rv ?_
  refine x_ifz_eq (tgt := 40) B dX3_breakUnit_25 (by decide) (fun c25 => ?_) (fun c25 => ?_)
  · refine x_iconst B dX3_breakUnit_40 ?_
    exact x_retI B (R := by first | (rw [if_pos (by omega), if_pos (by omega)] at R; exact R) | exact R) dX3_breakUnit_41 rfl (by omega) (fun H h => h)
  · refine x_aload_n B dX3_breakUnit_28 rfl ?_
    refine x_get B fgX3_19 dX3_breakUnit_29 (fun _ h => ⟨_, PS.o h, rfl⟩) ?_
    refine x_iload_n B dX3_breakUnit_32 rfl ?_
    refine x_aald (j := 4) B dX3_breakUnit_33 rfl (by omega) (by decide) (PS.ab (by omega)) ?_
    refine x_mZ B mvX3_90 (fun l => c_X0_isActive (PS.ob (by omega)) hm1) dX3_breakUnit_34 rfl rfl (by decide) (by decide) (Nat.le_of_ble_eq_true rfl) (PS.rvB (by omega)) ?_
    refine x_ifz_ne (tgt := 42) B dX3_breakUnit_37 (by decide) (fun c37 => ?_) (fun c37 => ?_)
    · refine x_aload_n B dX3_breakUnit_42 rfl ?_
      refine x_iload_n B dX3_breakUnit_43 rfl ?_
      refine x_mN B mvX3_94 (fun l => c_X3_holdBatch (by omega) (by omega)) dX3_breakUnit_44 rfl rfl (by decide) (by decide) (Nat.le_of_ble_eq_true rfl) PS.rv ?_
      refine x_iload_n B dX3_breakUnit_47 rfl ?_
      exact x_retI B (R := by first | (rw [if_neg (by omega), if_neg (by omega)] at R; exact R) | exact R) dX3_breakUnit_48 rfl (by omega) (fun H h => h)
    · refine x_iconst B dX3_breakUnit_40 ?_
      exact x_retI B (R := by first | (rw [if_pos (by omega), if_pos (by omega)] at R; exact R) | exact R) dX3_breakUnit_41 rfl (by omega) (fun H h => h)

/-! ===== what is refused ===== -/
section RFS
variable {G : xG} {e : Nat} {m : Int → Int} {ρ : Nat → Int → Int}
theorem z_unit {x y : Int} (h : IL m ρ) (rx : -2147483648 ≤ x ∧ x < 2147483648) (ry : -2147483648 ≤ y ∧ y < 2147483648) (hc : ¬ ((0 ≤ x ∧ x ≤ 3) ∧ (1 ≤ y ∧ y ≤ 10000))) : QD G e m ρ yX6_unit cX6_unit 3 ({ frames := 4, cells := 0, slots := 0, locals := 97 } : Room) [vi x, vi y] (-1) m ρ := by
  have hb := h.b
  refine QD.of (fun l => c_X6_unit h rx ry) ?_
  unfold o_unit
  rw [if_pos (by omega)]
theorem z_fail {x : Int} (h : IL m ρ) (rx : -2147483648 ≤ x ∧ x < 2147483648) (hc : ¬ (0 ≤ x ∧ x < m 2)) : QD G e m ρ yX6_fail cX6_fail 2 ({ frames := 4, cells := 0, slots := 0, locals := 97 } : Room) [vi x] (-1) m ρ := by
  have hb := h.b
  refine QD.of (fun l => c_X6_fail h rx) ?_
  unfold o_fail
  rw [if_pos (by omega)]
theorem z_repair {x : Int} (h : IL m ρ) (rx : -2147483648 ≤ x ∧ x < 2147483648) (hc : ¬ (0 ≤ x ∧ x < m 2)) : QD G e m ρ yX6_repair cX6_repair 2 ({ frames := 4, cells := 0, slots := 0, locals := 97 } : Room) [vi x] (-1) m ρ := by
  have hb := h.b
  refine QD.of (fun l => c_X6_repair h rx) ?_
  unfold o_repair
  rw [if_pos (by omega)]
theorem z_unitInfo {x y : Int} (h : IL m ρ) (rx : -2147483648 ≤ x ∧ x < 2147483648) (ry : -2147483648 ≤ y ∧ y < 2147483648) (hc : ¬ (0 ≤ x ∧ x < m 2)) : QD G e m ρ yX6_unitInfo cX6_unitInfo 4 ({ frames := 2, cells := 0, slots := 0, locals := 42 } : Room) [vi x, vi y] (-1) m ρ := by
  have hb := h.b
  refine QD.of (fun l => c_X6_unitInfo h rx ry) ?_
  unfold o_unitInfo
  rw [if_pos (by omega)]
theorem z_shared {x : Int} (h : IL m ρ) (rx : -2147483648 ≤ x ∧ x < 2147483648) (hc : ¬ (0 ≤ x ∧ x ≤ 2)) : QD G e m ρ yX6_shared cX6_shared 2 ({ frames := 2, cells := 0, slots := 0, locals := 42 } : Room) [vi x] (-1) m ρ := by
  have hb := h.b
  refine QD.of (fun l => c_X6_shared h rx) ?_
  unfold o_shared
  rw [if_pos (by omega)]
theorem z_setCleaning {x : Int} (h : IL m ρ) (rx : -2147483648 ≤ x ∧ x < 2147483648) (hc : ¬ (0 ≤ x ∧ x ≤ 30)) : QD G e m ρ yX6_setCleaning cX6_setCleaning 3 ({ frames := 4, cells := 0, slots := 0, locals := 97 } : Room) [vi x] (-1) m ρ := by
  have hb := h.b
  refine QD.of (fun l => c_X6_setCleaning h rx) ?_
  unfold o_setCleaning
  rw [if_pos (by omega)]
theorem z_recipe {x : Int} (h : IL m ρ) (rx : -2147483648 ≤ x ∧ x < 2147483648) (hc : ¬ (0 ≤ x ∧ x ≤ 5)) : QD G e m ρ yX6_recipe cX6_recipe 3 ({ frames := 6, cells := 0, slots := 0, locals := 130 } : Room) [vi x] (-1) m ρ := by
  have hb := h.b
  refine QD.of (fun l => c_X6_recipe h rx) ?_
  unfold o_recipe
  rw [if_pos (by omega)]
theorem z_versions {x : Int} (h : IL m ρ) (rx : -2147483648 ≤ x ∧ x < 2147483648) (hc : ¬ (0 ≤ x ∧ x ≤ 5)) : QD G e m ρ yX6_versions cX6_versions 2 ({ frames := 2, cells := 0, slots := 0, locals := 42 } : Room) [vi x] (-1) m ρ := by
  have hb := h.b
  refine QD.of (fun l => c_X6_versions h rx) ?_
  unfold o_versions
  rw [if_neg (by omega)]
theorem z_phase {r v k w : Int} (h : IL m ρ) (rr : -2147483648 ≤ r ∧ r < 2147483648) (rv : -2147483648 ≤ v ∧ v < 2147483648) (rk : -2147483648 ≤ k ∧ k < 2147483648) (rw : -2147483648 ≤ w ∧ w < 2147483648) (hc : ¬ ((0 ≤ r ∧ r ≤ 5) ∧ 1 ≤ v)) : QD G e m ρ yX6_phase cX6_phase 5 ({ frames := 2, cells := 0, slots := 0, locals := 42 } : Room) [vi r, vi v, vi k, vi w] (-1) m ρ := by
  have hb := h.b
  refine QD.of (fun l => c_X6_phase h rr rv rk rw) ?_
  unfold o_phase
  rw [if_pos (by omega)]
theorem z_batch {r sz pr bf : Int} (h : IL m ρ) (rr : -2147483648 ≤ r ∧ r < 2147483648) (rsz : -2147483648 ≤ sz ∧ sz < 2147483648) (rpr : -2147483648 ≤ pr ∧ pr < 2147483648) (rbf : -2147483648 ≤ bf ∧ bf < 2147483648) (hc : ¬ (1 ≤ sz ∧ sz ≤ 10000) ∨ ¬ (bf = -1 ∨ (0 ≤ bf ∧ bf < m 3))) : QD G e m ρ yX6_batch cX6_batch 5 ({ frames := 4, cells := 0, slots := 0, locals := 97 } : Room) [vi r, vi sz, vi pr, vi bf] (-1) m ρ := by
  have hb := h.b
  refine QD.of (fun l => c_X6_batch h rr rsz rpr rbf) ?_
  unfold o_batch
  rw [if_pos (by omega)]
theorem z_batch5 {r sz pr bf : Int} (h : IL m ρ) (rr : -2147483648 ≤ r ∧ r < 2147483648) (rsz : -2147483648 ≤ sz ∧ sz < 2147483648) (rpr : -2147483648 ≤ pr ∧ pr < 2147483648) (rbf : -2147483648 ≤ bf ∧ bf < 2147483648) (hc : r = 5 ∧ sz = 1 ∧ pr = 0 ∧ bf = -1 ∧ m 61 = 0) : QD G e m ρ yX6_batch cX6_batch 5 ({ frames := 4, cells := 0, slots := 0, locals := 97 } : Room) [vi r, vi sz, vi pr, vi bf] (-2) m ρ := by
  have hb := h.b
  refine QD.of (fun l => c_X6_batch h rr rsz rpr rbf) ?_
  unfold o_batch
  obtain ⟨rfl, rfl, rfl, rfl, h61⟩ := hc
  rw [if_neg (by omega), if_pos (Or.inl (by rw [show (56 : Int) + 5 = 61 by omega]; exact h61))]
theorem z_start {x : Int} (h : IL m ρ) (rx : -2147483648 ≤ x ∧ x < 2147483648) (hc : ¬ (0 ≤ x ∧ x < m 3)) : QD G e m ρ yX6_start cX6_start 2 ({ frames := 4, cells := 0, slots := 0, locals := 97 } : Room) [vi x] (-1) m ρ := by
  have hb := h.b
  refine QD.of (fun l => c_X6_start h rx) ?_
  unfold o_start
  rw [if_pos (by omega)]
theorem z_hold {x : Int} (h : IL m ρ) (rx : -2147483648 ≤ x ∧ x < 2147483648) (hc : ¬ (0 ≤ x ∧ x < m 3)) : QD G e m ρ yX6_hold cX6_hold 2 ({ frames := 4, cells := 0, slots := 0, locals := 97 } : Room) [vi x] (-1) m ρ := by
  have hb := h.b
  refine QD.of (fun l => c_X6_hold h rx) ?_
  unfold o_hold
  rw [if_pos (by omega)]
theorem z_restart {x : Int} (h : IL m ρ) (rx : -2147483648 ≤ x ∧ x < 2147483648) (hc : ¬ (0 ≤ x ∧ x < m 3)) : QD G e m ρ yX6_restart cX6_restart 2 ({ frames := 4, cells := 0, slots := 0, locals := 97 } : Room) [vi x] (-1) m ρ := by
  have hb := h.b
  refine QD.of (fun l => c_X6_restart h rx) ?_
  unfold o_restart
  rw [if_pos (by omega)]
theorem z_stop {x : Int} (h : IL m ρ) (rx : -2147483648 ≤ x ∧ x < 2147483648) (hc : ¬ (0 ≤ x ∧ x < m 3)) : QD G e m ρ yX6_stop cX6_stop 3 ({ frames := 4, cells := 0, slots := 0, locals := 97 } : Room) [vi x] (-1) m ρ := by
  have hb := h.b
  refine QD.of (fun l => c_X6_stop h rx) ?_
  unfold o_stop
  rw [if_pos (by omega)]
theorem z_abort {x : Int} (h : IL m ρ) (rx : -2147483648 ≤ x ∧ x < 2147483648) (hc : ¬ (0 ≤ x ∧ x < m 3)) : QD G e m ρ yX6_abort cX6_abort 2 ({ frames := 4, cells := 0, slots := 0, locals := 97 } : Room) [vi x] (-1) m ρ := by
  have hb := h.b
  refine QD.of (fun l => c_X6_abort h rx) ?_
  unfold o_abort
  rw [if_pos (by omega)]
theorem z_waits {x : Int} (h : IL m ρ) (rx : -2147483648 ≤ x ∧ x < 2147483648) (hc : ¬ (0 ≤ x ∧ x < m 3)) : QD G e m ρ yX6_waits cX6_waits 2 ({ frames := 4, cells := 0, slots := 0, locals := 94 } : Room) [vi x] (-1) m ρ := by
  have hb := h.b
  refine QD.of (fun l => c_X6_waits h rx) ?_
  unfold o_waits
  rw [if_pos (by omega)]
theorem z_ticksTo {x : Int} (h : IL m ρ) (rx : -2147483648 ≤ x ∧ x < 2147483648) (hc : ¬ (0 ≤ x ∧ x < m 3)) : QD G e m ρ yX6_ticksTo cX6_ticksTo 5 ({ frames := 6, cells := 0, slots := 0, locals := 140 } : Room) [vi x] (-1) m ρ := by
  have hb := h.b
  refine QD.of (fun l => c_X6_ticksTo h rx) ?_
  unfold o_ticksTo
  rw [if_pos (by omega)]
theorem z_priority {x y : Int} (h : IL m ρ) (rx : -2147483648 ≤ x ∧ x < 2147483648) (ry : -2147483648 ≤ y ∧ y < 2147483648) (hc : ¬ (0 ≤ x ∧ x < m 3)) : QD G e m ρ yX6_priority cX6_priority 4 ({ frames := 4, cells := 0, slots := 0, locals := 97 } : Room) [vi x, vi y] (-1) m ρ := by
  have hb := h.b
  refine QD.of (fun l => c_X6_priority h rx ry) ?_
  unfold o_priority
  rw [if_pos (by omega)]
theorem z_batchInfo {x y : Int} (h : IL m ρ) (rx : -2147483648 ≤ x ∧ x < 2147483648) (ry : -2147483648 ≤ y ∧ y < 2147483648) (hc : ¬ (0 ≤ x ∧ x < m 3)) : QD G e m ρ yX6_batchInfo cX6_batchInfo 4 ({ frames := 3, cells := 0, slots := 0, locals := 66 } : Room) [vi x, vi y] (-1) m ρ := by
  have hb := h.b
  refine QD.of (fun l => c_X6_batchInfo h rx ry) ?_
  unfold o_batchInfo
  rw [if_pos (by omega)]
theorem z_inOrder {x : Int} (h : IL m ρ) (rx : -2147483648 ≤ x ∧ x < 2147483648) (hc : x < 0) : QD G e m ρ yX6_inOrder cX6_inOrder 2 ({ frames := 2, cells := 0, slots := 0, locals := 43 } : Room) [vi x] (-1) m ρ := by
  have hb := h.b
  refine QD.of (fun l => c_X6_inOrder h rx) ?_
  unfold o_inOrder
  rw [if_pos (by omega)]
theorem z_run {x : Int} (h : IL m ρ) (rx : -2147483648 ≤ x ∧ x < 2147483648) (hc : ¬ (1 ≤ x ∧ x ≤ 500)) : QD G e m ρ yX6_run cX6_run 4 ({ frames := 6, cells := 0, slots := 0, locals := 140 } : Room) [vi x] (-1) m ρ := by
  have hb := h.b
  refine QD.of (fun l => c_X6_run h rx) ?_
  unfold o_run
  rw [if_pos (by omega)]
theorem z_count {x : Int} (h : IL m ρ) (rx : -2147483648 ≤ x ∧ x < 2147483648) (hc : 17 < x) : QD G e m ρ yX6_count cX6_count 2 ({ frames := 2, cells := 0, slots := 0, locals := 43 } : Room) [vi x] (-1) m ρ := by
  have hb := h.b
  refine QD.of (fun l => c_X6_count h rx) ?_
  unfold o_count
  rw [if_neg (by omega), if_neg (by omega), if_neg (by omega), if_neg (by omega), if_neg (by omega), if_neg (by omega), if_neg (by omega), if_neg (by omega), if_neg (by omega), if_neg (by omega), if_neg (by omega), if_neg (by omega)]
theorem z_event {x y : Int} (h : IL m ρ) (rx : -2147483648 ≤ x ∧ x < 2147483648) (ry : -2147483648 ≤ y ∧ y < 2147483648) (hc : ¬ (0 ≤ x ∧ (0 ≤ y ∧ y ≤ 2))) : QD G e m ρ yX6_event cX6_event 3 ({ frames := 1, cells := 0, slots := 0, locals := 23 } : Room) [vi x, vi y] (-1) m ρ := by
  have hb := h.b
  refine QD.of (fun l => c_X6_event h rx ry) ?_
  unfold o_event
  rw [if_pos (by omega)]
theorem z_type {x : Int} (h : IL m ρ) (rx : -2147483648 ≤ x ∧ x < 2147483648) (hc : ¬ (32 ≤ x ∧ x ≤ 126)) : QD G e m ρ yX6_type cX6_type 2 ({ frames := 1, cells := 0, slots := 0, locals := 22 } : Room) [vi x] (-1) m ρ := by
  have hb := h.b
  refine QD.of (fun l => c_X6_type h rx) ?_
  unfold o_type
  rw [if_pos (by omega)]
theorem z_fault {x : Int} (h : IL m ρ) (rx : -2147483648 ≤ x ∧ x < 2147483648) (hc : ¬ (0 ≤ x ∧ x ≤ 1)) : QD G e m ρ yX6_fault cX6_fault 2 ({ frames := 6, cells := 0, slots := 0, locals := 130 } : Room) [vi x] (-1) m ρ := by
  have hb := h.b
  refine QD.of (fun l => c_X6_fault h rx) ?_
  unfold o_fault
  rw [if_pos (by omega)]
end RFS
theorem c_L_refuses {G : xG} {l : Launch} {e : Nat} {m : Int → Int} {ρ : Nat → Int → Int} (h1 : OK m ρ) : CT G l yL_refuses cL_refuses 5 (some .boolean) ({ frames := 7, cells := 0, slots := 0, locals := 164 } : Room) 0 0 [.ref e] (PE G e m ρ) (pZ True (PE G e m ρ)) (AE e) := by
  refine x_met1 (own := RL) (nm := "refuses") (L := [(0, .ref e)]) (by decide) rfl rfl (fun _ => rfl) (Nat.le_of_ble_eq_true rfl) rfl rfl ?_
  intro Γ B R
  have hI := h1.I
  have hb := hI.b
  have h61 : m 61 = 0 := h1.2.2.2.2
  have e3 : cn m 3 = m 3 := rfl
  have e0 : cn m 0 = m 2 := rfl
  refine x_aload_n B dL_refuses_0 rfl ?_
  refine x_bipush B dL_refuses_1 (by decide) ?_
  refine x_qd B mvL_9 (q_count14 hI) dL_refuses_3 rfl rfl (by decide) (by decide) (Nat.le_of_ble_eq_true rfl) (fun _ h => h) (fun r3 => ?_)
  refine x_istore_n B dL_refuses_6 (by decide) ?_
  refine x_aload_n B dL_refuses_7 rfl ?_
  refine x_iconst B dL_refuses_8 ?_
  refine x_qd B mvL_9 (q_count (by first | assumption | omega) (by first | assumption | omega)) dL_refuses_9 rfl rfl (by decide) (by decide) (Nat.le_of_ble_eq_true rfl) (fun _ h => h) (fun r9 => ?_)
  refine x_istore_n B dL_refuses_12 (by decide) ?_
  refine x_aload_n B dL_refuses_13 rfl ?_
  refine x_iconst B dL_refuses_14 ?_
  refine x_qd B mvL_9 (q_count (by first | assumption | omega) (by first | assumption | omega)) dL_refuses_15 rfl rfl (by decide) (by decide) (Nat.le_of_ble_eq_true rfl) (fun _ h => h) (fun r15 => ?_)
  refine x_istore_n B dL_refuses_18 (by decide) ?_
  refine x_cutI 187 (fun zz => zz = 1) (fun K187 => ?_) (fun z187 h187 => ?_)
  · refine x_aload_n B dL_refuses_19 rfl ?_
    refine x_iconst B dL_refuses_20 ?_
    refine x_iconst B dL_refuses_21 ?_
    refine x_qd B mvL_96 (z_unit hI (by omega) (by omega) (by omega)) dL_refuses_22 rfl rfl (by decide) (by decide) (Nat.le_of_ble_eq_true rfl) (fun _ h => h) (fun r22 => ?_)
    refine x_iconst B dL_refuses_25 ?_
    refine x_icmp_ne (tgt := 186) B dL_refuses_26 (by decide) (by first | assumption | omega) (by first | assumption | omega) (fun c26 => ?_) (fun c26 => ?_)
    · exfalso; omega
    · refine x_aload_n B dL_refuses_29 rfl ?_
      refine x_iconst B dL_refuses_30 ?_
      refine x_sipush B dL_refuses_31 (by decide) ?_
      refine x_qd B mvL_96 (z_unit hI (by omega) (by omega) (by omega)) dL_refuses_34 rfl rfl (by decide) (by decide) (Nat.le_of_ble_eq_true rfl) (fun _ h => h) (fun r34 => ?_)
      refine x_iconst B dL_refuses_37 ?_
      refine x_icmp_ne (tgt := 186) B dL_refuses_38 (by decide) (by first | assumption | omega) (by first | assumption | omega) (fun c38 => ?_) (fun c38 => ?_)
      · exfalso; omega
      · refine x_aload_n B dL_refuses_41 rfl ?_
        refine x_iload_n B dL_refuses_42 rfl ?_
        refine x_qd B mvL_84 (z_fail hI (by omega) (by omega)) dL_refuses_43 rfl rfl (by decide) (by decide) (Nat.le_of_ble_eq_true rfl) (fun _ h => h) (fun r43 => ?_)
        refine x_iconst B dL_refuses_46 ?_
        refine x_icmp_ne (tgt := 186) B dL_refuses_47 (by decide) (by first | assumption | omega) (by first | assumption | omega) (fun c47 => ?_) (fun c47 => ?_)
        · exfalso; omega
        · refine x_aload_n B dL_refuses_50 rfl ?_
          refine x_iconst B dL_refuses_51 ?_
          refine x_qd B mvL_87 (z_repair hI (by omega) (by omega)) dL_refuses_52 rfl rfl (by decide) (by decide) (Nat.le_of_ble_eq_true rfl) (fun _ h => h) (fun r52 => ?_)
          refine x_iconst B dL_refuses_55 ?_
          refine x_icmp_ne (tgt := 186) B dL_refuses_56 (by decide) (by first | assumption | omega) (by first | assumption | omega) (fun c56 => ?_) (fun c56 => ?_)
          · exfalso; omega
          · refine x_aload_n B dL_refuses_59 rfl ?_
            refine x_iload_n B dL_refuses_60 rfl ?_
            refine x_iconst B dL_refuses_61 ?_
            refine x_qd B mvL_15 (z_unitInfo hI (by omega) (by omega) (by omega)) dL_refuses_62 rfl rfl (by decide) (by decide) (Nat.le_of_ble_eq_true rfl) (fun _ h => h) (fun r62 => ?_)
            refine x_iconst B dL_refuses_65 ?_
            refine x_icmp_ne (tgt := 186) B dL_refuses_66 (by decide) (by first | assumption | omega) (by first | assumption | omega) (fun c66 => ?_) (fun c66 => ?_)
            · exfalso; omega
            · refine x_aload_n B dL_refuses_69 rfl ?_
              refine x_iconst B dL_refuses_70 ?_
              refine x_qd B mvL_34 (z_shared hI (by omega) (by omega)) dL_refuses_71 rfl rfl (by decide) (by decide) (Nat.le_of_ble_eq_true rfl) (fun _ h => h) (fun r71 => ?_)
              refine x_iconst B dL_refuses_74 ?_
              refine x_icmp_ne (tgt := 186) B dL_refuses_75 (by decide) (by first | assumption | omega) (by first | assumption | omega) (fun c75 => ?_) (fun c75 => ?_)
              · exfalso; omega
              · refine x_aload_n B dL_refuses_78 rfl ?_
                refine x_bipush B dL_refuses_79 (by decide) ?_
                refine x_qd B mvL_99 (z_setCleaning hI (by omega) (by omega)) dL_refuses_81 rfl rfl (by decide) (by decide) (Nat.le_of_ble_eq_true rfl) (fun _ h => h) (fun r81 => ?_)
                refine x_iconst B dL_refuses_84 ?_
                refine x_icmp_ne (tgt := 186) B dL_refuses_85 (by decide) (by first | assumption | omega) (by first | assumption | omega) (fun c85 => ?_) (fun c85 => ?_)
                · exfalso; omega
                · refine x_aload_n B dL_refuses_88 rfl ?_
                  refine x_bipush B dL_refuses_89 (by decide) ?_
                  refine x_qd B mvL_57 (z_recipe hI (by omega) (by omega)) dL_refuses_91 rfl rfl (by decide) (by decide) (Nat.le_of_ble_eq_true rfl) (fun _ h => h) (fun r91 => ?_)
                  refine x_iconst B dL_refuses_94 ?_
                  refine x_icmp_ne (tgt := 186) B dL_refuses_95 (by decide) (by first | assumption | omega) (by first | assumption | omega) (fun c95 => ?_) (fun c95 => ?_)
                  · exfalso; omega
                  · refine x_aload_n B dL_refuses_98 rfl ?_
                    refine x_iconst B dL_refuses_99 ?_
                    refine x_qd B mvL_24 (z_versions hI (by omega) (by omega)) dL_refuses_100 rfl rfl (by decide) (by decide) (Nat.le_of_ble_eq_true rfl) (fun _ h => h) (fun r100 => ?_)
                    refine x_iconst B dL_refuses_103 ?_
                    refine x_icmp_ne (tgt := 186) B dL_refuses_104 (by decide) (by first | assumption | omega) (by first | assumption | omega) (fun c104 => ?_) (fun c104 => ?_)
                    · exfalso; omega
                    · refine x_aload_n B dL_refuses_107 rfl ?_
                      refine x_iconst B dL_refuses_108 ?_
                      refine x_iconst B dL_refuses_109 ?_
                      refine x_iconst B dL_refuses_110 ?_
                      refine x_iconst B dL_refuses_111 ?_
                      refine x_qd B mvL_30 (z_phase hI (by omega) (by omega) (by omega) (by omega) (by omega)) dL_refuses_112 rfl rfl (by decide) (by decide) (Nat.le_of_ble_eq_true rfl) (fun _ h => h) (fun r112 => ?_)
                      refine x_iconst B dL_refuses_115 ?_
                      refine x_icmp_ne (tgt := 186) B dL_refuses_116 (by decide) (by first | assumption | omega) (by first | assumption | omega) (fun c116 => ?_) (fun c116 => ?_)
                      · exfalso; omega
                      · refine x_aload_n B dL_refuses_119 rfl ?_
                        refine x_bipush B dL_refuses_120 (by decide) ?_
                        refine x_iconst B dL_refuses_122 ?_
                        refine x_iconst B dL_refuses_123 ?_
                        refine x_iconst B dL_refuses_124 ?_
                        refine x_qd B mvL_30 (z_phase hI (by omega) (by omega) (by omega) (by omega) (by omega)) dL_refuses_125 rfl rfl (by decide) (by decide) (Nat.le_of_ble_eq_true rfl) (fun _ h => h) (fun r125 => ?_)
                        refine x_iconst B dL_refuses_128 ?_
                        refine x_icmp_ne (tgt := 186) B dL_refuses_129 (by decide) (by first | assumption | omega) (by first | assumption | omega) (fun c129 => ?_) (fun c129 => ?_)
                        · exfalso; omega
                        · refine x_aload_n B dL_refuses_132 rfl ?_
                          refine x_iconst B dL_refuses_133 ?_
                          refine x_iconst B dL_refuses_134 ?_
                          refine x_iconst B dL_refuses_135 ?_
                          refine x_iconst B dL_refuses_136 ?_
                          refine x_qd B mvL_102 (z_batch hI (by omega) (by omega) (by omega) (by omega) (by omega)) dL_refuses_137 rfl rfl (by decide) (by decide) (Nat.le_of_ble_eq_true rfl) (fun _ h => h) (fun r137 => ?_)
                          refine x_iconst B dL_refuses_140 ?_
                          refine x_icmp_ne (tgt := 186) B dL_refuses_141 (by decide) (by first | assumption | omega) (by first | assumption | omega) (fun c141 => ?_) (fun c141 => ?_)
                          · exfalso; omega
                          · refine x_aload_n B dL_refuses_144 rfl ?_
                            refine x_iconst B dL_refuses_145 ?_
                            refine x_iconst B dL_refuses_146 ?_
                            refine x_iconst B dL_refuses_147 ?_
                            refine x_iload_n B dL_refuses_148 rfl ?_
                            refine x_qd B mvL_102 (z_batch hI (by omega) (by omega) (by omega) (by omega) (by omega)) dL_refuses_149 rfl rfl (by decide) (by decide) (Nat.le_of_ble_eq_true rfl) (fun _ h => h) (fun r149 => ?_)
                            refine x_iconst B dL_refuses_152 ?_
                            refine x_icmp_ne (tgt := 186) B dL_refuses_153 (by decide) (by first | assumption | omega) (by first | assumption | omega) (fun c153 => ?_) (fun c153 => ?_)
                            · exfalso; omega
                            · refine x_aload_n B dL_refuses_156 rfl ?_
                              refine x_iconst B dL_refuses_157 ?_
                              refine x_iconst B dL_refuses_158 ?_
                              refine x_iconst B dL_refuses_159 ?_
                              refine x_bipush B dL_refuses_160 (by decide) ?_
                              refine x_qd B mvL_102 (z_batch hI (by omega) (by omega) (by omega) (by omega) (by omega)) dL_refuses_162 rfl rfl (by decide) (by decide) (Nat.le_of_ble_eq_true rfl) (fun _ h => h) (fun r162 => ?_)
                              refine x_iconst B dL_refuses_165 ?_
                              refine x_icmp_ne (tgt := 186) B dL_refuses_166 (by decide) (by first | assumption | omega) (by first | assumption | omega) (fun c166 => ?_) (fun c166 => ?_)
                              · exfalso; omega
                              · refine x_aload_n B dL_refuses_169 rfl ?_
                                refine x_iconst B dL_refuses_170 ?_
                                refine x_iconst B dL_refuses_171 ?_
                                refine x_iconst B dL_refuses_172 ?_
                                refine x_iconst B dL_refuses_173 ?_
                                refine x_qd B mvL_102 (z_batch5 hI (by omega) (by omega) (by omega) (by omega) (by omega)) dL_refuses_174 rfl rfl (by decide) (by decide) (Nat.le_of_ble_eq_true rfl) (fun _ h => h) (fun r174 => ?_)
                                refine x_bipush B dL_refuses_177 (by decide) ?_
                                refine x_icmp_ne (tgt := 186) B dL_refuses_179 (by decide) (by first | assumption | omega) (by first | assumption | omega) (fun c179 => ?_) (fun c179 => ?_)
                                · exfalso; omega
                                · refine x_iconst B dL_refuses_182 ?_
                                  refine x_goto (tgt := 187) B dL_refuses_183 (by decide) ?_
                                  exact K187 _ (by omega)
  · refine x_istore B dL_refuses_187 (by decide) ?_
    refine x_cutI 360 (fun zz => zz = 1) (fun K360 => ?_) (fun z360 h360 => ?_)
    · refine x_iload B dL_refuses_189 rfl ?_
      refine x_if_eq (tgt := 359) B dL_refuses_191 (by decide) (by first | assumption | omega) (fun c191 => ?_) (fun c191 => ?_)
      · exfalso; omega
      · refine x_aload_n B dL_refuses_194 rfl ?_
        refine x_iload_n B dL_refuses_195 rfl ?_
        refine x_qd B mvL_63 (z_start hI (by omega) (by omega)) dL_refuses_196 rfl rfl (by decide) (by decide) (Nat.le_of_ble_eq_true rfl) (fun _ h => h) (fun r196 => ?_)
        refine x_iconst B dL_refuses_199 ?_
        refine x_icmp_ne (tgt := 359) B dL_refuses_200 (by decide) (by first | assumption | omega) (by first | assumption | omega) (fun c200 => ?_) (fun c200 => ?_)
        · exfalso; omega
        · refine x_aload_n B dL_refuses_203 rfl ?_
          refine x_iconst B dL_refuses_204 ?_
          refine x_qd B mvL_66 (z_hold hI (by omega) (by omega)) dL_refuses_205 rfl rfl (by decide) (by decide) (Nat.le_of_ble_eq_true rfl) (fun _ h => h) (fun r205 => ?_)
          refine x_iconst B dL_refuses_208 ?_
          refine x_icmp_ne (tgt := 359) B dL_refuses_209 (by decide) (by first | assumption | omega) (by first | assumption | omega) (fun c209 => ?_) (fun c209 => ?_)
          · exfalso; omega
          · refine x_aload_n B dL_refuses_212 rfl ?_
            refine x_iload_n B dL_refuses_213 rfl ?_
            refine x_qd B mvL_72 (z_restart hI (by omega) (by omega)) dL_refuses_214 rfl rfl (by decide) (by decide) (Nat.le_of_ble_eq_true rfl) (fun _ h => h) (fun r214 => ?_)
            refine x_iconst B dL_refuses_217 ?_
            refine x_icmp_ne (tgt := 359) B dL_refuses_218 (by decide) (by first | assumption | omega) (by first | assumption | omega) (fun c218 => ?_) (fun c218 => ?_)
            · exfalso; omega
            · refine x_aload_n B dL_refuses_221 rfl ?_
              refine x_iload_n B dL_refuses_222 rfl ?_
              refine x_qd B mvL_75 (z_stop hI (by omega) (by omega)) dL_refuses_223 rfl rfl (by decide) (by decide) (Nat.le_of_ble_eq_true rfl) (fun _ h => h) (fun r223 => ?_)
              refine x_iconst B dL_refuses_226 ?_
              refine x_icmp_ne (tgt := 359) B dL_refuses_227 (by decide) (by first | assumption | omega) (by first | assumption | omega) (fun c227 => ?_) (fun c227 => ?_)
              · exfalso; omega
              · refine x_aload_n B dL_refuses_230 rfl ?_
                refine x_iload_n B dL_refuses_231 rfl ?_
                refine x_qd B mvL_81 (z_abort hI (by omega) (by omega)) dL_refuses_232 rfl rfl (by decide) (by decide) (Nat.le_of_ble_eq_true rfl) (fun _ h => h) (fun r232 => ?_)
                refine x_iconst B dL_refuses_235 ?_
                refine x_icmp_ne (tgt := 359) B dL_refuses_236 (by decide) (by first | assumption | omega) (by first | assumption | omega) (fun c236 => ?_) (fun c236 => ?_)
                · exfalso; omega
                · refine x_aload_n B dL_refuses_239 rfl ?_
                  refine x_iload_n B dL_refuses_240 rfl ?_
                  refine x_iconst B dL_refuses_241 ?_
                  refine x_qd B mvL_78 (z_priority hI (by omega) (by omega) (by omega)) dL_refuses_242 rfl rfl (by decide) (by decide) (Nat.le_of_ble_eq_true rfl) (fun _ h => h) (fun r242 => ?_)
                  refine x_iconst B dL_refuses_245 ?_
                  refine x_icmp_ne (tgt := 359) B dL_refuses_246 (by decide) (by first | assumption | omega) (by first | assumption | omega) (fun c246 => ?_) (fun c246 => ?_)
                  · exfalso; omega
                  · refine x_aload_n B dL_refuses_249 rfl ?_
                    refine x_iload_n B dL_refuses_250 rfl ?_
                    refine x_iconst B dL_refuses_251 ?_
                    refine x_qd B mvL_21 (z_batchInfo hI (by omega) (by omega) (by omega)) dL_refuses_252 rfl rfl (by decide) (by decide) (Nat.le_of_ble_eq_true rfl) (fun _ h => h) (fun r252 => ?_)
                    refine x_iconst B dL_refuses_255 ?_
                    refine x_icmp_ne (tgt := 359) B dL_refuses_256 (by decide) (by first | assumption | omega) (by first | assumption | omega) (fun c256 => ?_) (fun c256 => ?_)
                    · exfalso; omega
                    · refine x_aload_n B dL_refuses_259 rfl ?_
                      refine x_iload_n B dL_refuses_260 rfl ?_
                      refine x_qd B mvL_27 (z_waits hI (by omega) (by omega)) dL_refuses_261 rfl rfl (by decide) (by decide) (Nat.le_of_ble_eq_true rfl) (fun _ h => h) (fun r261 => ?_)
                      refine x_iconst B dL_refuses_264 ?_
                      refine x_icmp_ne (tgt := 359) B dL_refuses_265 (by decide) (by first | assumption | omega) (by first | assumption | omega) (fun c265 => ?_) (fun c265 => ?_)
                      · exfalso; omega
                      · refine x_aload_n B dL_refuses_268 rfl ?_
                        refine x_iconst B dL_refuses_269 ?_
                        refine x_qd B mvL_37 (z_inOrder hI (by omega) (by omega)) dL_refuses_270 rfl rfl (by decide) (by decide) (Nat.le_of_ble_eq_true rfl) (fun _ h => h) (fun r270 => ?_)
                        refine x_iconst B dL_refuses_273 ?_
                        refine x_icmp_ne (tgt := 359) B dL_refuses_274 (by decide) (by first | assumption | omega) (by first | assumption | omega) (fun c274 => ?_) (fun c274 => ?_)
                        · exfalso; omega
                        · refine x_aload_n B dL_refuses_277 rfl ?_
                          refine x_iconst B dL_refuses_278 ?_
                          refine x_qd B mvL_93 (z_run hI (by omega) (by omega)) dL_refuses_279 rfl rfl (by decide) (by decide) (Nat.le_of_ble_eq_true rfl) (fun _ h => h) (fun r279 => ?_)
                          refine x_iconst B dL_refuses_282 ?_
                          refine x_icmp_ne (tgt := 359) B dL_refuses_283 (by decide) (by first | assumption | omega) (by first | assumption | omega) (fun c283 => ?_) (fun c283 => ?_)
                          · exfalso; omega
                          · refine x_aload_n B dL_refuses_286 rfl ?_
                            refine x_sipush B dL_refuses_287 (by decide) ?_
                            refine x_qd B mvL_93 (z_run hI (by omega) (by omega)) dL_refuses_290 rfl rfl (by decide) (by decide) (Nat.le_of_ble_eq_true rfl) (fun _ h => h) (fun r290 => ?_)
                            refine x_iconst B dL_refuses_293 ?_
                            refine x_icmp_ne (tgt := 359) B dL_refuses_294 (by decide) (by first | assumption | omega) (by first | assumption | omega) (fun c294 => ?_) (fun c294 => ?_)
                            · exfalso; omega
                            · refine x_aload_n B dL_refuses_297 rfl ?_
                              refine x_iload_n B dL_refuses_298 rfl ?_
                              refine x_qd B mvL_90 (z_ticksTo hI (by omega) (by omega)) dL_refuses_299 rfl rfl (by decide) (by decide) (Nat.le_of_ble_eq_true rfl) (fun _ h => h) (fun r299 => ?_)
                              refine x_iconst B dL_refuses_302 ?_
                              refine x_icmp_ne (tgt := 359) B dL_refuses_303 (by decide) (by first | assumption | omega) (by first | assumption | omega) (fun c303 => ?_) (fun c303 => ?_)
                              · exfalso; omega
                              · refine x_aload_n B dL_refuses_306 rfl ?_
                                refine x_bipush B dL_refuses_307 (by decide) ?_
                                refine x_qd B mvL_9 (z_count hI (by omega) (by omega)) dL_refuses_309 rfl rfl (by decide) (by decide) (Nat.le_of_ble_eq_true rfl) (fun _ h => h) (fun r309 => ?_)
                                refine x_iconst B dL_refuses_312 ?_
                                refine x_icmp_ne (tgt := 359) B dL_refuses_313 (by decide) (by first | assumption | omega) (by first | assumption | omega) (fun c313 => ?_) (fun c313 => ?_)
                                · exfalso; omega
                                · refine x_aload_n B dL_refuses_316 rfl ?_
                                  refine x_iconst B dL_refuses_317 ?_
                                  refine x_iconst B dL_refuses_318 ?_
                                  refine x_qd B mvL_40 (z_event hI (by omega) (by omega) (by omega)) dL_refuses_319 rfl rfl (by decide) (by decide) (Nat.le_of_ble_eq_true rfl) (fun _ h => h) (fun r319 => ?_)
                                  refine x_iconst B dL_refuses_322 ?_
                                  refine x_icmp_ne (tgt := 359) B dL_refuses_323 (by decide) (by first | assumption | omega) (by first | assumption | omega) (fun c323 => ?_) (fun c323 => ?_)
                                  · exfalso; omega
                                  · refine x_aload_n B dL_refuses_326 rfl ?_
                                    refine x_iconst B dL_refuses_327 ?_
                                    refine x_iconst B dL_refuses_328 ?_
                                    refine x_qd B mvL_40 (z_event hI (by omega) (by omega) (by omega)) dL_refuses_329 rfl rfl (by decide) (by decide) (Nat.le_of_ble_eq_true rfl) (fun _ h => h) (fun r329 => ?_)
                                    refine x_iconst B dL_refuses_332 ?_
                                    refine x_icmp_ne (tgt := 359) B dL_refuses_333 (by decide) (by first | assumption | omega) (by first | assumption | omega) (fun c333 => ?_) (fun c333 => ?_)
                                    · exfalso; omega
                                    · refine x_aload_n B dL_refuses_336 rfl ?_
                                      refine x_bipush B dL_refuses_337 (by decide) ?_
                                      refine x_qd B mvL_43 (z_type hI (by omega) (by omega)) dL_refuses_339 rfl rfl (by decide) (by decide) (Nat.le_of_ble_eq_true rfl) (fun _ h => h) (fun r339 => ?_)
                                      refine x_iconst B dL_refuses_342 ?_
                                      refine x_icmp_ne (tgt := 359) B dL_refuses_343 (by decide) (by first | assumption | omega) (by first | assumption | omega) (fun c343 => ?_) (fun c343 => ?_)
                                      · exfalso; omega
                                      · refine x_aload_n B dL_refuses_346 rfl ?_
                                        refine x_iconst B dL_refuses_347 ?_
                                        refine x_qd B mvL_60 (z_fault hI (by omega) (by omega)) dL_refuses_348 rfl rfl (by decide) (by decide) (Nat.le_of_ble_eq_true rfl) (fun _ h => h) (fun r348 => ?_)
                                        refine x_iconst B dL_refuses_351 ?_
                                        refine x_icmp_ne (tgt := 359) B dL_refuses_352 (by decide) (by first | assumption | omega) (by first | assumption | omega) (fun c352 => ?_) (fun c352 => ?_)
                                        · exfalso; omega
                                        · refine x_iconst B dL_refuses_355 ?_
                                          refine x_goto (tgt := 360) B dL_refuses_356 (by decide) ?_
                                          exact K360 _ (by omega)
    · refine x_istore B dL_refuses_360 (by decide) ?_
      refine x_iload B dL_refuses_362 rfl ?_
      refine x_if_eq (tgt := 390) B dL_refuses_364 (by decide) (by first | assumption | omega) (fun c364 => ?_) (fun c364 => ?_)
      · exfalso; omega
      · refine x_aload_n B dL_refuses_367 rfl ?_
        refine x_bipush B dL_refuses_368 (by decide) ?_
        refine x_qd B mvL_9 (q_count14 hI) dL_refuses_370 rfl rfl (by decide) (by decide) (Nat.le_of_ble_eq_true rfl) (fun _ h => h) (fun r370 => ?_)
        refine x_iload_n B dL_refuses_373 rfl ?_
        refine x_icmp_ne (tgt := 390) B dL_refuses_374 (by decide) (by first | assumption | omega) (by first | assumption | omega) (fun c374 => ?_) (fun c374 => ?_)
        · exfalso; omega
        · refine x_aload_n B dL_refuses_377 rfl ?_
          refine x_iconst B dL_refuses_378 ?_
          refine x_qd B mvL_9 (q_count (by first | assumption | omega) (by first | assumption | omega)) dL_refuses_379 rfl rfl (by decide) (by decide) (Nat.le_of_ble_eq_true rfl) (fun _ h => h) (fun r379 => ?_)
          refine x_iload_n B dL_refuses_382 rfl ?_
          refine x_icmp_ne (tgt := 390) B dL_refuses_383 (by decide) (by first | assumption | omega) (by first | assumption | omega) (fun c383 => ?_) (fun c383 => ?_)
          · exfalso; omega
          · refine x_iconst B dL_refuses_386 ?_
            refine x_goto (tgt := 391) B dL_refuses_387 (by decide) ?_
            exact x_bret B R dL_refuses_391 rfl
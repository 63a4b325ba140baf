/-! ===== the reference reads its text ===== -/
theorem bz_cg {c c' : Prop} [Decidable c] [Decidable c'] (h : c ↔ c') : bz c = bz c' := by
  by_cases q : c
  · rw [bz_t q, bz_t (h.mp q)]
  · rw [bz_f q, bz_f (fun z => q (h.mpr z))]
theorem c_X7_here {G : xG} {l : Launch} {b : Nat} {m : Int → Int} {ρ : Nat → Int → Int} {rd : Int → Int} {a fr nu : Int} (h1 : okT (ρ 2) (ρ 5 1)) (h2 : 0 ≤ a) : CT G l yX7_here cX7_here 1 (some .int) ({ frames := 0, cells := 0, slots := 0, locals := 0 } : Room) 0 0 [.ref b] (PT G b m ρ rd a fr nu) (pI (t_cur (ρ 2) (ρ 5 1) a) (PT G b m ρ rd a fr nu)) (AM b) := by
  refine x_met1 (own := RX7) (nm := "here") (L := [(0, .ref b)]) (by decide) rfl rfl (fun _ => rfl) (Nat.le_of_ble_eq_true rfl) rfl rfl ?_
  intro Γ B R
  obtain ⟨⟨hn0, hn1⟩, hT⟩ := h1
  refine x_aload_n B dX7_here_0 rfl ?_
  refine x_getI B fgX7_92 dX7_here_1 PT.g6 (fun r1 => ?_)
  refine x_aload_n B dX7_here_4 rfl ?_
  refine x_getI B fgX7_95 dX7_here_5 PT.g5 (fun r5 => ?_)
  refine x_icmp_ge (tgt := 23) B dX7_here_8 (by decide) (by omega) (by omega) (fun c8 => ?_) (fun c8 => ?_)
  · refine x_iconst B dX7_here_23 ?_
    exact x_retI B R dX7_here_24 (by unfold t_cur; first | (rw [if_pos (by omega)]) | (rw [if_neg (by omega)])) (by unfold t_cur; first | (rw [if_pos (by omega)]; omega) | (rw [if_neg (by omega)]; omega)) (fun H h => by exact h)
  · refine x_aload_n B dX7_here_11 rfl ?_
    refine x_get B fgX7_19 dX7_here_12 (fun _ h => ⟨_, PT.o h, rfl⟩) ?_
    refine x_aload_n B dX7_here_15 rfl ?_
    refine x_getI B fgX7_92 dX7_here_16 PT.g6 (fun r16 => ?_)
    refine x_ialdR B dX7_here_19 (by omega) (by decide) PT.a2 (fun r19 => ?_)
    refine x_goto (tgt := 24) B dX7_here_20 (by decide) ?_
    exact x_retI B R dX7_here_24 (by unfold t_cur; first | (rw [if_pos (by omega)]) | (rw [if_neg (by omega)])) (by unfold t_cur; first | (rw [if_pos (by omega)]; omega) | (rw [if_neg (by omega)]; omega)) (fun H h => by exact h)
theorem c_X7_isFault {G : xG} {l : Launch} {b : Nat} {m : Int → Int} {ρ : Nat → Int → Int} {rd : Int → Int} {a fr nu : Int} : CT G l yX7_isFault cX7_isFault 1 (some .boolean) ({ frames := 0, cells := 0, slots := 0, locals := 0 } : Room) 0 0 [.ref b] (PT G b m ρ rd a fr nu) (pZ False (PT G b m ρ rd a (t_flt (ρ 5 1) a) nu)) (AM b) := by
  refine x_met1 (own := RX7) (nm := "isFault") (L := [(0, .ref b)]) (by decide) rfl rfl (fun _ => rfl) (Nat.le_of_ble_eq_true rfl) rfl rfl ?_
  intro Γ B R
  refine x_aload_n B dX7_isFault_0 rfl ?_
  refine x_aload_n B dX7_isFault_1 rfl ?_
  refine x_getI B fgX7_92 dX7_isFault_2 PT.g6 (fun r2 => ?_)
  refine x_aload_n B dX7_isFault_5 rfl ?_
  refine x_getI B fgX7_95 dX7_isFault_6 PT.g5 (fun r6 => ?_)
  refine x_icmp_ne (tgt := 16) B dX7_isFault_9 (by decide) (by omega) (by omega) (fun c9 => ?_) (fun c9 => ?_)
  · refine x_iconst B dX7_isFault_16 ?_
    refine x_put B fpX7_98 dX7_isFault_17 rfl rfl (by unfold AM; omega) (PT.p7 (by omega)) ?_
    refine x_iconst B dX7_isFault_20 ?_
    exact x_retZ B R dX7_isFault_21 ((bz_f (by exact fun h => h)).symm) (fun H h => by unfold t_flt; first | (rw [if_pos (by omega)]; exact h) | (rw [if_neg (by omega)]; exact h))
  · refine x_iconst B dX7_isFault_12 ?_
    refine x_goto (tgt := 17) B dX7_isFault_13 (by decide) ?_
    refine x_put B fpX7_98 dX7_isFault_17 rfl rfl (by unfold AM; omega) (PT.p7 (by omega)) ?_
    refine x_iconst B dX7_isFault_20 ?_
    exact x_retZ B R dX7_isFault_21 ((bz_f (by exact fun h => h)).symm) (fun H h => by unfold t_flt; first | (rw [if_pos (by omega)]; exact h) | (rw [if_neg (by omega)]; exact h))
theorem c_X7_takes {G : xG} {l : Launch} {b : Nat} {m : Int → Int} {ρ : Nat → Int → Int} {rd : Int → Int} {a fr nu c : Int} (h1 : okT (ρ 2) (ρ 5 1)) (h2 : 0 ≤ a ∧ a ≤ 200) (h3 : -2147483648 ≤ c ∧ c < 2147483648) : CT G l yX7_takes cX7_takes 3 (some .boolean) ({ frames := 1, cells := 0, slots := 0, locals := 20 } : Room) 0 0 [.ref b, vi c] (PT G b m ρ rd a fr nu) (pZ (t_cur (ρ 2) (ρ 5 1) a = c) (PT G b m ρ rd (if t_cur (ρ 2) (ρ 5 1) a = c then a + 1 else a) fr nu)) (AM b) := by
  refine x_met1 (own := RX7) (nm := "takes") (L := [(0, .ref b), (1, vi c)]) (by decide) rfl rfl (fun _ => rfl) (Nat.le_of_ble_eq_true rfl) rfl rfl ?_
  intro Γ B R
  refine x_aload_n B dX7_takes_0 rfl ?_
  refine x_mV B mvX7_104 (fun l => c_X7_here h1 (by omega)) dX7_takes_1 rfl rfl (by decide) (by decide) (Nat.le_of_ble_eq_true rfl) PT.rv (fun r1 => ?_)
  refine x_iload_n B dX7_takes_4 rfl ?_
  refine x_icmp_ne (tgt := 12) B dX7_takes_5 (by decide) (by omega) (by omega) (fun c5 => ?_) (fun c5 => ?_)
  · refine x_iconst B dX7_takes_12 ?_
    refine x_istore_n B dX7_takes_13 (by decide) ?_
    refine x_aload_n B dX7_takes_14 rfl ?_
    refine x_dup B dX7_takes_15 rfl ?_
    refine x_getI B fgX7_92 dX7_takes_16 PT.g6 (fun r16 => ?_)
    refine x_iload_n B dX7_takes_19 rfl ?_
    refine x_if_eq (tgt := 27) B dX7_takes_20 (by decide) (by omega) (fun _ => ?_) (fun c20 => by exfalso; revert c20; decide)
    refine x_iconst B dX7_takes_27 ?_
    refine x_iadd B dX7_takes_28 ?_
    refine x_put B fpX7_92 dX7_takes_29 rfl rfl (by unfold AM; omega) (PT.p6 (by omega)) ?_
    refine x_iload_n B dX7_takes_32 rfl ?_
    exact x_retZ B R dX7_takes_33 ((bz_f (by omega)).symm) (fun H h => by first | (rw [if_pos (by omega)]; exact h) | (rw [if_neg (by omega), ← Int.add_zero a]; exact h))
  · refine x_iconst B dX7_takes_8 ?_
    refine x_goto (tgt := 13) B dX7_takes_9 (by decide) ?_
    refine x_istore_n B dX7_takes_13 (by decide) ?_
    refine x_aload_n B dX7_takes_14 rfl ?_
    refine x_dup B dX7_takes_15 rfl ?_
    refine x_getI B fgX7_92 dX7_takes_16 PT.g6 (fun r16 => ?_)
    refine x_iload_n B dX7_takes_19 rfl ?_
    refine x_if_eq (tgt := 27) B dX7_takes_20 (by decide) (by omega) (fun c20 => by exfalso; revert c20; decide) (fun _ => ?_)
    refine x_iconst B dX7_takes_23 ?_
    refine x_goto (tgt := 28) B dX7_takes_24 (by decide) ?_
    refine x_iadd B dX7_takes_28 ?_
    refine x_put B fpX7_92 dX7_takes_29 rfl rfl (by unfold AM; omega) (PT.p6 (by omega)) ?_
    refine x_iload_n B dX7_takes_32 rfl ?_
    exact x_retZ B R dX7_takes_33 ((bz_t (by omega)).symm) (fun H h => by first | (rw [if_pos (by omega)]; exact h) | (rw [if_neg (by omega), ← Int.add_zero a]; exact h))
theorem c_X7_kindBy {G : xG} {l : Launch} {P : Heap → Prop} {A : Nat → Prop} {c : Int} (h1 : -2147483648 ≤ c ∧ c < 2147483648) : CT G l yX7_kindBy cX7_kindBy 1 (some .int) ({ frames := 0, cells := 0, slots := 0, locals := 0 } : Room) 0 0 [vi c] P (pI (t_kind c) P) A := by
  refine x_met1 (own := RX7) (nm := "kindBy") (L := [(0, vi c)]) (by decide) rfl rfl (fun _ => rfl) (Nat.le_of_ble_eq_true rfl) rfl rfl ?_
  intro Γ B R
  refine x_iload_n B dX7_kindBy_0 rfl ?_
  refine x_bipush B dX7_kindBy_1 (by decide) ?_
  refine x_icmp_ne (tgt := 10) B dX7_kindBy_3 (by decide) (by omega) (by omega) (fun c3 => ?_) (fun c3 => ?_)
  · refine x_iload_n B dX7_kindBy_10 rfl ?_
    refine x_bipush B dX7_kindBy_11 (by decide) ?_
    refine x_icmp_ne (tgt := 20) B dX7_kindBy_13 (by decide) (by omega) (by omega) (fun c13 => ?_) (fun c13 => ?_)
    · refine x_iload_n B dX7_kindBy_20 rfl ?_
      refine x_bipush B dX7_kindBy_21 (by decide) ?_
      refine x_icmp_ne (tgt := 30) B dX7_kindBy_23 (by decide) (by omega) (by omega) (fun c23 => ?_) (fun c23 => ?_)
      · refine x_iload_n B dX7_kindBy_30 rfl ?_
        refine x_bipush B dX7_kindBy_31 (by decide) ?_
        refine x_icmp_ne (tgt := 40) B dX7_kindBy_33 (by decide) (by omega) (by omega) (fun c33 => ?_) (fun c33 => ?_)
        · refine x_iconst B dX7_kindBy_40 ?_
          exact x_retI B R dX7_kindBy_41 (by unfold t_kind; repeat (first | rfl | rw [if_pos (by omega)] | rw [if_neg (by omega)])) (by unfold t_kind; (repeat' split) <;> omega) (fun H h => by exact h)
        · refine x_iconst B dX7_kindBy_36 ?_
          refine x_goto (tgt := 41) B dX7_kindBy_37 (by decide) ?_
          exact x_retI B R dX7_kindBy_41 (by unfold t_kind; repeat (first | rfl | rw [if_pos (by omega)] | rw [if_neg (by omega)])) (by unfold t_kind; (repeat' split) <;> omega) (fun H h => by exact h)
      · refine x_iconst B dX7_kindBy_26 ?_
        refine x_goto (tgt := 41) B dX7_kindBy_27 (by decide) ?_
        exact x_retI B R dX7_kindBy_41 (by unfold t_kind; repeat (first | rfl | rw [if_pos (by omega)] | rw [if_neg (by omega)])) (by unfold t_kind; (repeat' split) <;> omega) (fun H h => by exact h)
    · refine x_iconst B dX7_kindBy_16 ?_
      refine x_goto (tgt := 41) B dX7_kindBy_17 (by decide) ?_
      exact x_retI B R dX7_kindBy_41 (by unfold t_kind; repeat (first | rfl | rw [if_pos (by omega)] | rw [if_neg (by omega)])) (by unfold t_kind; (repeat' split) <;> omega) (fun H h => by exact h)
  · refine x_iconst B dX7_kindBy_6 ?_
    refine x_goto (tgt := 41) B dX7_kindBy_7 (by decide) ?_
    exact x_retI B R dX7_kindBy_41 (by unfold t_kind; repeat (first | rfl | rw [if_pos (by omega)] | rw [if_neg (by omega)])) (by unfold t_kind; (repeat' split) <;> omega) (fun H h => by exact h)
theorem c_X7_readNumber {G : xG} {l : Launch} {b : Nat} {m : Int → Int} {ρ : Nat → Int → Int} {rd : Int → Int} {a fr nu mx : Int} {f : Nat} (h1 : okT (ρ 2) (ρ 5 1)) (h2 : 0 ≤ a ∧ a ≤ ρ 5 1) (h3 : f ≤ 3) (h4 : 1 ≤ mx ∧ mx ≤ 1000) : CT G l yX7_readNumber cX7_readNumber 4 (some .boolean) ({ frames := 1, cells := 0, slots := 0, locals := 22 } : Room) 0 0 [.ref b, vi (f : Int), vi mx] (PT G b m ρ rd a fr nu) (pZ ((t_num (ρ 2) (ρ 5 1) f mx a).1 = 0) (PT G b m ρ rd (t_num (ρ 2) (ρ 5 1) f mx a).2.1 (if (t_num (ρ 2) (ρ 5 1) f mx a).1 = 0 then fr else (t_num (ρ 2) (ρ 5 1) f mx a).1) (t_num (ρ 2) (ρ 5 1) f mx a).2.2)) (AM b) := by
  refine x_met1 (own := RX7) (nm := "readNumber") (L := [(0, .ref b), (1, vi (f : Int)), (2, vi mx)]) (by decide) rfl rfl (fun _ => rfl) (Nat.le_of_ble_eq_true rfl) rfl rfl ?_
  intro Γ B R
  have hn := h1.1
  have hfl := fun z => flt_rg (n := ρ 5 1) z
  have tail : ∀ (a' v : Int), t_scan (ρ 2) (ρ 5 1) f a 0 = (a', v) → a ≤ a' → a' ≤ ρ 5 1 → (0 ≤ v ∧ v ≤ 1000) → XJ Γ 0 0 (PT G b m ρ rd a' fr v) 66 [(0, .ref b), (1, vi (f : Int)), (2, vi mx), (3, vi a)] [] := by
    intro a' v hs ha1 ha2 hv
    have hc := cur_rg h1 (a := a') (by omega)
    have q1 := hfl a'
    refine x_aload_n B dX7_readNumber_66 rfl ?_
    refine x_getI B fgX7_92 dX7_readNumber_67 PT.g6 (fun r67 => ?_)
    refine x_iload_n B dX7_readNumber_70 rfl ?_
    refine x_icmp_ne (tgt := 79) B dX7_readNumber_71 (by decide) (by omega) (by omega) (fun c71 => ?_) (fun c71 => ?_)
    · refine x_aload_n B dX7_readNumber_79 rfl ?_
      refine x_getI B fgX7_101 dX7_readNumber_80 PT.g8 (fun r80 => ?_)
      refine x_iconst B dX7_readNumber_83 ?_
      refine x_iload_n B dX7_readNumber_84 rfl ?_
      refine x_sZ B msX7_36 (fun l => c_X7_in (by omega) (by omega) (by omega)) dX7_readNumber_85 rfl rfl (by decide) (by decide) (Nat.le_of_ble_eq_true rfl) ?_
      refine x_ifz_ne (tgt := 103) B dX7_readNumber_88 (by decide) (fun c88 => ?_) (fun c88 => ?_)
      · refine x_aload_n B dX7_readNumber_103 rfl ?_
        refine x_mV B mvX7_104 (fun l => c_X7_here h1 (by omega)) dX7_readNumber_104 rfl rfl (by decide) (by decide) (Nat.le_of_ble_eq_true rfl) PT.rv (fun r104 => ?_)
        refine x_bipush B dX7_readNumber_107 (by decide) ?_
        refine x_bipush B dX7_readNumber_109 (by decide) ?_
        refine x_sZ B msX7_36 (fun l => c_X7_in (by omega) (by omega) (by omega)) dX7_readNumber_111 rfl rfl (by decide) (by decide) (Nat.le_of_ble_eq_true rfl) ?_
        refine x_ifz_eq (tgt := 124) B dX7_readNumber_114 (by decide) (fun c114 => ?_) (fun c114 => ?_)
        · refine x_iconst B dX7_readNumber_124 ?_
          refine x_goto (tgt := 129) B dX7_readNumber_125 (by decide) ?_
          first
            | (have hN : t_num (ρ 2) (ρ 5 1) f mx a = (0, a', v) := by
                 unfold t_num
                 rw [hs]
                 simp only
                 rw [if_neg (by omega), if_neg (by omega), if_neg (by omega)]
               rw [hN] at R
               exact x_retZ B R dX7_readNumber_129 (bz_t rfl).symm (fun H h => by simp only; rw [if_pos trivial]; exact h))
            | (have hN : t_num (ρ 2) (ρ 5 1) f mx a = (t_flt (ρ 5 1) a', a', v) := by
                 unfold t_num
                 rw [hs]
                 simp only
                 rw [if_neg (by omega), if_neg (by omega), if_pos (by omega)]
               rw [hN] at R
               exact x_retZ B R dX7_readNumber_129 (bz_f (by simp only; omega)).symm (fun H h => by simp only; rw [if_neg (by omega)]; exact h))
            | (exfalso; assumption)
            | (exfalso; omega)
        · refine x_aload_n B dX7_readNumber_117 rfl ?_
          refine x_mZ B mvX7_107 (fun l => c_X7_isFault ) dX7_readNumber_118 rfl rfl (by decide) (by decide) (Nat.le_of_ble_eq_true rfl) PT.rv ?_
          refine x_ifz_eq (tgt := 128) B dX7_readNumber_121 (by decide) (fun c121 => ?_) (fun c121 => ?_)
          · refine x_iconst B dX7_readNumber_128 ?_
            first
              | (have hN : t_num (ρ 2) (ρ 5 1) f mx a = (0, a', v) := by
                   unfold t_num
                   rw [hs]
                   simp only
                   rw [if_neg (by omega), if_neg (by omega), if_neg (by omega)]
                 rw [hN] at R
                 exact x_retZ B R dX7_readNumber_129 (bz_t rfl).symm (fun H h => by simp only; rw [if_pos trivial]; exact h))
              | (have hN : t_num (ρ 2) (ρ 5 1) f mx a = (t_flt (ρ 5 1) a', a', v) := by
                   unfold t_num
                   rw [hs]
                   simp only
                   rw [if_neg (by omega), if_neg (by omega), if_pos (by omega)]
                 rw [hN] at R
                 exact x_retZ B R dX7_readNumber_129 (bz_f (by simp only; omega)).symm (fun H h => by simp only; rw [if_neg (by omega)]; exact h))
              | (exfalso; assumption)
              | (exfalso; omega)
          · refine x_iconst B dX7_readNumber_124 ?_
            refine x_goto (tgt := 129) B dX7_readNumber_125 (by decide) ?_
            first
              | (have hN : t_num (ρ 2) (ρ 5 1) f mx a = (0, a', v) := by
                   unfold t_num
                   rw [hs]
                   simp only
                   rw [if_neg (by omega), if_neg (by omega), if_neg (by omega)]
                 rw [hN] at R
                 exact x_retZ B R dX7_readNumber_129 (bz_t rfl).symm (fun H h => by simp only; rw [if_pos trivial]; exact h))
              | (have hN : t_num (ρ 2) (ρ 5 1) f mx a = (t_flt (ρ 5 1) a', a', v) := by
                   unfold t_num
                   rw [hs]
                   simp only
                   rw [if_neg (by omega), if_neg (by omega), if_pos (by omega)]
                 rw [hN] at R
                 exact x_retZ B R dX7_readNumber_129 (bz_f (by simp only; omega)).symm (fun H h => by simp only; rw [if_neg (by omega)]; exact h))
              | (exfalso; assumption)
              | (exfalso; omega)
      · refine x_aload_n B dX7_readNumber_91 rfl ?_
        refine x_iload_n B dX7_readNumber_92 rfl ?_
        refine x_put B fpX7_92 dX7_readNumber_93 rfl rfl (by unfold AM; omega) (PT.p6 (by omega)) ?_
        refine x_aload_n B dX7_readNumber_96 rfl ?_
        refine x_iconst B dX7_readNumber_97 ?_
        refine x_put B fpX7_98 dX7_readNumber_98 rfl rfl (by unfold AM; omega) (PT.p7 (by omega)) ?_
        refine x_iconst B dX7_readNumber_101 ?_
        have hN : t_num (ρ 2) (ρ 5 1) f mx a = (2, a, v) := by
          unfold t_num
          rw [hs]
          simp only
          rw [if_neg (by omega), if_pos (by omega)]
        rw [hN] at R
        exact x_retZ B R dX7_readNumber_102 (bz_f (by simp only; omega)).symm (fun H h => by simp only; rw [if_neg (by omega)]; exact h)
    · refine x_aload_n B dX7_readNumber_74 rfl ?_
      refine x_mZ B mvX7_107 (fun l => c_X7_isFault ) dX7_readNumber_75 rfl rfl (by decide) (by decide) (Nat.le_of_ble_eq_true rfl) PT.rv ?_
      have hN : t_num (ρ 2) (ρ 5 1) f mx a = (t_flt (ρ 5 1) a', a', v) := by
        unfold t_num
        rw [hs]
        simp only
        rw [if_pos (by omega), show a' = a by omega]
      rw [hN] at R
      exact x_retZ B R dX7_readNumber_78 (bz_cg ⟨fun q => q.elim, fun q => by simp only at q; omega⟩) (fun H h => by simp only; rw [if_neg (by omega)]; exact h)
  have loop : ∀ (f' : Nat) (a' v : Int), a' + f' = a + f → t_scan (ρ 2) (ρ 5 1) f a 0 = t_scan (ρ 2) (ρ 5 1) f' a' v → a ≤ a' → a' ≤ ρ 5 1 → 0 ≤ v → (v + 1) * ((10 ^ f' : Nat) : Int) ≤ 1000 → XJ Γ 0 0 (PT G b m ρ rd a' fr v) 10 [(0, .ref b), (1, vi (f : Int)), (2, vi mx), (3, vi a)] [] := by
    intro f'
    induction f' with
    | zero =>
      intro a' v e hs ha1 ha2 hv hv2
      have hv3 : v + 1 ≤ 1000 := by simpa using hv2
      refine x_aload_n B dX7_readNumber_10 rfl ?_
      refine x_getI B fgX7_92 dX7_readNumber_11 PT.g6 (fun r11 => ?_)
      refine x_iload_n B dX7_readNumber_14 rfl ?_
      refine x_iload_n B dX7_readNumber_15 rfl ?_
      refine x_iadd B dX7_readNumber_16 ?_
      refine x_icmp_ge (tgt := 66) B dX7_readNumber_17 (by decide) (by omega) (by omega) (fun c17 => ?_) (fun c17 => ?_)
      · exact tail a' v hs ha1 ha2 (by omega)
      · omega
    | succ f' ih =>
      intro a' v e hs ha1 ha2 hv hv2
      have hc := cur_rg h1 (a := a') (by omega)
      have hp : (1 : Int) ≤ ((10 ^ f' : Nat) : Int) := by exact_mod_cast Nat.pow_pos (show 0 < 10 by decide)
      have e10 : ((10 ^ (f' + 1) : Nat) : Int) = 10 * ((10 ^ f' : Nat) : Int) := by rw [Nat.pow_succ]; omega
      have hv3 : v + 1 ≤ 1000 := by
        rw [e10] at hv2
        have := Int.mul_le_mul_of_nonneg_left (show (1 : Int) ≤ 10 * ((10 ^ f' : Nat) : Int) by omega) (show 0 ≤ v + 1 by omega)
        rw [Int.mul_one] at this
        exact Int.le_trans this hv2
      have hst : t_scan (ρ 2) (ρ 5 1) (f' + 1) a' v = if 48 ≤ t_cur (ρ 2) (ρ 5 1) a' ∧ t_cur (ρ 2) (ρ 5 1) a' ≤ 57 then t_scan (ρ 2) (ρ 5 1) f' (a' + 1) (10 * v + t_cur (ρ 2) (ρ 5 1) a' - 48) else (a', v) := rfl
      refine x_aload_n B dX7_readNumber_10 rfl ?_
      refine x_getI B fgX7_92 dX7_readNumber_11 PT.g6 (fun r11 => ?_)
      refine x_iload_n B dX7_readNumber_14 rfl ?_
      refine x_iload_n B dX7_readNumber_15 rfl ?_
      refine x_iadd B dX7_readNumber_16 ?_
      refine x_icmp_ge (tgt := 66) B dX7_readNumber_17 (by decide) (by omega) (by omega) (fun c17 => ?_) (fun c17 => ?_)
      · first
          | omega
          | exact tail a' v (by rw [hs, hst, if_neg (by assumption)]) ha1 ha2 (by omega)
      · refine x_aload_n B dX7_readNumber_20 rfl ?_
        refine x_mV B mvX7_104 (fun l => c_X7_here h1 (by omega)) dX7_readNumber_21 rfl rfl (by decide) (by decide) (Nat.le_of_ble_eq_true rfl) PT.rv (fun r21 => ?_)
        refine x_bipush B dX7_readNumber_24 (by decide) ?_
        refine x_bipush B dX7_readNumber_26 (by decide) ?_
        refine x_sZ B msX7_36 (fun l => c_X7_in (by omega) (by omega) (by omega)) dX7_readNumber_28 rfl rfl (by decide) (by decide) (Nat.le_of_ble_eq_true rfl) ?_
        refine x_ifz_eq (tgt := 66) B dX7_readNumber_31 (by decide) (fun c31 => ?_) (fun c31 => ?_)
        · first
            | omega
            | exact tail a' v (by rw [hs, hst, if_neg (by assumption)]) ha1 ha2 (by omega)
        · refine x_aload_n B dX7_readNumber_34 rfl ?_
          refine x_bipush B dX7_readNumber_35 (by decide) ?_
          refine x_aload_n B dX7_readNumber_37 rfl ?_
          refine x_getI B fgX7_101 dX7_readNumber_38 PT.g8 (fun r38 => ?_)
          refine x_imul B dX7_readNumber_41 ?_
          refine x_aload_n B dX7_readNumber_42 rfl ?_
          refine x_mV B mvX7_104 (fun l => c_X7_here h1 (by omega)) dX7_readNumber_43 rfl rfl (by decide) (by decide) (Nat.le_of_ble_eq_true rfl) PT.rv (fun r43 => ?_)
          refine x_iadd B dX7_readNumber_46 ?_
          refine x_bipush B dX7_readNumber_47 (by decide) ?_
          refine x_isub B dX7_readNumber_49 ?_
          refine x_put B fpX7_101 dX7_readNumber_50 rfl rfl (by unfold AM; omega) (PT.p8 (by omega)) ?_
          refine x_aload_n B dX7_readNumber_53 rfl ?_
          refine x_dup B dX7_readNumber_54 rfl ?_
          refine x_getI B fgX7_92 dX7_readNumber_55 PT.g6 (fun r55 => ?_)
          refine x_iconst B dX7_readNumber_58 ?_
          refine x_iadd B dX7_readNumber_59 ?_
          refine x_put B fpX7_92 dX7_readNumber_60 rfl rfl (by unfold AM; omega) (PT.p6 (by omega)) ?_
          refine x_goto (tgt := 10) B dX7_readNumber_63 (by decide) ?_
          exact ih (a' + 1) (10 * v + t_cur (ρ 2) (ρ 5 1) a' - 48) (by omega) (by rw [hs, hst, if_pos (by assumption)]) (by omega) (by omega) (by omega) (by
            rw [e10, ← Int.mul_assoc] at hv2
            exact Int.le_trans (Int.mul_le_mul_of_nonneg_right (by omega) (by omega)) hv2)
  refine x_aload_n B dX7_readNumber_0 rfl ?_
  refine x_getI B fgX7_92 dX7_readNumber_1 PT.g6 (fun r1 => ?_)
  refine x_istore_n B dX7_readNumber_4 (by decide) ?_
  refine x_aload_n B dX7_readNumber_5 rfl ?_
  refine x_iconst B dX7_readNumber_6 ?_
  refine x_put B fpX7_101 dX7_readNumber_7 rfl rfl (by unfold AM; omega) (PT.p8 (by omega)) ?_
  exact loop f a 0 rfl rfl (by omega) (by omega) (by omega) (by
    have : 10 ^ f ≤ 10 ^ 3 := Nat.pow_le_pow_right (by decide) h3
    rw [Int.zero_add, Int.one_mul]
    omega)
/-- what is left where a phase was read -/
def PPh (G : xG) (b : Nat) (m : Int → Int) (ρ : Nat → Int → Int) (rd : Int → Int) (k fr : Int) (r : Int × Int × Int) (H : Heap) : Prop := ∃ nu, PT G b m ρ (if r.1 = 0 then up rd k r.2.2 else rd) r.2.1 (if r.1 = 0 then fr else r.1) nu H
theorem c_X7_readPhase {G : xG} {l : Launch} {b : Nat} {m : Int → Int} {ρ : Nat → Int → Int} {rd : Int → Int} {a fr nu k : Int} (h1 : okT (ρ 2) (ρ 5 1)) (h2 : 0 ≤ a ∧ a ≤ ρ 5 1) (h3 : 0 ≤ k ∧ k ≤ 8) : CT G l yX7_readPhase cX7_readPhase 6 (some .boolean) ({ frames := 2, cells := 0, slots := 0, locals := 45 } : Room) 0 0 [.ref b, vi k] (PT G b m ρ rd a fr nu) (pZ ((t_phase (ρ 2) (ρ 5 1) k a).1 = 0) (PPh G b m ρ rd k fr (t_phase (ρ 2) (ρ 5 1) k a))) (AM b) := by
  refine x_met1 (own := RX7) (nm := "readPhase") (L := [(0, .ref b), (1, vi k)]) (by decide) rfl rfl (fun _ => rfl) (Nat.le_of_ble_eq_true rfl) rfl rfl ?_
  intro Γ B R
  have hn := h1.1
  have hfl := fun z => flt_rg (n := ρ 5 1) z
  have tail145 : ∀ (a4 kd dr pc yl fr' : Int), fr' = fr → k ≠ 8 → (0 ≤ a4 ∧ a4 ≤ ρ 5 1) → (0 ≤ kd ∧ kd ≤ 3) → (1 ≤ dr ∧ dr ≤ 99) → (-1 ≤ pc ∧ pc ≤ 2) → (1 ≤ yl ∧ yl ≤ 100) → t_phase (ρ 2) (ρ 5 1) k a = t_ph3 (ρ 2) (ρ 5 1) kd dr pc yl a4 → XJ Γ 0 0 (PT G b m ρ rd a4 fr' yl) 145 [(0, .ref b), (1, vi k), (2, vi kd), (3, vi dr), (4, vi pc)] [] := by
    intro a4 kd dr pc yl fr' hf hk8 ha hkd hdr hpc hyl hP
    subst hf
    have hc := cur_rg h1 ha.1
    have hmk : t_mk (ρ 2) (ρ 5 1) a4 = if t_cur (ρ 2) (ρ 5 1) a4 = 97 then 1 else 0 := rfl
    have t167 : ∀ mk : Int, (0 ≤ mk ∧ mk ≤ 1) → t_mk (ρ 2) (ρ 5 1) a4 = mk → (mk = 1 → a4 < ρ 5 1) → XJ Γ 0 0 (PT G b m ρ rd (a4 + mk) fr' yl) 161 [(0, .ref b), (1, vi k), (2, vi kd), (3, vi dr), (4, vi pc), (5, vi mk)] [] := by
      intro mk hm em hml
      have hc5 := cur_rg h1 (a := a4 + mk) (by omega)
      have q5 := hfl (a4 + mk)
      refine x_aload_n B dX7_readPhase_161 rfl ?_
      refine x_bipush B dX7_readPhase_162 (by decide) ?_
      refine x_mZ B mvX7_119 (fun l => c_X7_takes h1 (by omega) (by omega)) dX7_readPhase_164 rfl rfl (by decide) (by decide) (Nat.le_of_ble_eq_true rfl) PT.rv ?_
      refine x_ifz_ne (tgt := 175) B dX7_readPhase_167 (by decide) (fun c167 => ?_) (fun c167 => ?_)
      · refine x_aload_n B dX7_readPhase_175 rfl ?_
        refine x_get B fgX7_22 dX7_readPhase_176 (fun _ h => ⟨_, PT.o h, rfl⟩) ?_
        refine x_iload_n B dX7_readPhase_179 rfl ?_
        refine x_iload_n B dX7_readPhase_180 rfl ?_
        refine x_iload_n B dX7_readPhase_181 rfl ?_
        refine x_iconst B dX7_readPhase_182 ?_
        refine x_ishl (w := dr * 4) B dX7_readPhase_183 (i32_shl (k := 2) (by omega)) ?_
        refine x_ior (w := kd + dr * 4) B dX7_readPhase_184 (i32_or (z := dr) 2 (by omega) rfl (by omega)) ?_
        refine x_iload B dX7_readPhase_185 rfl ?_
        refine x_iconst B dX7_readPhase_187 ?_
        refine x_iadd B dX7_readPhase_188 ?_
        refine x_bipush B dX7_readPhase_189 (by decide) ?_
        refine x_ishl (w := (pc + 1) * 512) B dX7_readPhase_191 (i32_shl (k := 9) (by omega)) ?_
        refine x_ior (w := kd + dr * 4 + (pc + 1) * 512) B dX7_readPhase_192 (i32_or (z := pc + 1) 9 (by omega) rfl (by omega)) ?_
        refine x_aload_n B dX7_readPhase_193 rfl ?_
        refine x_getI B fgX7_101 dX7_readPhase_194 PT.g8 (fun r194 => ?_)
        refine x_bipush B dX7_readPhase_197 (by decide) ?_
        refine x_ishl (w := yl * 2048) B dX7_readPhase_199 (i32_shl (k := 11) (by omega)) ?_
        refine x_ior (w := kd + dr * 4 + (pc + 1) * 512 + yl * 2048) B dX7_readPhase_200 (i32_or (z := yl) 11 (by omega) rfl (by omega)) ?_
        refine x_iload B dX7_readPhase_201 rfl ?_
        refine x_bipush B dX7_readPhase_203 (by decide) ?_
        refine x_ishl (w := mk * 262144) B dX7_readPhase_205 (i32_shl (k := 18) (by omega)) ?_
        refine x_ior (w := kd + dr * 4 + (pc + 1) * 512 + yl * 2048 + mk * 262144) B dX7_readPhase_206 (i32_or (z := mk) 18 (by omega) rfl (by omega)) ?_
        refine x_iast B dX7_readPhase_207 (by omega) (by decide) (by unfold AM; omega) (PT.s3 (by omega)) ?_
        refine x_iconst B dX7_readPhase_208 ?_
        have hN : t_phase (ρ 2) (ρ 5 1) k a = (0, a4 + mk + 1, kd + dr * 4 + (pc + 1) * 512 + yl * 2048 + mk * 262144) := by
          rw [hP]
          unfold t_ph3
          rw [em, if_pos (by assumption)]
        rw [hN] at R
        refine x_retZ B R dX7_readPhase_209 (bz_t rfl).symm (fun H h => ⟨yl, ?_⟩)
        simp only
        rw [if_pos trivial, if_pos trivial]
        rw [if_pos (by assumption)] at h
        exact h
      · refine x_aload_n B dX7_readPhase_170 rfl ?_
        refine x_mZ B mvX7_107 (fun l => c_X7_isFault ) dX7_readPhase_171 rfl rfl (by decide) (by decide) (Nat.le_of_ble_eq_true rfl) PT.rv ?_
        have hN : t_phase (ρ 2) (ρ 5 1) k a = (t_flt (ρ 5 1) (a4 + mk), a4 + mk, 0) := by
          rw [hP]
          unfold t_ph3
          rw [em, if_neg (by assumption)]
        rw [hN] at R
        refine x_retZ B R dX7_readPhase_174 (bz_cg ⟨fun q => q.elim, fun q => by simp only at q; omega⟩) (fun H h => ⟨yl, ?_⟩)
        simp only
        rw [if_neg (by omega), if_neg (by omega)]
        rw [if_neg (by assumption)] at h
        exact h
    refine x_aload_n B dX7_readPhase_145 rfl ?_
    refine x_bipush B dX7_readPhase_146 (by decide) ?_
    refine x_mZ B mvX7_119 (fun l => c_X7_takes h1 (by omega) (by omega)) dX7_readPhase_148 rfl rfl (by decide) (by decide) (Nat.le_of_ble_eq_true rfl) PT.rv ?_
    refine x_ifz_eq (tgt := 158) B dX7_readPhase_151 (by decide) (fun c151 => ?_) (fun c151 => ?_)
    · refine x_iconst B dX7_readPhase_158 ?_
      refine x_istore B dX7_readPhase_159 (by decide) ?_
      first
        | (have t := t167 1 (by omega) (by rw [hmk, if_pos (by assumption)]) (fun _ => by omega)
           rw [if_pos (by assumption)]
           exact x_locs (xl_cons rfl (xl_cons rfl (xl_cons rfl (xl_cons rfl (xl_cons rfl (xl_cons rfl xl_nil)))))) t)
        | (have t := t167 0 (by omega) (by rw [hmk, if_neg (by assumption)]) (fun _ => by omega)
           rw [Int.add_zero] at t
           rw [if_neg (by assumption)]
           exact x_locs (xl_cons rfl (xl_cons rfl (xl_cons rfl (xl_cons rfl (xl_cons rfl (xl_cons rfl xl_nil)))))) t)
    · refine x_iconst B dX7_readPhase_154 ?_
      refine x_goto (tgt := 159) B dX7_readPhase_155 (by decide) ?_
      refine x_istore B dX7_readPhase_159 (by decide) ?_
      first
        | (have t := t167 1 (by omega) (by rw [hmk, if_pos (by assumption)]) (fun _ => by omega)
           rw [if_pos (by assumption)]
           exact x_locs (xl_cons rfl (xl_cons rfl (xl_cons rfl (xl_cons rfl (xl_cons rfl (xl_cons rfl xl_nil)))))) t)
        | (have t := t167 0 (by omega) (by rw [hmk, if_neg (by assumption)]) (fun _ => by omega)
           rw [Int.add_zero] at t
           rw [if_neg (by assumption)]
           exact x_locs (xl_cons rfl (xl_cons rfl (xl_cons rfl (xl_cons rfl (xl_cons rfl (xl_cons rfl xl_nil)))))) t)
  have tail118 : ∀ (a3 kd dr pc fr' nu' : Int), fr' = fr → k ≠ 8 → (0 ≤ a3 ∧ a3 ≤ ρ 5 1) → (0 ≤ kd ∧ kd ≤ 3) → (1 ≤ dr ∧ dr ≤ 99) → (-1 ≤ pc ∧ pc ≤ 2) → t_phase (ρ 2) (ρ 5 1) k a = t_ph2 (ρ 2) (ρ 5 1) kd dr pc a3 → XJ Γ 0 0 (PT G b m ρ rd a3 fr' nu') 118 [(0, .ref b), (1, vi k), (2, vi kd), (3, vi dr), (4, vi pc)] [] := by
    intro a3 kd dr pc fr' nu' hf hk8 ha hkd hdr hpc hP
    have hc := cur_rg h1 ha.1
    have hy : t_yld (ρ 2) (ρ 5 1) a3 = if t_cur (ρ 2) (ρ 5 1) a3 = 121 then t_num (ρ 2) (ρ 5 1) 3 100 (a3 + 1) else (0, a3, 100) := rfl
    have hP2 : t_ph2 (ρ 2) (ρ 5 1) kd dr pc a3 = if (t_yld (ρ 2) (ρ 5 1) a3).1 ≠ 0 then ((t_yld (ρ 2) (ρ 5 1) a3).1, (t_yld (ρ 2) (ρ 5 1) a3).2.1, 0) else t_ph3 (ρ 2) (ρ 5 1) kd dr pc (t_yld (ρ 2) (ρ 5 1) a3).2.2 (t_yld (ρ 2) (ρ 5 1) a3).2.1 := rfl
    refine x_aload_n B dX7_readPhase_118 rfl ?_
    refine x_bipush B dX7_readPhase_119 (by decide) ?_
    refine x_put B fpX7_101 dX7_readPhase_121 rfl rfl (by unfold AM; omega) (PT.p8 (by omega)) ?_
    refine x_aload_n B dX7_readPhase_124 rfl ?_
    refine x_bipush B dX7_readPhase_125 (by decide) ?_
    refine x_mZ B mvX7_119 (fun l => c_X7_takes h1 (by omega) (by omega)) dX7_readPhase_127 rfl rfl (by decide) (by decide) (Nat.le_of_ble_eq_true rfl) PT.rv ?_
    refine x_ifz_eq (tgt := 145) B dX7_readPhase_130 (by decide) (fun c130 => ?_) (fun c130 => ?_)
    · rw [if_neg (by assumption)]
      first
        | (rw [if_neg (by assumption)] at hy
           exact tail145 a3 kd dr pc 100 fr' hf hk8 ha hkd hdr hpc (by omega) (by rw [hP, hP2, hy, if_neg (by simp)]))
        | (rw [if_pos (by assumption)]
           exact tail145 _ kd dr pc _ fr' hf hk8 (by omega) hkd hdr hpc (hnr.2.2.1 (by assumption)) (by rw [hP, hP2, hy, if_neg (by simp only [ne_eq, Classical.not_not]; assumption)]))
    · rw [if_pos (by assumption)]
      have hnr := num_rg h1 (f := 3) (mx := 100) (a := a3 + 1) (by omega)
      rw [if_pos (by assumption)] at hy
      refine x_aload_n B dX7_readPhase_133 rfl ?_
      refine x_iconst B dX7_readPhase_134 ?_
      refine x_bipush B dX7_readPhase_135 (by decide) ?_
      refine x_mZ B mvX7_115 (fun l => c_X7_readNumber (f := 3) h1 (by omega) (by omega) (by omega)) dX7_readPhase_137 rfl rfl (by decide) (by decide) (Nat.le_of_ble_eq_true rfl) PT.rv ?_
      refine x_ifz_ne (tgt := 145) B dX7_readPhase_140 (by decide) (fun c140 => ?_) (fun c140 => ?_)
      · first
          | (rw [if_neg (by assumption)] at hy
             exact tail145 a3 kd dr pc 100 fr' hf hk8 ha hkd hdr hpc (by omega) (by rw [hP, hP2, hy, if_neg (by simp)]))
          | (rw [if_pos (by assumption)]
             exact tail145 _ kd dr pc _ fr' hf hk8 (by omega) hkd hdr hpc (hnr.2.2.1 (by assumption)) (by rw [hP, hP2, hy, if_neg (by simp only [ne_eq, Classical.not_not]; assumption)]))
      · refine x_iconst B dX7_readPhase_143 ?_
        rw [hP2, hy, if_pos (by assumption)] at hP
        rw [hP] at R
        refine x_retZ B R dX7_readPhase_144 (bz_f (by assumption)).symm (fun H h => ⟨(t_num (ρ 2) (ρ 5 1) 3 100 (a3 + 1)).2.2, ?_⟩)
        simp only
        rw [if_neg (by assumption), if_neg (by assumption)]
        rw [if_neg (by assumption)] at h
        exact h
  have hc := cur_rg h1 h2.1
  have hk := kind_rg (t_cur (ρ 2) (ρ 5 1) a)
  have hP1 : t_phase (ρ 2) (ρ 5 1) k a = if t_kind (t_cur (ρ 2) (ρ 5 1) a) = -1 then (t_flt (ρ 5 1) a, a, 0) else if k = 8 then (4, a, 0) else if (t_num (ρ 2) (ρ 5 1) 2 99 (a + 1)).1 ≠ 0 then ((t_num (ρ 2) (ρ 5 1) 2 99 (a + 1)).1, (t_num (ρ 2) (ρ 5 1) 2 99 (a + 1)).2.1, 0) else t_ph1 (ρ 2) (ρ 5 1) (t_kind (t_cur (ρ 2) (ρ 5 1) a)) (t_num (ρ 2) (ρ 5 1) 2 99 (a + 1)).2.2 (t_num (ρ 2) (ρ 5 1) 2 99 (a + 1)).2.1 := rfl
  refine x_aload_n B dX7_readPhase_0 rfl ?_
  refine x_mV B mvX7_104 (fun l => c_X7_here h1 (by omega)) dX7_readPhase_1 rfl rfl (by decide) (by decide) (Nat.le_of_ble_eq_true rfl) PT.rv (fun r1 => ?_)
  refine x_sV B msX7_111 (fun l => c_X7_kindBy (by omega)) dX7_readPhase_4 rfl rfl (by decide) (by decide) (Nat.le_of_ble_eq_true rfl) (fun r4 => ?_)
  refine x_istore_n B dX7_readPhase_7 (by decide) ?_
  refine x_iload_n B dX7_readPhase_8 rfl ?_
  refine x_iconst B dX7_readPhase_9 ?_
  refine x_icmp_ne (tgt := 18) B dX7_readPhase_10 (by decide) (by omega) (by omega) (fun c10 => ?_) (fun c10 => ?_)
  · refine x_iload_n B dX7_readPhase_18 rfl ?_
    refine x_bipush B dX7_readPhase_19 (by decide) ?_
    refine x_icmp_ne (tgt := 31) B dX7_readPhase_21 (by decide) (by omega) (by omega) (fun c21 => ?_) (fun c21 => ?_)
    · rw [if_neg (by assumption), if_neg (by assumption)] at hP1
      have hnr := num_rg h1 (f := 2) (mx := 99) (a := a + 1) (by omega)
      refine x_aload_n B dX7_readPhase_31 rfl ?_
      refine x_dup B dX7_readPhase_32 rfl ?_
      refine x_getI B fgX7_92 dX7_readPhase_33 PT.g6 (fun r33 => ?_)
      refine x_iconst B dX7_readPhase_36 ?_
      refine x_iadd B dX7_readPhase_37 ?_
      refine x_put B fpX7_92 dX7_readPhase_38 rfl rfl (by unfold AM; omega) (PT.p6 (by omega)) ?_
      refine x_aload_n B dX7_readPhase_41 rfl ?_
      refine x_iconst B dX7_readPhase_42 ?_
      refine x_bipush B dX7_readPhase_43 (by decide) ?_
      refine x_mZ B mvX7_115 (fun l => c_X7_readNumber (f := 2) h1 (by omega) (by omega) (by omega)) dX7_readPhase_45 rfl rfl (by decide) (by decide) (Nat.le_of_ble_eq_true rfl) PT.rv ?_
      refine x_ifz_ne (tgt := 53) B dX7_readPhase_48 (by decide) (fun c48 => ?_) (fun c48 => ?_)
      · rw [if_neg (by simp only [ne_eq, Classical.not_not]; assumption)] at hP1
        rw [if_pos (by assumption)]
        have hdr := hnr.2.2.1 (by assumption)
        generalize t_num (ρ 2) (ρ 5 1) 2 99 (a + 1) = N at *
        have hc1 := cur_rg h1 (a := N.2.1) (by omega)
        have hc2 := cur_rg h1 (a := N.2.1 + 1) (by omega)
        have q2 := hfl (N.2.1 + 1)
        have hP3 : t_ph1 (ρ 2) (ρ 5 1) (t_kind (t_cur (ρ 2) (ρ 5 1) a)) N.2.2 N.2.1 = if t_cur (ρ 2) (ρ 5 1) N.2.1 = 115 then (if 48 ≤ t_cur (ρ 2) (ρ 5 1) (N.2.1 + 1) ∧ t_cur (ρ 2) (ρ 5 1) (N.2.1 + 1) ≤ 50 then t_ph2 (ρ 2) (ρ 5 1) (t_kind (t_cur (ρ 2) (ρ 5 1) a)) N.2.2 (t_cur (ρ 2) (ρ 5 1) (N.2.1 + 1) - 48) (N.2.1 + 2) else (t_flt (ρ 5 1) (N.2.1 + 1), N.2.1 + 1, 0)) else t_ph2 (ρ 2) (ρ 5 1) (t_kind (t_cur (ρ 2) (ρ 5 1) a)) N.2.2 (-1) N.2.1 := rfl
        refine x_aload_n B dX7_readPhase_53 rfl ?_
        refine x_getI B fgX7_101 dX7_readPhase_54 PT.g8 (fun r54 => ?_)
        refine x_istore_n B dX7_readPhase_57 (by decide) ?_
        refine x_iconst B dX7_readPhase_58 ?_
        refine x_istore B dX7_readPhase_59 (by decide) ?_
        refine x_aload_n B dX7_readPhase_61 rfl ?_
        refine x_bipush B dX7_readPhase_62 (by decide) ?_
        refine x_mZ B mvX7_119 (fun l => c_X7_takes h1 (by omega) (by omega)) dX7_readPhase_64 rfl rfl (by decide) (by decide) (Nat.le_of_ble_eq_true rfl) PT.rv ?_
        refine x_ifz_eq (tgt := 118) B dX7_readPhase_67 (by decide) (fun c67 => ?_) (fun c67 => ?_)
        · rw [if_neg (by assumption)] at hP3
          rw [if_neg (by assumption)]
          first
            | exact x_locs (xl_cons rfl (xl_cons rfl (xl_cons rfl (xl_cons rfl (xl_cons rfl xl_nil))))) (tail118 N.2.1 _ _ (-1) fr _ rfl (by assumption) (by omega) (by omega) hdr (by omega) (by rw [hP1, hP3]))
            | (rw [show N.2.1 + 1 + 1 = N.2.1 + 2 by omega]
               exact x_locs (xl_cons rfl (xl_cons rfl (xl_cons rfl (xl_cons rfl (xl_cons rfl xl_nil))))) (tail118 (N.2.1 + 2) _ _ (t_cur (ρ 2) (ρ 5 1) (N.2.1 + 1) - 48) fr _ rfl (by assumption) (by omega) (by omega) hdr (by omega) (by rw [hP1, hP3, if_pos (by assumption)])))
        · rw [if_pos (by assumption)] at hP3
          rw [if_pos (by assumption)]
          refine x_aload_n B dX7_readPhase_70 rfl ?_
          refine x_mV B mvX7_104 (fun l => c_X7_here h1 (by omega)) dX7_readPhase_71 rfl rfl (by decide) (by decide) (Nat.le_of_ble_eq_true rfl) PT.rv (fun r71 => ?_)
          refine x_bipush B dX7_readPhase_74 (by decide) ?_
          refine x_bipush B dX7_readPhase_76 (by decide) ?_
          refine x_sZ B msX7_36 (fun l => c_X7_in (by omega) (by omega) (by omega)) dX7_readPhase_78 rfl rfl (by decide) (by decide) (Nat.le_of_ble_eq_true rfl) ?_
          refine x_ifz_eq (tgt := 94) B dX7_readPhase_81 (by decide) (fun c81 => ?_) (fun c81 => ?_)
          · refine x_iconst B dX7_readPhase_94 ?_
            refine x_istore B dX7_readPhase_95 (by decide) ?_
            refine x_iload B dX7_readPhase_97 rfl ?_
            refine x_iconst B dX7_readPhase_99 ?_
            refine x_icmp_ne (tgt := 108) B dX7_readPhase_100 (by decide) (by omega) (by omega) (fun c100 => by exfalso; revert c100; decide) (fun _ => ?_)
            refine x_aload_n B dX7_readPhase_103 rfl ?_
            refine x_mZ B mvX7_107 (fun l => c_X7_isFault ) dX7_readPhase_104 rfl rfl (by decide) (by decide) (Nat.le_of_ble_eq_true rfl) PT.rv ?_
            first
              | (exfalso; omega)
              | (rw [hP1, hP3, if_neg (by assumption)] at R
                 refine x_retZ B R dX7_readPhase_107 (bz_cg ⟨fun q => q.elim, fun q => by simp only at q; omega⟩) (fun H h => ⟨N.2.2, ?_⟩)
                 simp only
                 rw [if_neg (by omega), if_neg (by omega)]
                 exact h)
          · refine x_aload_n B dX7_readPhase_84 rfl ?_
            refine x_mV B mvX7_104 (fun l => c_X7_here h1 (by omega)) dX7_readPhase_85 rfl rfl (by decide) (by decide) (Nat.le_of_ble_eq_true rfl) PT.rv (fun r85 => ?_)
            refine x_bipush B dX7_readPhase_88 (by decide) ?_
            refine x_isub B dX7_readPhase_90 ?_
            refine x_goto (tgt := 95) B dX7_readPhase_91 (by decide) ?_
            refine x_istore B dX7_readPhase_95 (by decide) ?_
            refine x_iload B dX7_readPhase_97 rfl ?_
            refine x_iconst B dX7_readPhase_99 ?_
            refine x_icmp_ne (tgt := 108) B dX7_readPhase_100 (by decide) (by omega) (by omega) (fun c100 => ?_) (fun c100 => ?_)
            · refine x_aload_n B dX7_readPhase_108 rfl ?_
              refine x_dup B dX7_readPhase_109 rfl ?_
              refine x_getI B fgX7_92 dX7_readPhase_110 PT.g6 (fun r110 => ?_)
              refine x_iconst B dX7_readPhase_113 ?_
              refine x_iadd B dX7_readPhase_114 ?_
              refine x_put B fpX7_92 dX7_readPhase_115 rfl rfl (by unfold AM; omega) (PT.p6 (by omega)) ?_
              first
                | exact x_locs (xl_cons rfl (xl_cons rfl (xl_cons rfl (xl_cons rfl (xl_cons rfl xl_nil))))) (tail118 N.2.1 _ _ (-1) fr _ rfl (by assumption) (by omega) (by omega) hdr (by omega) (by rw [hP1, hP3]))
                | (rw [show N.2.1 + 1 + 1 = N.2.1 + 2 by omega]
                   exact x_locs (xl_cons rfl (xl_cons rfl (xl_cons rfl (xl_cons rfl (xl_cons rfl xl_nil))))) (tail118 (N.2.1 + 2) _ _ (t_cur (ρ 2) (ρ 5 1) (N.2.1 + 1) - 48) fr _ rfl (by assumption) (by omega) (by omega) hdr (by omega) (by rw [hP1, hP3, if_pos (by assumption)])))
            · refine x_aload_n B dX7_readPhase_103 rfl ?_
              refine x_mZ B mvX7_107 (fun l => c_X7_isFault ) dX7_readPhase_104 rfl rfl (by decide) (by decide) (Nat.le_of_ble_eq_true rfl) PT.rv ?_
              first
                | (exfalso; omega)
                | (rw [hP1, hP3, if_neg (by assumption)] at R
                   refine x_retZ B R dX7_readPhase_107 (bz_cg ⟨fun q => q.elim, fun q => by simp only at q; omega⟩) (fun H h => ⟨N.2.2, ?_⟩)
                   simp only
                   rw [if_neg (by omega), if_neg (by omega)]
                   exact h)
      · refine x_iconst B dX7_readPhase_51 ?_
        rw [if_pos (by assumption)] at hP1
        rw [hP1] at R
        refine x_retZ B R dX7_readPhase_52 (bz_f (by assumption)).symm (fun H h => ⟨(t_num (ρ 2) (ρ 5 1) 2 99 (a + 1)).2.2, ?_⟩)
        simp only
        rw [if_neg (by assumption), if_neg (by assumption)]
        rw [if_neg (by assumption)] at h
        exact h
    · refine x_aload_n B dX7_readPhase_24 rfl ?_
      refine x_iconst B dX7_readPhase_25 ?_
      refine x_put B fpX7_98 dX7_readPhase_26 rfl rfl (by unfold AM; omega) (PT.p7 (by omega)) ?_
      refine x_iconst B dX7_readPhase_29 ?_
      rw [if_neg (by assumption), if_pos (by assumption)] at hP1
      rw [hP1] at R
      refine x_retZ B R dX7_readPhase_30 (bz_f (by simp only; omega)).symm (fun H h => ⟨nu, ?_⟩)
      simp only
      rw [if_neg (by omega), if_neg (by omega)]
      exact h
  · refine x_aload_n B dX7_readPhase_13 rfl ?_
    refine x_mZ B mvX7_107 (fun l => c_X7_isFault ) dX7_readPhase_14 rfl rfl (by decide) (by decide) (Nat.le_of_ble_eq_true rfl) PT.rv ?_
    rw [if_pos (by assumption)] at hP1
    rw [hP1] at R
    have q := hfl a
    refine x_retZ B R dX7_readPhase_17 (bz_cg ⟨fun q => q.elim, fun q => by simp only at q; omega⟩) (fun H h => ⟨nu, ?_⟩)
    simp only
    rw [if_neg (by omega), if_neg (by omega)]
    exact h

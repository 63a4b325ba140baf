/-! ===== the reference's ticks, walked ===== -/
theorem fA_lt {k z y : Int} (hk : 0 ≤ k ∧ k ≤ 7) (hz : okF k z) (hy : 1 ≤ y ∧ y ≤ 100) : (FP.fdiv (FP.fmul (fB z) (FP.i2f (Int32.ofInt y))) 1120403456).toNat < 2139095040 := by
  unfold okF at hz
  have h1 := fB_nat (z := z) (by omega)
  obtain ⟨h2, h3⟩ := f_mul (x := fB z) (n := y) (by omega) (by omega)
  obtain ⟨h4, h5⟩ := f_div100 (x := FP.fmul (fB z) (FP.i2f (Int32.ofInt y))) (by omega)
  omega
theorem c_X7_ends {G : xG} {l : Launch} {b : Nat} {m : Int → Int} {ρ : Nat → Int → Int} {W x : Int} (h1 : Iv0 m W) (h2 : 0 ≤ x ∧ x < m 3) (h3 : m (548 + 10 * x + 6) < lnB m x) : CT G l yX7_ends cX7_ends 5 none ({ frames := 3, cells := 0, slots := 0, locals := 68 } : Room) 0 0 [.ref b, vi x] (PM G b m ρ) (pV (PM G b (s_ends m x (phB m x (m (548 + 10 * x + 6)))) ρ)) (AM b) := by
  refine x_met1 (own := RX7) (nm := "ends") (L := [(0, .ref b), (1, vi x)]) (by decide) rfl rfl (fun _ => rfl) (Nat.le_of_ble_eq_true rfl) rfl rfl ?_
  intro Γ B R
  have hn := h1.n
  have hb := h1.b h2.1 h2.2
  obtain ⟨hp, hl, hph⟩ := h1.page h2.1 h2.2
  unfold okB0 at hb
  have hv := h1.vs (r := m (548 + 10 * x + 0)) (by omega) (by omega)
  have hpk := hph _ hb.2.2.2.2.2.2.1.1 h3
  have hF := hb.2.2.2.2.2.2.2.2.2
  have hpk' := hpk
  unfold okP at hpk'
  obtain ⟨-, hfm, hfd⟩ := fA_rg (k := m (548 + 10 * x + 6)) (z := m (548 + 10 * x + 9)) (y := phB m x (m (548 + 10 * x + 6)) / 2048 % 128) (by omega) hF (by omega)
  have hfl := fA_lt (k := m (548 + 10 * x + 6)) (z := m (548 + 10 * x + 9)) (y := phB m x (m (548 + 10 * x + 6)) / 2048 % 128) (by omega) hF (by omega)
  have hFB : 0 ≤ m (548 + 10 * x + 9) ∧ m (548 + 10 * x + 9) < 2139095040 := by unfold okF at hF; omega
  have tail : XJ Γ 0 0 (PM G b (s_pe m x (phB m x (m (548 + 10 * x + 6)))) ρ) 72 [(0, .ref b), (1, vi x), (2, vi (phB m x (m (548 + 10 * x + 6))))] [] := by
    have eS : s_ends m x (phB m x (m (548 + 10 * x + 6))) = if (s_pe m x (phB m x (m (548 + 10 * x + 6)))) (548 + 10 * x + 6) = (s_pe m x (phB m x (m (548 + 10 * x + 6)))) (62 + 9 * (s_pe m x (phB m x (m (548 + 10 * x + 6)))) (548 + 10 * x + 0) + (s_pe m x (phB m x (m (548 + 10 * x + 6)))) (548 + 10 * x + 1) - 1) then s_endsBy (s_pe m x (phB m x (m (548 + 10 * x + 6)))) x 6 6 else if (s_pe m x (phB m x (m (548 + 10 * x + 6)))) (548 + 10 * x + 5) = 3 then s_endsBy (s_pe m x (phB m x (m (548 + 10 * x + 6)))) x 4 4 else if phB (s_pe m x (phB m x (m (548 + 10 * x + 6)))) x ((s_pe m x (phB m x (m (548 + 10 * x + 6)))) (548 + 10 * x + 6)) % 4 = phB m x (m (548 + 10 * x + 6)) % 4 then s_pe m x (phB m x (m (548 + 10 * x + 6))) else s_relU (s_pe m x (phB m x (m (548 + 10 * x + 6)))) x := rfl
    have f := pe_B (m := m) (p := phB m x (m (548 + 10 * x + 6))) (b := x) (by omega)
    have e0 := f 0 (by omega)
    have e1 := f 1 (by omega)
    have e5 := f 5 (by omega)
    have e6 := f 6 (by omega)
    have e8 := f 8 (by omega)
    simp only [show (8 : Int) ≠ 6 by decide, show (8 : Int) ≠ 7 by decide, show (8 : Int) ≠ 9 by decide, show (5 : Int) ≠ 6 by decide, show (5 : Int) ≠ 7 by decide, show (5 : Int) ≠ 9 by decide, show (0 : Int) ≠ 6 by decide, show (0 : Int) ≠ 7 by decide, show (0 : Int) ≠ 9 by decide, show (1 : Int) ≠ 6 by decide, show (1 : Int) ≠ 7 by decide, show (1 : Int) ≠ 9 by decide, if_false, if_true] at e0 e1 e5 e6 e8
    have e4 := pe_4 (m := m) (p := phB m x (m (548 + 10 * x + 6))) (b := x) (by omega) hn.2.2.2.2
    obtain ⟨pg5, ln5, ph5⟩ := page_fr (m' := s_pe m x (phB m x (m (548 + 10 * x + 6)))) hp e0 e1 (fun k k0 k1 => pe_ne (by omega) (by omega) (by omega) (by omega) (by omega) (by omega) (by omega))
    have eln : (s_pe m x (phB m x (m (548 + 10 * x + 6)))) (62 + 9 * (s_pe m x (phB m x (m (548 + 10 * x + 6)))) (548 + 10 * x + 0) + (s_pe m x (phB m x (m (548 + 10 * x + 6)))) (548 + 10 * x + 1) - 1) = lnB m x := by
      rw [← ln5]
      unfold lnB pgB
      congr 1
      omega
    have hnx : m (548 + 10 * x + 6) + 1 < lnB m x → 0 ≤ phB (s_pe m x (phB m x (m (548 + 10 * x + 6)))) x ((s_pe m x (phB m x (m (548 + 10 * x + 6)))) (548 + 10 * x + 6)) ∧ phB (s_pe m x (phB m x (m (548 + 10 * x + 6)))) x ((s_pe m x (phB m x (m (548 + 10 * x + 6)))) (548 + 10 * x + 6)) < 524288 := by
      intro q
      rw [e6, ph5 _ (by omega) (by omega)]
      have := hph (m (548 + 10 * x + 6) + 1) (by omega) q
      unfold okP at this
      omega
    generalize s_pe m x (phB m x (m (548 + 10 * x + 6))) = m5 at *
    generalize phB m x (m (548 + 10 * x + 6)) = p at *
    refine x_aload_n B dX7_ends_72 rfl ?_
    refine x_iload_n B dX7_ends_73 rfl ?_
    refine x_bipush B dX7_ends_74 (by decide) ?_
    refine x_mV B mvX7_40 (fun l => c_X7_of (by omega)) dX7_ends_76 rfl rfl (by decide) (by decide) (Nat.le_of_ble_eq_true rfl) PM.rv (fun r76 => ?_)
    refine x_aload_n B dX7_ends_79 rfl ?_
    refine x_aload_n B dX7_ends_80 rfl ?_
    refine x_iload_n B dX7_ends_81 rfl ?_
    refine x_iconst B dX7_ends_82 ?_
    refine x_mV B mvX7_40 (fun l => c_X7_of (by omega)) dX7_ends_83 rfl rfl (by decide) (by decide) (Nat.le_of_ble_eq_true rfl) PM.rv (fun r83 => ?_)
    refine x_aload_n B dX7_ends_86 rfl ?_
    refine x_iload_n B dX7_ends_87 rfl ?_
    refine x_iconst B dX7_ends_88 ?_
    refine x_mV B mvX7_40 (fun l => c_X7_of (by omega)) dX7_ends_89 rfl rfl (by decide) (by decide) (Nat.le_of_ble_eq_true rfl) PM.rv (fun r89 => ?_)
    refine x_mV B mvX7_146 (fun l => c_X7_phasesOf (by omega) (by omega)) dX7_ends_92 rfl rfl (by decide) (by decide) (Nat.le_of_ble_eq_true rfl) PM.rv (fun r92 => ?_)
    refine x_icmp_ne (tgt := 102) B dX7_ends_95 (by decide) (by omega) (by omega) (fun c95 => ?_) (fun c95 => ?_)
    · refine x_iconst B dX7_ends_102 ?_
      refine x_istore B dX7_ends_103 (by decide) ?_
      refine x_iload B dX7_ends_105 rfl ?_
      refine x_if_eq (tgt := 122) B dX7_ends_107 (by decide) (by omega) (fun _ => ?_) (fun c107 => by exfalso; revert c107; decide)
      refine x_aload_n B dX7_ends_122 rfl ?_
      refine x_iload_n B dX7_ends_123 rfl ?_
      refine x_iconst B dX7_ends_124 ?_
      refine x_mV B mvX7_40 (fun l => c_X7_of (by omega)) dX7_ends_125 rfl rfl (by decide) (by decide) (Nat.le_of_ble_eq_true rfl) PM.rv (fun r125 => ?_)
      refine x_iconst B dX7_ends_128 ?_
      refine x_icmp_ne (tgt := 142) B dX7_ends_129 (by decide) (by omega) (by omega) (fun c129 => ?_) (fun c129 => ?_)
      · have hnx' := hnx (by omega)
        refine x_aload_n B dX7_ends_142 rfl ?_
        refine x_iload_n B dX7_ends_143 rfl ?_
        refine x_mV B mvX7_164 (fun l => c_X7_phaseNow (by omega) (by omega) (by omega) (by omega)) dX7_ends_144 rfl rfl (by decide) (by decide) (Nat.le_of_ble_eq_true rfl) PM.rv (fun r144 => ?_)
        refine x_sV B msX7_131 (fun l => c_X7_kindOf (by omega)) dX7_ends_147 rfl rfl (by decide) (by decide) (Nat.le_of_ble_eq_true rfl) (fun r147 => ?_)
        refine x_iload_n B dX7_ends_150 rfl ?_
        refine x_sV B msX7_131 (fun l => c_X7_kindOf (by omega)) dX7_ends_151 rfl rfl (by decide) (by decide) (Nat.le_of_ble_eq_true rfl) (fun r151 => ?_)
        refine x_icmp_eq (tgt := 162) B dX7_ends_154 (by decide) (by omega) (by omega) (fun c154 => ?_) (fun c154 => ?_)
        · exact x_retV B R dX7_ends_162 (fun H h => by rw [eS]; (repeat (first | rw [if_pos (by omega)] | rw [if_neg (by omega)])); exact h)
        · refine x_aload_n B dX7_ends_157 rfl ?_
          refine x_iload_n B dX7_ends_158 rfl ?_
          refine x_mN B mvX7_61 (fun l => c_X7_releaseUnit (by omega) (by omega)) dX7_ends_159 rfl rfl (by decide) (by decide) (Nat.le_of_ble_eq_true rfl) PM.rv ?_
          exact x_retV B R dX7_ends_162 (fun H h => by rw [eS]; (repeat (first | rw [if_pos (by omega)] | rw [if_neg (by omega)])); exact h)
      · refine x_aload_n B dX7_ends_132 rfl ?_
        refine x_iload_n B dX7_ends_133 rfl ?_
        refine x_iconst B dX7_ends_134 ?_
        refine x_iconst B dX7_ends_135 ?_
        refine x_mN B mvX7_170 (fun l => c_X7_endsBy (by omega) (by omega) (by omega) (by omega) (by omega)) dX7_ends_136 rfl rfl (by decide) (by decide) (Nat.le_of_ble_eq_true rfl) PM.rv ?_
        refine x_goto (tgt := 162) B dX7_ends_139 (by decide) ?_
        exact x_retV B R dX7_ends_162 (fun H h => by rw [eS]; (repeat (first | rw [if_pos (by omega)] | rw [if_neg (by omega)])); exact h)
    · refine x_iconst B dX7_ends_98 ?_
      refine x_goto (tgt := 103) B dX7_ends_99 (by decide) ?_
      refine x_istore B dX7_ends_103 (by decide) ?_
      refine x_iload B dX7_ends_105 rfl ?_
      refine x_if_eq (tgt := 122) B dX7_ends_107 (by decide) (by omega) (fun c107 => by exfalso; revert c107; decide) (fun _ => ?_)
      refine x_aload_n B dX7_ends_110 rfl ?_
      refine x_iload_n B dX7_ends_111 rfl ?_
      refine x_bipush B dX7_ends_112 (by decide) ?_
      refine x_bipush B dX7_ends_114 (by decide) ?_
      refine x_mN B mvX7_170 (fun l => c_X7_endsBy (by omega) (by omega) (by omega) (by omega) (by omega)) dX7_ends_116 rfl rfl (by decide) (by decide) (Nat.le_of_ble_eq_true rfl) PM.rv ?_
      refine x_goto (tgt := 162) B dX7_ends_119 (by decide) ?_
      exact x_retV B R dX7_ends_162 (fun H h => by rw [eS]; (repeat (first | rw [if_pos (by omega)] | rw [if_neg (by omega)])); exact h)
  refine x_aload_n B dX7_ends_0 rfl ?_
  refine x_iload_n B dX7_ends_1 rfl ?_
  refine x_mV B mvX7_164 (fun l => c_X7_phaseNow (by omega) (by omega) (by omega) (by omega)) dX7_ends_2 rfl rfl (by decide) (by decide) (Nat.le_of_ble_eq_true rfl) PM.rv (fun r2 => ?_)
  refine x_istore_n B dX7_ends_5 (by decide) ?_
  refine x_aload_n B dX7_ends_6 rfl ?_
  refine x_iload_n B dX7_ends_7 rfl ?_
  refine x_bipush B dX7_ends_8 (by decide) ?_
  refine x_mV B mvX7_40 (fun l => c_X7_of (by omega)) dX7_ends_10 rfl rfl (by decide) (by decide) (Nat.le_of_ble_eq_true rfl) PM.rv (fun r10 => ?_)
  refine x_i2fb B xnX7_173 (f_sn hFB) (Nat.le_of_ble_eq_true rfl) (by decide) dX7_ends_13 ?_
  refine x_fstore_n B dX7_ends_16 (by decide) ?_
  refine x_aload_n B dX7_ends_17 rfl ?_
  refine x_iload_n B dX7_ends_18 rfl ?_
  refine x_mN B mvX7_57 (fun l => c_X7_releaseShared (by omega)) dX7_ends_19 rfl rfl (by decide) (by decide) (Nat.le_of_ble_eq_true rfl) PM.rv ?_
  refine x_aload_n B dX7_ends_22 rfl ?_
  refine x_iload_n B dX7_ends_23 rfl ?_
  refine x_bipush B dX7_ends_24 (by decide) ?_
  refine x_fload_n B dX7_ends_26 rfl ?_
  refine x_iload_n B dX7_ends_27 rfl ?_
  refine x_sV B msX7_140 (fun l => c_X7_yieldOf (by omega)) dX7_ends_28 rfl rfl (by decide) (by decide) (Nat.le_of_ble_eq_true rfl) (fun r28 => ?_)
  refine x_i2f B dX7_ends_31 ?_
  refine x_fmul B dX7_ends_32 (hfm) ?_
  refine x_ldcf B dX7_ends_33 ckX7_198 ?_
  refine x_fdiv B dX7_ends_35 (hfd) ?_
  refine x_sV B msX7_155 (fun l => c_J_bits hfl) dX7_ends_36 rfl rfl (by decide) (by decide) (Nat.le_of_ble_eq_true rfl) (fun r36 => ?_)
  have rA : -2147483648 ≤ fA (m (548 + 10 * x + 9)) (phB m x (m (548 + 10 * x + 6)) / 2048 % 128) ∧ fA (m (548 + 10 * x + 9)) (phB m x (m (548 + 10 * x + 6)) / 2048 % 128) < 2147483648 := fI_rg _
  refine x_top (show _ = fA (m (548 + 10 * x + 9)) (phB m x (m (548 + 10 * x + 6)) / 2048 % 128) from rfl) ?_
  refine x_mN B mvX7_54 (fun l => c_X7_put (by omega) (by omega)) dX7_ends_39 rfl rfl (by decide) (by decide) (Nat.le_of_ble_eq_true rfl) PM.rv ?_
  have e26 : up (s_relS m x 3) (548 + 10 * x + 9) (fA (m (548 + 10 * x + 9)) (phB m x (m (548 + 10 * x + 6)) / 2048 % 128)) (548 + 10 * x + 6) = m (548 + 10 * x + 6) := by rw [up_ne (by omega), s_relS_ne (by omega)]
  have e24 : up (up (up (s_relS m x 3) (548 + 10 * x + 9) (fA (m (548 + 10 * x + 9)) (phB m x (m (548 + 10 * x + 6)) / 2048 % 128))) (548 + 10 * x + 6) (up (s_relS m x 3) (548 + 10 * x + 9) (fA (m (548 + 10 * x + 9)) (phB m x (m (548 + 10 * x + 6)) / 2048 % 128)) (548 + 10 * x + 6) + 1)) (548 + 10 * x + 7) 0 4 = m 4 := by rw [up_ne (by omega), up_ne (by omega), up_ne (by omega), s_relS_ne (by omega)]
  refine x_aload_n B dX7_ends_42 rfl ?_
  refine x_iload_n B dX7_ends_43 rfl ?_
  refine x_bipush B dX7_ends_44 (by decide) ?_
  refine x_aload_n B dX7_ends_46 rfl ?_
  refine x_iload_n B dX7_ends_47 rfl ?_
  refine x_bipush B dX7_ends_48 (by decide) ?_
  refine x_mV B mvX7_40 (fun l => c_X7_of (by omega)) dX7_ends_50 rfl rfl (by decide) (by decide) (Nat.le_of_ble_eq_true rfl) PM.rv (fun r50 => ?_)
  refine x_iconst B dX7_ends_53 ?_
  refine x_iadd B dX7_ends_54 ?_
  refine x_mN B mvX7_54 (fun l => c_X7_put (by omega) (by omega)) dX7_ends_55 rfl rfl (by decide) (by decide) (Nat.le_of_ble_eq_true rfl) PM.rv ?_
  refine x_aload_n B dX7_ends_58 rfl ?_
  refine x_iload_n B dX7_ends_59 rfl ?_
  refine x_bipush B dX7_ends_60 (by decide) ?_
  refine x_iconst B dX7_ends_62 ?_
  refine x_mN B mvX7_54 (fun l => c_X7_put (by omega) (by omega)) dX7_ends_63 rfl rfl (by decide) (by decide) (Nat.le_of_ble_eq_true rfl) PM.rv ?_
  refine x_aload_n B dX7_ends_66 rfl ?_
  refine x_iload_n B dX7_ends_67 rfl ?_
  refine x_iconst B dX7_ends_68 ?_
  refine x_mN B mvX7_64 (fun l => c_X7_note (by omega) (by omega) (by omega)) dX7_ends_69 rfl rfl (by decide) (by decide) (Nat.le_of_ble_eq_true rfl) PM.rv ?_
  exact x_locs (xl_cons rfl (xl_cons rfl (xl_cons rfl xl_nil))) tail
theorem c_X7_work {G : xG} {l : Launch} {b : Nat} {m : Int → Int} {ρ : Nat → Int → Int} {W x : Int} (h1 : Iv m W) (hW : 0 ≤ W ∧ W ≤ 100000000) (h2 : 0 ≤ x ∧ x < m 3) (h3 : m (548 + 10 * x + 5) = 1 ∨ m (548 + 10 * x + 5) = 3) : CT G l yX7_work cX7_work 4 none ({ frames := 4, cells := 0, slots := 0, locals := 92 } : Room) 0 0 [.ref b, vi x] (PM G b m ρ) (pV (PM G b (s_work m x) ρ)) (AM b) := by
  refine x_met1 (own := RX7) (nm := "work") (L := [(0, .ref b), (1, vi x)]) (by decide) rfl rfl (fun _ => rfl) (Nat.le_of_ble_eq_true rfl) rfl rfl ?_
  intro Γ B R
  have hI := Iv_iff.mp h1
  obtain ⟨h0, hI1, hI2⟩ := hI
  have hn := h0.n
  have hb := h0.b h2.1 h2.2
  obtain ⟨hp, hl, hph⟩ := h0.page h2.1 h2.2
  have hb1 := hI1 x h2.1 h2.2
  have hb1' := hb1
  obtain ⟨h1d, h1s⟩ := hb1'
  obtain ⟨q6, q7⟩ := h1s (by omega)
  unfold okB0 at hb
  have hv := h0.vs (r := m (548 + 10 * x + 0)) (by omega) (by omega)
  have hpk := hph _ hb.2.2.2.2.2.2.1.1 q6
  generalize hpe : phB m x (m (548 + 10 * x + 6)) = p at *
  have hpk' := hpk
  unfold okP at hpk'
  have tail93 : ∀ (mA m1 : Int → Int), Iv0 mA W → okB1 mA x → (0 ≤ x ∧ x < mA 3) → (mA (548 + 10 * x + 5) = 1 ∨ mA (548 + 10 * x + 5) = 3) → mA (548 + 10 * x + 8) ≠ -1 → phB mA x (mA (548 + 10 * x + 6)) = p → ¬ ((phB mA x (mA (548 + 10 * x + 6)) / 512 % 4 - 1) ≠ -1 ∧ mA (53 + (phB mA x (mA (548 + 10 * x + 6)) / 512 % 4 - 1)) ≠ -1 ∧ mA (53 + (phB mA x (mA (548 + 10 * x + 6)) / 512 % 4 - 1)) ≠ x) → s_work m x = s_w2 mA x p → m1 = (if (p / 512 % 4 - 1) = -1 then mA else up mA (53 + (p / 512 % 4 - 1)) x) → XJ Γ 0 0 (PM G b m1 ρ) 93 [(0, .ref b), (1, vi x), (2, vi p)] [] := by
    intro mA m1 k0 hA1 hx hA5 hA8 hAp hsh hS hm1
    have hn := k0.n
    have hb := k0.b hx.1 hx.2
    obtain ⟨hp, hl, hph⟩ := k0.page hx.1 hx.2
    unfold okB0 at hb
    have hv := k0.vs (r := mA (548 + 10 * x + 0)) (by omega) (by omega)
    obtain ⟨h1d, h1s⟩ := hA1
    obtain ⟨q6, q7⟩ := h1s (by omega)
    rw [hAp] at q7
    have k1 : Iv0 m1 W := by
      rw [hm1]
      split
      · exact k0
      · exact k0.upS (by omega) (by omega) (by omega)
    have e1 : ∀ k, (k < 53 ∨ 56 ≤ k) → m1 k = mA k := fun k hk => by
      rw [hm1]
      split
      · rfl
      · exact up_ne (by omega)
    have e17 : m1 (548 + 10 * x + 7) = mA (548 + 10 * x + 7) := e1 _ (by omega)
    have k2 := k1.okx (w := 7) (v := m1 (548 + 10 * x + 7) + 1) hx.1 (by rw [e1 3 (by omega)]; exact hx.2) (by omega) (by omega) (by omega) (by omega) (fun _ => by omega) (by omega) (by omega)
    have e2 : ∀ k, (k < 53 ∨ 56 ≤ k) → k ≠ 548 + 10 * x + 7 → up m1 (548 + 10 * x + 7) (m1 (548 + 10 * x + 7) + 1) k = mA k := fun k hk hk7 => by rw [up_ne hk7, e1 k hk]
    have e27 : up m1 (548 + 10 * x + 7) (m1 (548 + 10 * x + 7) + 1) (548 + 10 * x + 7) = mA (548 + 10 * x + 7) + 1 := by rw [up_eq rfl, e17]
    have eS : s_work m x = (let m2 := up m1 (548 + 10 * x + 7) (m1 (548 + 10 * x + 7) + 1)
        let m3 := up m2 (5 + 6 * m2 (548 + 10 * x + 8) + 5) (m2 (5 + 6 * m2 (548 + 10 * x + 8) + 5) + 1)
        if phB m3 x (m3 (548 + 10 * x + 6)) / 4 % 128 - m3 (548 + 10 * x + 7) = 0 then s_ends m3 x (phB m3 x (m3 (548 + 10 * x + 6))) else m3) := by
      rw [hS]
      unfold s_w2
      rw [if_neg hsh]
      unfold s_w3
      try dsimp only
      rw [← hm1]
    dsimp only at eS
    generalize hm2 : up m1 (548 + 10 * x + 7) (m1 (548 + 10 * x + 7) + 1) = m2 at k2 e2 e27 eS
    have u8 : m2 (548 + 10 * x + 8) = mA (548 + 10 * x + 8) := e2 _ (by omega) (by omega)
    have hu := k2.u (u := m2 (548 + 10 * x + 8)) (by omega) (by rw [e2 2 (by omega) (by omega)]; omega)
    unfold okU at hu
    have k3 := k2.upU (W' := W + 1) (x := m2 (548 + 10 * x + 8)) (w := 5) (v := m2 (5 + 6 * m2 (548 + 10 * x + 8) + 5) + 1) (by omega) (by rw [e2 2 (by omega) (by omega)]; omega) (by omega) (by omega) (by omega) (by omega) (fun _ => by omega) (by omega)
    have e3 : ∀ k, (k < 5 ∨ 56 ≤ k) → k ≠ 548 + 10 * x + 7 → up m2 (5 + 6 * m2 (548 + 10 * x + 8) + 5) (m2 (5 + 6 * m2 (548 + 10 * x + 8) + 5) + 1) k = mA k := fun k hk hk7 => by rw [up_ne (by omega), e2 k (by omega) hk7]
    have e37 : up m2 (5 + 6 * m2 (548 + 10 * x + 8) + 5) (m2 (5 + 6 * m2 (548 + 10 * x + 8) + 5) + 1) (548 + 10 * x + 7) = mA (548 + 10 * x + 7) + 1 := by rw [up_ne (by omega), e27]
    obtain ⟨pg3, ln3, ph3⟩ := page_fr (m' := up m2 (5 + 6 * m2 (548 + 10 * x + 8) + 5) (m2 (5 + 6 * m2 (548 + 10 * x + 8) + 5) + 1)) hp (e3 _ (by omega) (by omega)) (e3 _ (by omega) (by omega)) (fun k k0 k1 => e3 _ (by omega) (by omega))
    generalize hm3 : up m2 (5 + 6 * m2 (548 + 10 * x + 8) + 5) (m2 (5 + 6 * m2 (548 + 10 * x + 8) + 5) + 1) = m3 at k3 e3 e37 pg3 ln3 ph3 eS
    have e30 : m3 (548 + 10 * x + 0) = mA (548 + 10 * x + 0) := e3 _ (by omega) (by omega)
    have e31 : m3 (548 + 10 * x + 1) = mA (548 + 10 * x + 1) := e3 _ (by omega) (by omega)
    have e36 : m3 (548 + 10 * x + 6) = mA (548 + 10 * x + 6) := e3 _ (by omega) (by omega)
    have e33 : m3 3 = mA 3 := e3 _ (by omega) (by omega)
    have ep : phB m3 x (m3 (548 + 10 * x + 6)) = p := by rw [e36, ph3 _ (by omega) (by omega), hAp]
    refine x_aload_n B dX7_work_93 rfl ?_
    refine x_iload_n B dX7_work_94 rfl ?_
    refine x_bipush B dX7_work_95 (by decide) ?_
    refine x_aload_n B dX7_work_97 rfl ?_
    refine x_iload_n B dX7_work_98 rfl ?_
    refine x_bipush B dX7_work_99 (by decide) ?_
    refine x_mV B mvX7_40 (fun l => c_X7_of (by omega)) dX7_work_101 rfl rfl (by decide) (by decide) (Nat.le_of_ble_eq_true rfl) PM.rv (fun r101 => ?_)
    refine x_iconst B dX7_work_104 ?_
    refine x_iadd B dX7_work_105 ?_
    refine x_mN B mvX7_54 (fun l => c_X7_put (by omega) (by omega)) dX7_work_106 rfl rfl (by decide) (by decide) (Nat.le_of_ble_eq_true rfl) PM.rv ?_
    rw [hm2]
    refine x_aload_n B dX7_work_109 rfl ?_
    refine x_aload_n B dX7_work_110 rfl ?_
    refine x_iload_n B dX7_work_111 rfl ?_
    refine x_bipush B dX7_work_112 (by decide) ?_
    refine x_mV B mvX7_40 (fun l => c_X7_of (by omega)) dX7_work_114 rfl rfl (by decide) (by decide) (Nat.le_of_ble_eq_true rfl) PM.rv (fun r114 => ?_)
    refine x_iconst B dX7_work_117 ?_
    refine x_aload_n B dX7_work_118 rfl ?_
    refine x_aload_n B dX7_work_119 rfl ?_
    refine x_iload_n B dX7_work_120 rfl ?_
    refine x_bipush B dX7_work_121 (by decide) ?_
    refine x_mV B mvX7_40 (fun l => c_X7_of (by omega)) dX7_work_123 rfl rfl (by decide) (by decide) (Nat.le_of_ble_eq_true rfl) PM.rv (fun r123 => ?_)
    refine x_iconst B dX7_work_126 ?_
    refine x_mV B mvX7_51 (fun l => c_X7_ofUnit (by omega)) dX7_work_127 rfl rfl (by decide) (by decide) (Nat.le_of_ble_eq_true rfl) PM.rv (fun r127 => ?_)
    refine x_iconst B dX7_work_130 ?_
    refine x_iadd B dX7_work_131 ?_
    refine x_mN B mvX7_47 (fun l => c_X7_putUnit (by omega) (by omega)) dX7_work_132 rfl rfl (by decide) (by decide) (Nat.le_of_ble_eq_true rfl) PM.rv ?_
    rw [hm3]
    refine x_aload_n B dX7_work_135 rfl ?_
    refine x_iload_n B dX7_work_136 rfl ?_
    refine x_mV B mvX7_167 (fun l => c_X7_left (by omega) (by omega) (by omega) (by omega) (by rw [ep]; omega) (by omega)) dX7_work_137 rfl rfl (by decide) (by decide) (Nat.le_of_ble_eq_true rfl) PM.rv (fun r137 => ?_)
    refine x_if_ne (tgt := 148) B dX7_work_140 (by decide) (by omega) (fun c140 => ?_) (fun c140 => ?_)
    · exact x_retV B R dX7_work_148 (fun H h => by rw [eS]; first | (rw [if_pos (by omega)]; exact h) | (rw [if_neg (by omega)]; exact h))
    · refine x_aload_n B dX7_work_143 rfl ?_
      refine x_iload_n B dX7_work_144 rfl ?_
      refine x_mN B mvX7_199 (fun l => c_X7_ends k3 (by omega) (by rw [e36, ln3]; exact q6)) dX7_work_145 rfl rfl (by decide) (by decide) (Nat.le_of_ble_eq_true rfl) PM.rv ?_
      exact x_retV B R dX7_work_148 (fun H h => by rw [eS]; first | (rw [if_pos (by omega)]; exact h) | (rw [if_neg (by omega)]; exact h))
  have tail63 : ∀ (mA : Int → Int), Iv0 mA W → okB1 mA x → (0 ≤ x ∧ x < mA 3) → (mA (548 + 10 * x + 5) = 1 ∨ mA (548 + 10 * x + 5) = 3) → mA (548 + 10 * x + 8) ≠ -1 → phB mA x (mA (548 + 10 * x + 6)) = p → s_work m x = s_w2 mA x p → XJ Γ 0 0 (PM G b mA ρ) 63 [(0, .ref b), (1, vi x), (2, vi p)] [] := by
    intro mA k0 hA1 hx hA5 hA8 hAp hS
    have hn := k0.n
    have hb := k0.b hx.1 hx.2
    obtain ⟨hp, hl, hph⟩ := k0.page hx.1 hx.2
    unfold okB0 at hb
    have hv := k0.vs (r := mA (548 + 10 * x + 0)) (by omega) (by omega)
    have q6 := (hA1.2 (by omega)).1
    have hrd : rdB mA x := ⟨by omega, by omega, by omega, by omega, by rw [hAp]; omega⟩
    refine x_aload_n B dX7_work_63 rfl ?_
    refine x_iload_n B dX7_work_64 rfl ?_
    refine x_mZ B mvX7_186 (fun l => c_X7_waitsForShared hrd) dX7_work_65 rfl rfl (by decide) (by decide) (Nat.le_of_ble_eq_true rfl) PM.rv ?_
    refine x_ifz_eq (tgt := 72) B dX7_work_68 (by decide) (fun c68 => ?_) (fun c68 => ?_)
    · refine x_iload_n B dX7_work_72 rfl ?_
      refine x_sV B msX7_137 (fun l => c_X7_sharedOf (by omega)) dX7_work_73 rfl rfl (by decide) (by decide) (Nat.le_of_ble_eq_true rfl) (fun r73 => ?_)
      refine x_iconst B dX7_work_76 ?_
      refine x_icmp_eq (tgt := 93) B dX7_work_77 (by decide) (by omega) (by omega) (fun c77 => ?_) (fun c77 => ?_)
      · exact tail93 mA _ k0 hA1 hx hA5 hA8 hAp c68 hS (by first | rw [if_pos (by omega)] | rw [if_neg (by omega)])
      · refine x_aload_n B dX7_work_80 rfl ?_
        refine x_get B fgX7_7 dX7_work_81 (fun _ h => ⟨_, PM.o h, rfl⟩) ?_
        refine x_bipush B dX7_work_84 (by decide) ?_
        refine x_iload_n B dX7_work_86 rfl ?_
        refine x_sV B msX7_137 (fun l => c_X7_sharedOf (by omega)) dX7_work_87 rfl rfl (by decide) (by decide) (Nat.le_of_ble_eq_true rfl) (fun r87 => ?_)
        refine x_iadd B dX7_work_90 ?_
        refine x_iload_n B dX7_work_91 rfl ?_
        refine x_iast B dX7_work_92 (by omega) (by decide) (by unfold AM; omega) (PM.sm (by omega)) ?_
        exact tail93 mA _ k0 hA1 hx hA5 hA8 hAp c68 hS (by first | rw [if_pos (by omega)] | rw [if_neg (by omega)])
    · exact x_retV B R dX7_work_71 (fun H h => by rw [hS]; unfold s_w2; rw [if_pos c68]; exact h)
  refine x_aload_n B dX7_work_0 rfl ?_
  refine x_iload_n B dX7_work_1 rfl ?_
  refine x_mV B mvX7_164 (fun l => c_X7_phaseNow (by omega) (by omega) (by omega) (by omega)) dX7_work_2 rfl rfl (by decide) (by decide) (Nat.le_of_ble_eq_true rfl) PM.rv (fun r2 => ?_)
  refine x_top hpe ?_
  refine x_istore_n B dX7_work_5 (by decide) ?_
  refine x_aload_n B dX7_work_6 rfl ?_
  refine x_iload_n B dX7_work_7 rfl ?_
  refine x_mZ B mvX7_180 (fun l => c_X7_waitsForOther (by omega) (by omega)) dX7_work_8 rfl rfl (by decide) (by decide) (Nat.le_of_ble_eq_true rfl) PM.rv ?_
  refine x_ifz_eq (tgt := 15) B dX7_work_11 (by decide) (fun c11 => ?_) (fun c11 => ?_)
  · refine x_aload_n B dX7_work_15 rfl ?_
    refine x_iload_n B dX7_work_16 rfl ?_
    refine x_bipush B dX7_work_17 (by decide) ?_
    refine x_mV B mvX7_40 (fun l => c_X7_of (by omega)) dX7_work_19 rfl rfl (by decide) (by decide) (Nat.le_of_ble_eq_true rfl) PM.rv (fun r19 => ?_)
    refine x_iconst B dX7_work_22 ?_
    refine x_icmp_ne (tgt := 63) B dX7_work_23 (by decide) (by omega) (by omega) (fun c23 => ?_) (fun c23 => ?_)
    · first
        | (refine x_locs (xl_cons rfl (xl_cons rfl (xl_cons rfl xl_nil))) (tail63 _ h0 hb1 h2 h3 (by omega) hpe ?_)
           unfold s_work
           try dsimp only
           rw [hpe, if_neg (by assumption), if_neg (by omega)])
        | (generalize hue : s_uFor m 0 x (p % 4) = u at *
           have et : ∀ k, (k < 4 ∨ 53 ≤ k) → (k < 668 ∨ 788 ≤ k) → k ≠ 548 + 10 * x + 8 → s_take m x u k = m k := fun k a c d => take_ne (by omega) a c d
           obtain ⟨pg3, ln3, ph3⟩ := page_fr (m' := s_take m x u) hp (et _ (by omega) (by omega) (by omega)) (et _ (by omega) (by omega) (by omega)) (fun k k0 k1 => et _ (by omega) (by omega) (by omega))
           have e3 : s_take m x u 3 = m 3 := et _ (by omega) (by omega) (by omega)
           have e5 : s_take m x u (548 + 10 * x + 5) = m (548 + 10 * x + 5) := et _ (by omega) (by omega) (by omega)
           refine x_locs (xl_cons rfl (xl_cons rfl (xl_cons rfl xl_nil))) (tail63 (s_take m x u) (take_Iv0 h0 h2.1 h2.2 (by omega) (by omega)) ?_ (by omega) (by omega) ?_ ?_ ?_)
           · exact hb1.fr (h0.b h2.1 h2.2) ⟨hp, hl⟩ (et _ (by omega) (by omega) (by omega)) (et _ (by omega) (by omega) (by omega)) (fun q => by rw [← e5]; exact q) (et _ (by omega) (by omega) (by omega)) (by rw [et _ (by omega) (by omega) (by omega)]; omega) (fun k k0 k1 => et _ (by omega) (by omega) (by omega))
           · rw [take_8 (by omega) (by omega)]; omega
           · rw [et (548 + 10 * x + 6) (by omega) (by omega) (by omega), ph3 _ (by omega) (by omega), hpe]
           · unfold s_work
             try dsimp only
             rw [hpe, if_neg (by assumption), if_pos (by omega), hue, if_neg (by omega)])
    · refine x_aload_n B dX7_work_26 rfl ?_
      refine x_iload_n B dX7_work_27 rfl ?_
      refine x_iload_n B dX7_work_28 rfl ?_
      refine x_sV B msX7_131 (fun l => c_X7_kindOf (by omega)) dX7_work_29 rfl rfl (by decide) (by decide) (Nat.le_of_ble_eq_true rfl) (fun r29 => ?_)
      refine x_mV B mvX7_183 (fun l => c_X7_unitFor (by omega) (by omega) (by omega) (fun u u0 u1 => by have := h0.u u0 u1; unfold okU at this; omega)) dX7_work_32 rfl rfl (by decide) (by decide) (Nat.le_of_ble_eq_true rfl) PM.rv (fun r32 => ?_)
      have hr := lowU_rg (fun u => ((m (5 + 6 * u + 2) = -1 ∧ m (5 + 6 * u + 3) = 0 ∧ m (5 + 6 * u + 4) ≤ 0) ∧ m (5 + 6 * u + 0) = (p % 4) ∧ (m (548 + 10 * x + 2)) ≤ m (5 + 6 * u + 1))) (m 2).toNat 0 (by omega)
      have hr' : s_uFor m 0 x (p % 4) = -1 ∨ (0 ≤ s_uFor m 0 x (p % 4) ∧ s_uFor m 0 x (p % 4) < m 2) := by
        unfold s_uFor
        rcases hr with hr | ⟨r1, r2, -⟩
        · exact Or.inl hr
        · right; omega
      refine x_istore_n B dX7_work_35 (by decide) ?_
      refine x_iload_n B dX7_work_36 rfl ?_
      refine x_iconst B dX7_work_37 ?_
      refine x_icmp_ne (tgt := 42) B dX7_work_38 (by decide) (by omega) (by omega) (fun c38 => ?_) (fun c38 => ?_)
      · have e4 : up (up m (548 + 10 * x + 8) (s_uFor m 0 x (p % 4))) (5 + 6 * s_uFor m 0 x (p % 4) + 2) x 4 = m 4 := by rw [up_ne (by omega), up_ne (by omega)]
        refine x_aload_n B dX7_work_42 rfl ?_
        refine x_iload_n B dX7_work_43 rfl ?_
        refine x_bipush B dX7_work_44 (by decide) ?_
        refine x_iload_n B dX7_work_46 rfl ?_
        refine x_mN B mvX7_54 (fun l => c_X7_put (by omega) (by omega)) dX7_work_47 rfl rfl (by decide) (by decide) (Nat.le_of_ble_eq_true rfl) PM.rv ?_
        refine x_aload_n B dX7_work_50 rfl ?_
        refine x_iload_n B dX7_work_51 rfl ?_
        refine x_iconst B dX7_work_52 ?_
        refine x_iload_n B dX7_work_53 rfl ?_
        refine x_mN B mvX7_47 (fun l => c_X7_putUnit (by omega) (by omega)) dX7_work_54 rfl rfl (by decide) (by decide) (Nat.le_of_ble_eq_true rfl) PM.rv ?_
        refine x_aload_n B dX7_work_57 rfl ?_
        refine x_iload_n B dX7_work_58 rfl ?_
        refine x_iconst B dX7_work_59 ?_
        refine x_mN B mvX7_64 (fun l => c_X7_note (by omega) (by omega) (by omega)) dX7_work_60 rfl rfl (by decide) (by decide) (Nat.le_of_ble_eq_true rfl) PM.rv ?_
        first
          | (refine x_locs (xl_cons rfl (xl_cons rfl (xl_cons rfl xl_nil))) (tail63 _ h0 hb1 h2 h3 (by omega) hpe ?_)
             unfold s_work
             try dsimp only
             rw [hpe, if_neg (by assumption), if_neg (by omega)])
          | (generalize hue : s_uFor m 0 x (p % 4) = u at *
             have et : ∀ k, (k < 4 ∨ 53 ≤ k) → (k < 668 ∨ 788 ≤ k) → k ≠ 548 + 10 * x + 8 → s_take m x u k = m k := fun k a c d => take_ne (by omega) a c d
             obtain ⟨pg3, ln3, ph3⟩ := page_fr (m' := s_take m x u) hp (et _ (by omega) (by omega) (by omega)) (et _ (by omega) (by omega) (by omega)) (fun k k0 k1 => et _ (by omega) (by omega) (by omega))
             have e3 : s_take m x u 3 = m 3 := et _ (by omega) (by omega) (by omega)
             have e5 : s_take m x u (548 + 10 * x + 5) = m (548 + 10 * x + 5) := et _ (by omega) (by omega) (by omega)
             refine x_locs (xl_cons rfl (xl_cons rfl (xl_cons rfl xl_nil))) (tail63 (s_take m x u) (take_Iv0 h0 h2.1 h2.2 (by omega) (by omega)) ?_ (by omega) (by omega) ?_ ?_ ?_)
             · exact hb1.fr (h0.b h2.1 h2.2) ⟨hp, hl⟩ (et _ (by omega) (by omega) (by omega)) (et _ (by omega) (by omega) (by omega)) (fun q => by rw [← e5]; exact q) (et _ (by omega) (by omega) (by omega)) (by rw [et _ (by omega) (by omega) (by omega)]; omega) (fun k k0 k1 => et _ (by omega) (by omega) (by omega))
             · rw [take_8 (by omega) (by omega)]; omega
             · rw [et (548 + 10 * x + 6) (by omega) (by omega) (by omega), ph3 _ (by omega) (by omega), hpe]
             · unfold s_work
               try dsimp only
               rw [hpe, if_neg (by assumption), if_pos (by omega), hue, if_neg (by omega)])
      · exact x_retV B R dX7_work_41 (fun H h => by unfold s_work; (try dsimp only); rw [hpe]; (repeat (first | rw [if_pos (by assumption)] | rw [if_neg (by assumption)] | rw [if_pos (by omega)] | rw [if_neg (by omega)])); exact h)
  · exact x_retV B R dX7_work_14 (fun H h => by unfold s_work; (try dsimp only); rw [hpe]; (repeat (first | rw [if_pos (by assumption)] | rw [if_neg (by assumption)] | rw [if_pos (by omega)] | rw [if_neg (by omega)])); exact h)

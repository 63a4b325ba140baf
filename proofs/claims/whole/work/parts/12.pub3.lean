/-! ===== the reference: cleaning, the order, counts, undo, the text's characters ===== -/
def s_clean (m : Int → Int) (n : Int) : Int → Int := fun k => if 5 ≤ k ∧ k < 5 + 6 * n ∧ (k - 5) % 6 = 4 then (if 0 < m k then m k - 1 else 0) else m k
theorem c_X7_clean {G : xG} {l : Launch} {b : Nat} {m : Int → Int} {ρ : Nat → Int → Int} (h1 : 0 ≤ m 2 ∧ m 2 ≤ 8) : CT G l yX7_clean cX7_clean 2 none ({ frames := 1, cells := 0, slots := 0, locals := 23 } : Room) 0 0 [.ref b] (PM G b m ρ) (pV (PM G b (s_clean m (m 2)) ρ)) (AM b) := by
  refine x_met1 (own := RX7) (nm := "clean") (L := [(0, .ref b)]) (by decide) rfl rfl (fun _ => rfl) (Nat.le_of_ble_eq_true rfl) rfl rfl ?_
  intro Γ B R
  have loop : ∀ (n : Nat) (i : Int) (m' : Int → Int), m' = s_clean m i → 0 ≤ i → i ≤ m 2 → m 2 - i < n → XJ Γ 0 0 (PM G b m' ρ) 2 [(0, .ref b), (1, vi i)] [] := by
    intro n
    induction n with
    | zero => intro i m' _ _ _ _; omega
    | succ n ih =>
      intro i m' hm hi0 hi1 hn
      have e2 : m' 2 = m 2 := by rw [hm]; unfold s_clean; rw [if_neg (by omega)]
      have e4 : m' (5 + 6 * i + 4) = m (5 + 6 * i + 4) := by rw [hm]; unfold s_clean; rw [if_neg (by omega)]
      refine x_iload_n B dX7_clean_2 rfl ?_
      refine x_aload_n B dX7_clean_3 rfl ?_
      refine x_get B fgX7_7 dX7_clean_4 (fun _ h => ⟨_, PM.o h, rfl⟩) ?_
      refine x_iconst B dX7_clean_7 ?_
      refine x_ialdR B dX7_clean_8 (by omega) (by decide) PM.am (fun r8 => ?_)
      refine x_icmp_ge (tgt := 45) B dX7_clean_9 (by decide) (by omega) (by omega) (fun c9 => ?_) (fun c9 => ?_)
      · exact x_retV B R dX7_clean_45 (fun H h => by rw [hm, show i = m 2 by omega] at h; exact h)
      · refine x_aload_n B dX7_clean_12 rfl ?_
        refine x_iload_n B dX7_clean_13 rfl ?_
        refine x_iconst B dX7_clean_14 ?_
        refine x_aload_n B dX7_clean_15 rfl ?_
        refine x_iload_n B dX7_clean_16 rfl ?_
        refine x_iconst B dX7_clean_17 ?_
        refine x_mV B mvX7_51 (fun l => c_X7_ofUnit (by omega)) dX7_clean_18 rfl rfl (by decide) (by decide) (Nat.le_of_ble_eq_true rfl) PM.rv (fun r18 => ?_)
        refine x_if_le (tgt := 35) B dX7_clean_21 (by decide) (by omega) (fun c21 => ?_) (fun c21 => ?_)
        · refine x_iconst B dX7_clean_35 ?_
          refine x_mN B mvX7_47 (fun l => c_X7_putUnit (by omega) (by omega)) dX7_clean_36 rfl rfl (by decide) (by decide) (Nat.le_of_ble_eq_true rfl) PM.rv ?_
          refine x_iinc B dX7_clean_39 rfl (by decide) ?_
          refine x_goto (tgt := 2) B dX7_clean_42 (by decide) ?_
          exact ih (i + 1) _ (by
            funext k
            rw [e4] at *
            unfold s_clean up at *
            by_cases h : k = 5 + 6 * i + 4
            · rw [if_pos h, if_pos (by omega), h]
              first | rw [if_pos (by omega)] | rw [if_neg (by omega)]
            · rw [if_neg h, hm]
              dsimp only
              by_cases h2 : 5 ≤ k ∧ k < 5 + 6 * i ∧ (k - 5) % 6 = 4
              · rw [if_pos h2, if_pos (show 5 ≤ k ∧ k < 5 + 6 * (i + 1) ∧ (k - 5) % 6 = 4 by omega)]
              · rw [if_neg h2, if_neg (show ¬ (5 ≤ k ∧ k < 5 + 6 * (i + 1) ∧ (k - 5) % 6 = 4) by omega)]) (by omega) (by omega) (by omega)
        · refine x_aload_n B dX7_clean_24 rfl ?_
          refine x_iload_n B dX7_clean_25 rfl ?_
          refine x_iconst B dX7_clean_26 ?_
          refine x_mV B mvX7_51 (fun l => c_X7_ofUnit (by omega)) dX7_clean_27 rfl rfl (by decide) (by decide) (Nat.le_of_ble_eq_true rfl) PM.rv (fun r27 => ?_)
          refine x_iconst B dX7_clean_30 ?_
          refine x_isub B dX7_clean_31 ?_
          refine x_goto (tgt := 36) B dX7_clean_32 (by decide) ?_
          refine x_mN B mvX7_47 (fun l => c_X7_putUnit (by omega) (by omega)) dX7_clean_36 rfl rfl (by decide) (by decide) (Nat.le_of_ble_eq_true rfl) PM.rv ?_
          refine x_iinc B dX7_clean_39 rfl (by decide) ?_
          refine x_goto (tgt := 2) B dX7_clean_42 (by decide) ?_
          exact ih (i + 1) _ (by
            funext k
            rw [e4] at *
            unfold s_clean up at *
            by_cases h : k = 5 + 6 * i + 4
            · rw [if_pos h, if_pos (by omega), h]
              first | rw [if_pos (by omega)] | rw [if_neg (by omega)]
            · rw [if_neg h, hm]
              dsimp only
              by_cases h2 : 5 ≤ k ∧ k < 5 + 6 * i ∧ (k - 5) % 6 = 4
              · rw [if_pos h2, if_pos (show 5 ≤ k ∧ k < 5 + 6 * (i + 1) ∧ (k - 5) % 6 = 4 by omega)]
              · rw [if_neg h2, if_neg (show ¬ (5 ≤ k ∧ k < 5 + 6 * (i + 1) ∧ (k - 5) % 6 = 4) by omega)]) (by omega) (by omega) (by omega)
  refine x_iconst B dX7_clean_0 ?_
  refine x_istore_n B dX7_clean_1 (by decide) ?_
  exact loop 9 0 _ (by funext k; unfold s_clean; rw [if_neg (by omega)]) (by omega) (by omega) (by omega)
theorem s_clean_ne {m : Int → Int} {n k : Int} (h : k < 5 ∨ 5 + 6 * n ≤ k ∨ (k - 5) % 6 ≠ 4) : s_clean m n k = m k := by
  unfold s_clean
  rw [if_neg (by omega)]
theorem c_X7_freeUnits {G : xG} {l : Launch} {b : Nat} {m : Int → Int} {ρ : Nat → Int → Int} (h1 : 0 ≤ m 2 ∧ m 2 ≤ 8) : CT G l yX7_freeUnits cX7_freeUnits 3 (some .int) ({ frames := 2, cells := 0, slots := 0, locals := 43 } : Room) 0 0 [.ref b] (PM G b m ρ) (pI (cntP (fun u => m (5 + 6 * u + 2) = -1 ∧ m (5 + 6 * u + 3) = 0 ∧ m (5 + 6 * u + 4) = 0) (m 2).toNat) (PM G b m ρ)) (AM b) := by
  refine x_met1 (own := RX7) (nm := "freeUnits") (L := [(0, .ref b)]) (by decide) rfl rfl (fun _ => rfl) (Nat.le_of_ble_eq_true rfl) rfl rfl ?_
  intro Γ B R
  have loop : ∀ (n : Nat) (i acc : Int), acc = cntP (fun u => m (5 + 6 * u + 2) = -1 ∧ m (5 + 6 * u + 3) = 0 ∧ m (5 + 6 * u + 4) = 0) i.toNat → 0 ≤ i → i ≤ m 2 → m 2 - i < n → XJ Γ 0 0 (PM G b m ρ) 4 [(0, .ref b), (1, vi acc), (2, vi i)] [] := by
    intro n
    induction n with
    | zero => intro i acc _ _ _ _; omega
    | succ n ih =>
      intro i acc ha hi0 hi1 hn
      have hb := cntP_rg (fun u => m (5 + 6 * u + 2) = -1 ∧ m (5 + 6 * u + 3) = 0 ∧ m (5 + 6 * u + 4) = 0) i.toNat
      refine x_iload_n B dX7_freeUnits_4 rfl ?_
      refine x_aload_n B dX7_freeUnits_5 rfl ?_
      refine x_get B fgX7_7 dX7_freeUnits_6 (fun _ h => ⟨_, PM.o h, rfl⟩) ?_
      refine x_iconst B dX7_freeUnits_9 ?_
      refine x_ialdR B dX7_freeUnits_10 (by omega) (by decide) PM.am (fun r10 => ?_)
      refine x_icmp_ge (tgt := 36) B dX7_freeUnits_11 (by decide) (by omega) (by omega) (fun c11 => ?_) (fun c11 => ?_)
      · refine x_iload_n B dX7_freeUnits_36 rfl ?_
        exact x_retI B R dX7_freeUnits_37 (by rw [ha]; congr 2; omega) (by rw [show (m 2).toNat = i.toNat by omega]; omega) (fun H h => by exact h)
      · refine x_iload_n B dX7_freeUnits_14 rfl ?_
        refine x_aload_n B dX7_freeUnits_15 rfl ?_
        refine x_iload_n B dX7_freeUnits_16 rfl ?_
        refine x_mZ B mvX7_82 (fun l => c_X7_isFree (by omega)) dX7_freeUnits_17 rfl rfl (by decide) (by decide) (Nat.le_of_ble_eq_true rfl) PM.rv ?_
        refine x_ifz_eq (tgt := 27) B dX7_freeUnits_20 (by decide) (fun c20 => ?_) (fun c20 => ?_)
        · refine x_iconst B dX7_freeUnits_27 ?_
          refine x_iadd B dX7_freeUnits_28 ?_
          refine x_istore_n B dX7_freeUnits_29 (by decide) ?_
          refine x_iinc B dX7_freeUnits_30 rfl (by decide) ?_
          refine x_goto (tgt := 4) B dX7_freeUnits_33 (by decide) ?_
          exact ih (i + 1) _ (by rw [cntP_s hi0, ha]; first | rw [if_pos c20] | rw [if_neg c20]) (by omega) (by omega) (by omega)
        · refine x_iconst B dX7_freeUnits_23 ?_
          refine x_goto (tgt := 28) B dX7_freeUnits_24 (by decide) ?_
          refine x_iadd B dX7_freeUnits_28 ?_
          refine x_istore_n B dX7_freeUnits_29 (by decide) ?_
          refine x_iinc B dX7_freeUnits_30 rfl (by decide) ?_
          refine x_goto (tgt := 4) B dX7_freeUnits_33 (by decide) ?_
          exact ih (i + 1) _ (by rw [cntP_s hi0, ha]; first | rw [if_pos c20] | rw [if_neg c20]) (by omega) (by omega) (by omega)
  refine x_iconst B dX7_freeUnits_0 ?_
  refine x_istore_n B dX7_freeUnits_1 (by decide) ?_
  refine x_iconst B dX7_freeUnits_2 ?_
  refine x_istore_n B dX7_freeUnits_3 (by decide) ?_
  exact loop 9 0 0 rfl (by omega) (by omega) (by omega)
theorem c_X7_freeShared {G : xG} {l : Launch} {b : Nat} {m : Int → Int} {ρ : Nat → Int → Int} : CT G l yX7_freeShared cX7_freeShared 3 (some .int) ({ frames := 0, cells := 0, slots := 0, locals := 0 } : Room) 0 0 [.ref b] (PM G b m ρ) (pI (cntP (fun k => m (53 + k) = -1) 3) (PM G b m ρ)) (AM b) := by
  refine x_met1 (own := RX7) (nm := "freeShared") (L := [(0, .ref b)]) (by decide) rfl rfl (fun _ => rfl) (Nat.le_of_ble_eq_true rfl) rfl rfl ?_
  intro Γ B R
  have loop : ∀ (n : Nat) (i acc : Int), acc = cntP (fun k => m (53 + k) = -1) i.toNat → 0 ≤ i → i ≤ 3 → 3 - i < n → XJ Γ 0 0 (PM G b m ρ) 4 [(0, .ref b), (1, vi acc), (2, vi i)] [] := by
    intro n
    induction n with
    | zero => intro i acc _ _ _ _; omega
    | succ n ih =>
      intro i acc ha hi0 hi1 hn
      have hb := cntP_rg (fun k => m (53 + k) = -1) i.toNat
      refine x_iload_n B dX7_freeShared_4 rfl ?_
      refine x_iconst B dX7_freeShared_5 ?_
      refine x_icmp_ge (tgt := 36) B dX7_freeShared_6 (by decide) (by omega) (by omega) (fun c6 => ?_) (fun c6 => ?_)
      · refine x_iload_n B dX7_freeShared_36 rfl ?_
        exact x_retI B R dX7_freeShared_37 (by rw [ha]; congr 1; omega) (by rw [show (3 : Nat) = i.toNat by omega]; omega) (fun H h => by exact h)
      · refine x_iload_n B dX7_freeShared_9 rfl ?_
        refine x_aload_n B dX7_freeShared_10 rfl ?_
        refine x_get B fgX7_7 dX7_freeShared_11 (fun _ h => ⟨_, PM.o h, rfl⟩) ?_
        refine x_bipush B dX7_freeShared_14 (by decide) ?_
        refine x_iload_n B dX7_freeShared_16 rfl ?_
        refine x_iadd B dX7_freeShared_17 ?_
        refine x_ialdR B dX7_freeShared_18 (by omega) (by decide) PM.am (fun r18 => ?_)
        refine x_iconst B dX7_freeShared_19 ?_
        refine x_icmp_ne (tgt := 27) B dX7_freeShared_20 (by decide) (by omega) (by omega) (fun c20 => ?_) (fun c20 => ?_)
        · refine x_iconst B dX7_freeShared_27 ?_
          refine x_iadd B dX7_freeShared_28 ?_
          refine x_istore_n B dX7_freeShared_29 (by decide) ?_
          refine x_iinc B dX7_freeShared_30 rfl (by decide) ?_
          refine x_goto (tgt := 4) B dX7_freeShared_33 (by decide) ?_
          exact ih (i + 1) _ (by rw [cntP_s hi0, ha]; first | rw [if_pos c20] | rw [if_neg c20]) (by omega) (by omega) (by omega)
        · refine x_iconst B dX7_freeShared_23 ?_
          refine x_goto (tgt := 28) B dX7_freeShared_24 (by decide) ?_
          refine x_iadd B dX7_freeShared_28 ?_
          refine x_istore_n B dX7_freeShared_29 (by decide) ?_
          refine x_iinc B dX7_freeShared_30 rfl (by decide) ?_
          refine x_goto (tgt := 4) B dX7_freeShared_33 (by decide) ?_
          exact ih (i + 1) _ (by rw [cntP_s hi0, ha]; first | rw [if_pos c20] | rw [if_neg c20]) (by omega) (by omega) (by omega)
  refine x_iconst B dX7_freeShared_0 ?_
  refine x_istore_n B dX7_freeShared_1 (by decide) ?_
  refine x_iconst B dX7_freeShared_2 ?_
  refine x_istore_n B dX7_freeShared_3 (by decide) ?_
  exact loop 4 0 0 rfl (by omega) (by omega) (by omega)
def o_count (m : Int → Int) (ρ : Nat → Int → Int) (w : Int) : xO :=
  (if w = 0 then m 2 else if w = 1 then sumU m 3 (m 2).toNat else if w = 2 then cntP (fun u => m (5 + 6 * u + 2) = -1 ∧ m (5 + 6 * u + 3) = 0 ∧ m (5 + 6 * u + 4) = 0) (m 2).toNat else if w = 3 then m 3 else if 4 ≤ w ∧ w ≤ 10 then cntB m (w - 4) (m 3).toNat else if w = 11 then m 1 else if w = 12 then m 0 else if w = 13 then m 4 else if w = 14 then ρ 5 0 else if w = 15 then ρ 5 1 else if w = 16 then sumU m 5 (m 2).toNat else if w = 17 then cntP (fun k => m (53 + k) = -1) 3 else -1, m, ρ)
theorem c_X7_count {G : xG} {l : Launch} {b : Nat} {m : Int → Int} {ρ : Nat → Int → Int} {W x : Int} (h1 : Iv m W) (h2 : Ir ρ) (hW : 0 ≤ W ∧ W ≤ 100000000) (h3 : -2147483648 ≤ x ∧ x < 2147483648) : CT G l yX7_count cX7_count 2 (some .int) ({ frames := 3, cells := 0, slots := 0, locals := 65 } : Room) 0 0 [.ref b, vi x] (PM G b m ρ) (pI (o_count m ρ x).1 (PM G b (o_count m ρ x).2.1 (o_count m ρ x).2.2)) (AM b) := by
  refine x_met1 (own := RX7) (nm := "count") (L := [(0, .ref b), (1, vi x)]) (by decide) rfl rfl (fun _ => rfl) (Nat.le_of_ble_eq_true rfl) rfl rfl ?_
  intro Γ B R
  have hn := h1.n
  have hr := h2
  unfold Ir at hr
  have s3 := sumU_rg h1 3 (Or.inl rfl) (m 2).toNat (by omega)
  have s5 := sumU_rg h1 5 (Or.inr rfl) (m 2).toNat (by omega)
  have s5' : W * ((m 2).toNat : Int) ≤ W * 8 := Int.mul_le_mul_of_nonneg_left (by omega) hW.1
  have g1 := cntP_rg (fun u => m (5 + 6 * u + 2) = -1 ∧ m (5 + 6 * u + 3) = 0 ∧ m (5 + 6 * u + 4) = 0) (m 2).toNat
  have g2 := cntP_rg (fun k => m (53 + k) = -1) 3
  have g3 := cntB_rg m (x - 4) (m 3).toNat
  refine x_iload_n B dX7_count_0 rfl ?_
  refine x_tsw (tgt := 161) (tgs := [88, 95, 100, 105, 112, 112, 112, 112, 112, 112, 112, 120, 127, 134, 141, 146, 151, 156]) (n := 18) B dX7_count_1 (by decide) (by decide) rfl (by decide) (by omega) (fun s1 => ?_) (fun i1 l1 s1 => ?_)
  · refine x_iconst B dX7_count_161 ?_
    exact x_retO B R dX7_count_162 (by simp only [o_count]; (repeat (first | rfl | rw [if_pos (by omega)] | rw [if_neg (by omega)])); try (exfalso; omega)) (by omega)
  · obtain rfl | rfl | rfl | rfl | rfl | rfl | rfl | rfl | rfl | rfl | rfl | rfl | rfl | rfl | rfl | rfl | rfl | rfl := (show i1 = 0 ∨ i1 = 1 ∨ i1 = 2 ∨ i1 = 3 ∨ i1 = 4 ∨ i1 = 5 ∨ i1 = 6 ∨ i1 = 7 ∨ i1 = 8 ∨ i1 = 9 ∨ i1 = 10 ∨ i1 = 11 ∨ i1 = 12 ∨ i1 = 13 ∨ i1 = 14 ∨ i1 = 15 ∨ i1 = 16 ∨ i1 = 17 by omega)
    · refine x_aload_n B dX7_count_88 rfl ?_
      refine x_get B fgX7_7 dX7_count_89 (fun _ h => ⟨_, PM.o h, rfl⟩) ?_
      refine x_iconst B dX7_count_92 ?_
      refine x_ialdR B dX7_count_93 (by omega) (by decide) PM.am (fun r93 => ?_)
      exact x_retO B R dX7_count_94 (by simp only [o_count]; (repeat (first | rfl | rw [if_pos (by omega)] | rw [if_neg (by omega)])); try (exfalso; omega)) (by omega)
    · refine x_aload_n B dX7_count_95 rfl ?_
      refine x_mV B mvX7_78 (fun l => c_X7_broken (by omega) (by omega)) dX7_count_96 rfl rfl (by decide) (by decide) (Nat.le_of_ble_eq_true rfl) PM.rv (fun r96 => ?_)
      exact x_retO B R dX7_count_99 (by simp only [o_count]; (repeat (first | rfl | rw [if_pos (by omega)] | rw [if_neg (by omega)])); try (exfalso; omega)) (by omega)
    · refine x_aload_n B dX7_count_100 rfl ?_
      refine x_mV B mvX7_209 (fun l => c_X7_freeUnits (by omega)) dX7_count_101 rfl rfl (by decide) (by decide) (Nat.le_of_ble_eq_true rfl) PM.rv (fun r101 => ?_)
      exact x_retO B R dX7_count_104 (by simp only [o_count]; (repeat (first | rfl | rw [if_pos (by omega)] | rw [if_neg (by omega)])); try (exfalso; omega)) (by omega)
    · refine x_aload_n B dX7_count_105 rfl ?_
      refine x_get B fgX7_7 dX7_count_106 (fun _ h => ⟨_, PM.o h, rfl⟩) ?_
      refine x_iconst B dX7_count_109 ?_
      refine x_ialdR B dX7_count_110 (by omega) (by decide) PM.am (fun r110 => ?_)
      exact x_retO B R dX7_count_111 (by simp only [o_count]; (repeat (first | rfl | rw [if_pos (by omega)] | rw [if_neg (by omega)])); try (exfalso; omega)) (by omega)
    · refine x_aload_n B dX7_count_112 rfl ?_
      refine x_iload_n B dX7_count_113 rfl ?_
      refine x_iconst B dX7_count_114 ?_
      refine x_isub B dX7_count_115 ?_
      refine x_mV B mvX7_161 (fun l => c_X7_many (by omega) (by omega)) dX7_count_116 rfl rfl (by decide) (by decide) (Nat.le_of_ble_eq_true rfl) PM.rv (fun r116 => ?_)
      exact x_retO B R dX7_count_119 (by simp only [o_count]; (repeat (first | rfl | rw [if_pos (by omega)] | rw [if_neg (by omega)])); try (exfalso; omega)) (by omega)
    · refine x_aload_n B dX7_count_112 rfl ?_
      refine x_iload_n B dX7_count_113 rfl ?_
      refine x_iconst B dX7_count_114 ?_
      refine x_isub B dX7_count_115 ?_
      refine x_mV B mvX7_161 (fun l => c_X7_many (by omega) (by omega)) dX7_count_116 rfl rfl (by decide) (by decide) (Nat.le_of_ble_eq_true rfl) PM.rv (fun r116 => ?_)
      exact x_retO B R dX7_count_119 (by simp only [o_count]; (repeat (first | rfl | rw [if_pos (by omega)] | rw [if_neg (by omega)])); try (exfalso; omega)) (by omega)
    · refine x_aload_n B dX7_count_112 rfl ?_
      refine x_iload_n B dX7_count_113 rfl ?_
      refine x_iconst B dX7_count_114 ?_
      refine x_isub B dX7_count_115 ?_
      refine x_mV B mvX7_161 (fun l => c_X7_many (by omega) (by omega)) dX7_count_116 rfl rfl (by decide) (by decide) (Nat.le_of_ble_eq_true rfl) PM.rv (fun r116 => ?_)
      exact x_retO B R dX7_count_119 (by simp only [o_count]; (repeat (first | rfl | rw [if_pos (by omega)] | rw [if_neg (by omega)])); try (exfalso; omega)) (by omega)
    · refine x_aload_n B dX7_count_112 rfl ?_
      refine x_iload_n B dX7_count_113 rfl ?_
      refine x_iconst B dX7_count_114 ?_
      refine x_isub B dX7_count_115 ?_
      refine x_mV B mvX7_161 (fun l => c_X7_many (by omega) (by omega)) dX7_count_116 rfl rfl (by decide) (by decide) (Nat.le_of_ble_eq_true rfl) PM.rv (fun r116 => ?_)
      exact x_retO B R dX7_count_119 (by simp only [o_count]; (repeat (first | rfl | rw [if_pos (by omega)] | rw [if_neg (by omega)])); try (exfalso; omega)) (by omega)
    · refine x_aload_n B dX7_count_112 rfl ?_
      refine x_iload_n B dX7_count_113 rfl ?_
      refine x_iconst B dX7_count_114 ?_
      refine x_isub B dX7_count_115 ?_
      refine x_mV B mvX7_161 (fun l => c_X7_many (by omega) (by omega)) dX7_count_116 rfl rfl (by decide) (by decide) (Nat.le_of_ble_eq_true rfl) PM.rv (fun r116 => ?_)
      exact x_retO B R dX7_count_119 (by simp only [o_count]; (repeat (first | rfl | rw [if_pos (by omega)] | rw [if_neg (by omega)])); try (exfalso; omega)) (by omega)
    · refine x_aload_n B dX7_count_112 rfl ?_
      refine x_iload_n B dX7_count_113 rfl ?_
      refine x_iconst B dX7_count_114 ?_
      refine x_isub B dX7_count_115 ?_
      refine x_mV B mvX7_161 (fun l => c_X7_many (by omega) (by omega)) dX7_count_116 rfl rfl (by decide) (by decide) (Nat.le_of_ble_eq_true rfl) PM.rv (fun r116 => ?_)
      exact x_retO B R dX7_count_119 (by simp only [o_count]; (repeat (first | rfl | rw [if_pos (by omega)] | rw [if_neg (by omega)])); try (exfalso; omega)) (by omega)
    · refine x_aload_n B dX7_count_112 rfl ?_
      refine x_iload_n B dX7_count_113 rfl ?_
      refine x_iconst B dX7_count_114 ?_
      refine x_isub B dX7_count_115 ?_
      refine x_mV B mvX7_161 (fun l => c_X7_many (by omega) (by omega)) dX7_count_116 rfl rfl (by decide) (by decide) (Nat.le_of_ble_eq_true rfl) PM.rv (fun r116 => ?_)
      exact x_retO B R dX7_count_119 (by simp only [o_count]; (repeat (first | rfl | rw [if_pos (by omega)] | rw [if_neg (by omega)])); try (exfalso; omega)) (by omega)
    · refine x_aload_n B dX7_count_120 rfl ?_
      refine x_get B fgX7_7 dX7_count_121 (fun _ h => ⟨_, PM.o h, rfl⟩) ?_
      refine x_iconst B dX7_count_124 ?_
      refine x_ialdR B dX7_count_125 (by omega) (by decide) PM.am (fun r125 => ?_)
      exact x_retO B R dX7_count_126 (by simp only [o_count]; (repeat (first | rfl | rw [if_pos (by omega)] | rw [if_neg (by omega)])); try (exfalso; omega)) (by omega)
    · refine x_aload_n B dX7_count_127 rfl ?_
      refine x_get B fgX7_7 dX7_count_128 (fun _ h => ⟨_, PM.o h, rfl⟩) ?_
      refine x_iconst B dX7_count_131 ?_
      refine x_ialdR B dX7_count_132 (by omega) (by decide) PM.am (fun r132 => ?_)
      exact x_retO B R dX7_count_133 (by simp only [o_count]; (repeat (first | rfl | rw [if_pos (by omega)] | rw [if_neg (by omega)])); try (exfalso; omega)) (by omega)
    · refine x_aload_n B dX7_count_134 rfl ?_
      refine x_get B fgX7_7 dX7_count_135 (fun _ h => ⟨_, PM.o h, rfl⟩) ?_
      refine x_iconst B dX7_count_138 ?_
      refine x_ialdR B dX7_count_139 (by omega) (by decide) PM.am (fun r139 => ?_)
      exact x_retO B R dX7_count_140 (by simp only [o_count]; (repeat (first | rfl | rw [if_pos (by omega)] | rw [if_neg (by omega)])); try (exfalso; omega)) (by omega)
    · refine x_aload_n B dX7_count_141 rfl ?_
      refine x_getI B fgX7_28 dX7_count_142 PM.g3 (fun r142 => ?_)
      exact x_retO B R dX7_count_145 (by simp only [o_count]; (repeat (first | rfl | rw [if_pos (by omega)] | rw [if_neg (by omega)])); try (exfalso; omega)) (by omega)
    · refine x_aload_n B dX7_count_146 rfl ?_
      refine x_getI B fgX7_95 dX7_count_147 PM.g5 (fun r147 => ?_)
      exact x_retO B R dX7_count_150 (by simp only [o_count]; (repeat (first | rfl | rw [if_pos (by omega)] | rw [if_neg (by omega)])); try (exfalso; omega)) (by omega)
    · refine x_aload_n B dX7_count_151 rfl ?_
      refine x_mV B mvX7_212 (fun l => c_X7_worked (by omega) (by omega)) dX7_count_152 rfl rfl (by decide) (by decide) (Nat.le_of_ble_eq_true rfl) PM.rv (fun r152 => ?_)
      exact x_retO B R dX7_count_155 (by simp only [o_count]; (repeat (first | rfl | rw [if_pos (by omega)] | rw [if_neg (by omega)])); try (exfalso; omega)) (by omega)
    · refine x_aload_n B dX7_count_156 rfl ?_
      refine x_mV B mvX7_215 (fun l => c_X7_freeShared ) dX7_count_157 rfl rfl (by decide) (by decide) (Nat.le_of_ble_eq_true rfl) PM.rv (fun r157 => ?_)
      exact x_retO B R dX7_count_160 (by simp only [o_count]; (repeat (first | rfl | rw [if_pos (by omega)] | rw [if_neg (by omega)])); try (exfalso; omega)) (by omega)
def o_undo (m : Int → Int) (ρ : Nat → Int → Int) : xO :=
  if ρ 5 0 = 0 then (-2, m, ρ) else (ρ 5 0 - 1, cpyN (ρ 1) m (788 * (ρ 5 0 - 1)) 0 788, ur ρ 5 (up (ρ 5) 0 (ρ 5 0 - 1)))
theorem c_X7_undo {G : xG} {l : Launch} {b : Nat} {m : Int → Int} {ρ : Nat → Int → Int} (h2 : Ir ρ) : CT G l yX7_undo cX7_undo 1 (some .int) ({ frames := 1, cells := 0, slots := 0, locals := 24 } : Room) 0 0 [.ref b] (PM G b m ρ) (pI (o_undo m ρ).1 (PM G b (o_undo m ρ).2.1 (o_undo m ρ).2.2)) (AM b) := by
  refine x_met1 (own := RX7) (nm := "undo") (L := [(0, .ref b)]) (by decide) rfl rfl (fun _ => rfl) (Nat.le_of_ble_eq_true rfl) rfl rfl ?_
  intro Γ B R
  have hr := h2
  unfold Ir at hr
  have e : ∀ f, ur ρ 5 f 1 = ρ 1 := fun f => rfl
  refine x_aload_n B dX7_undo_0 rfl ?_
  refine x_getI B fgX7_28 dX7_undo_1 PM.g3 (fun r1 => ?_)
  refine x_if_ne (tgt := 10) B dX7_undo_4 (by decide) (by omega) (fun c4 => ?_) (fun c4 => ?_)
  · refine x_aload_n B dX7_undo_10 rfl ?_
    refine x_dup B dX7_undo_11 rfl ?_
    refine x_getI B fgX7_28 dX7_undo_12 PM.g3 (fun r12 => ?_)
    refine x_iconst B dX7_undo_15 ?_
    refine x_isub B dX7_undo_16 ?_
    refine x_put B fpX7_28 dX7_undo_17 rfl rfl (by unfold AM; omega) (PM.p3 (by omega)) ?_
    refine x_aload_n B dX7_undo_20 rfl ?_
    refine x_get B fgX7_16 dX7_undo_21 (fun _ h => ⟨_, PM.o h, rfl⟩) ?_
    refine x_sipush B dX7_undo_24 (by decide) ?_
    refine x_aload_n B dX7_undo_27 rfl ?_
    have e0 : ur ρ 5 (up (ρ 5) 0 (ρ 5 0 - 1)) 5 0 = ρ 5 0 - 1 := rfl
    refine x_getI B fgX7_28 dX7_undo_28 PM.g3 (fun r28 => ?_)
    refine x_top e0 ?_
    refine x_imul B dX7_undo_31 ?_
    refine x_aload_n B dX7_undo_32 rfl ?_
    refine x_get B fgX7_7 dX7_undo_33 (fun _ h => ⟨_, PM.o h, rfl⟩) ?_
    refine x_iconst B dX7_undo_36 ?_
    refine x_sN B msX7_32 (fun l => c_X7_bring (Pg := fun g => PM G b g (ur ρ 5 (up (ρ 5) 0 (ρ 5 0 - 1)))) (f := ρ 1) (nf := 3152) (nt := 788) (fun g H h => by have := PM.a1 H h; exact this) (fun g z v hv => PM.sm hv) (by unfold AM; omega) (by omega) (by omega) ) dX7_undo_37 rfl rfl (by decide) (by decide) (Nat.le_of_ble_eq_true rfl) ?_
    refine x_aload_n B dX7_undo_40 rfl ?_
    refine x_getI B fgX7_28 dX7_undo_41 PM.g3 (fun r41 => ?_)
    refine x_top e0 ?_
    exact x_retO B R dX7_undo_44 (by simp only [o_undo]; (repeat (first | rfl | rw [if_pos (by omega)] | rw [if_neg (by omega)])); try (exfalso; omega)) (by omega)
  · refine x_bipush B dX7_undo_7 (by decide) ?_
    exact x_retO B R dX7_undo_9 (by simp only [o_undo]; (repeat (first | rfl | rw [if_pos (by omega)] | rw [if_neg (by omega)])); try (exfalso; omega)) (by omega)
def o_type (m : Int → Int) (ρ : Nat → Int → Int) (c : Int) : xO :=
  if ¬ (32 ≤ c ∧ c ≤ 126) then (-1, m, ρ) else if ρ 5 1 = 100 then (-3, m, ρ) else (ρ 5 1 + 1, m, ur (ur ρ 2 (up (ρ 2) (ρ 5 1) c)) 5 (up (ρ 5) 1 (ρ 5 1 + 1)))
theorem c_X7_type {G : xG} {l : Launch} {b : Nat} {m : Int → Int} {ρ : Nat → Int → Int} {x : Int} (h2 : Ir ρ) (h3 : -2147483648 ≤ x ∧ x < 2147483648) : CT G l yX7_type cX7_type 2 (some .int) ({ frames := 1, cells := 0, slots := 0, locals := 22 } : Room) 0 0 [.ref b, vi x] (PM G b m ρ) (pI (o_type m ρ x).1 (PM G b (o_type m ρ x).2.1 (o_type m ρ x).2.2)) (AM b) := by
  refine x_met1 (own := RX7) (nm := "type") (L := [(0, .ref b), (1, vi x)]) (by decide) rfl rfl (fun _ => rfl) (Nat.le_of_ble_eq_true rfl) rfl rfl ?_
  intro Γ B R
  have hr := h2
  unfold Ir at hr
  refine x_iload_n B dX7_type_0 rfl ?_
  refine x_bipush B dX7_type_1 (by decide) ?_
  refine x_bipush B dX7_type_3 (by decide) ?_
  refine x_sZ B msX7_36 (fun l => c_X7_in (by omega) (by omega) (by omega)) dX7_type_5 rfl rfl (by decide) (by decide) (Nat.le_of_ble_eq_true rfl) ?_
  refine x_ifz_ne (tgt := 13) B dX7_type_8 (by decide) (fun c8 => ?_) (fun c8 => ?_)
  · refine x_aload_n B dX7_type_13 rfl ?_
    refine x_getI B fgX7_95 dX7_type_14 PM.g5 (fun r14 => ?_)
    refine x_bipush B dX7_type_17 (by decide) ?_
    refine x_icmp_ne (tgt := 25) B dX7_type_19 (by decide) (by omega) (by omega) (fun c19 => ?_) (fun c19 => ?_)
    · refine x_aload_n B dX7_type_25 rfl ?_
      refine x_get B fgX7_19 dX7_type_26 (fun _ h => ⟨_, PM.o h, rfl⟩) ?_
      refine x_aload_n B dX7_type_29 rfl ?_
      refine x_getI B fgX7_95 dX7_type_30 PM.g5 (fun r30 => ?_)
      refine x_iload_n B dX7_type_33 rfl ?_
      refine x_iast B dX7_type_34 (by omega) (by decide) (by unfold AM; omega) (PM.s2 (by omega)) ?_
      refine x_aload_n B dX7_type_35 rfl ?_
      refine x_dup B dX7_type_36 rfl ?_
      refine x_getI B fgX7_95 dX7_type_37 PM.g5 (fun r37 => ?_)
      refine x_top (show _ = ρ 5 1 from rfl) ?_
      refine x_iconst B dX7_type_40 ?_
      refine x_iadd B dX7_type_41 ?_
      refine x_put B fpX7_95 dX7_type_42 rfl rfl (by unfold AM; omega) (PM.p5 (by omega)) ?_
      refine x_aload_n B dX7_type_45 rfl ?_
      refine x_getI B fgX7_95 dX7_type_46 PM.g5 (fun r46 => ?_)
      refine x_top (show _ = ρ 5 1 + 1 from rfl) ?_
      exact x_retO B R dX7_type_49 (by simp only [o_type]; (repeat (first | rfl | rw [if_pos (by omega)] | rw [if_neg (by omega)])); try (exfalso; omega)) (by omega)
    · refine x_bipush B dX7_type_22 (by decide) ?_
      exact x_retO B R dX7_type_24 (by simp only [o_type]; (repeat (first | rfl | rw [if_pos (by omega)] | rw [if_neg (by omega)])); try (exfalso; omega)) (by omega)
  · refine x_iconst B dX7_type_11 ?_
    exact x_retO B R dX7_type_12 (by simp only [o_type]; (repeat (first | rfl | rw [if_pos (by omega)] | rw [if_neg (by omega)])); try (exfalso; omega)) (by omega)
def o_clearText (m : Int → Int) (ρ : Nat → Int → Int) : xO := (ρ 5 1, m, ur ρ 5 (up (ρ 5) 1 0))
theorem c_X7_clearText {G : xG} {l : Launch} {b : Nat} {m : Int → Int} {ρ : Nat → Int → Int} : CT G l yX7_clearText cX7_clearText 2 (some .int) ({ frames := 0, cells := 0, slots := 0, locals := 0 } : Room) 0 0 [.ref b] (PM G b m ρ) (pI (o_clearText m ρ).1 (PM G b (o_clearText m ρ).2.1 (o_clearText m ρ).2.2)) (AM b) := by
  refine x_met1 (own := RX7) (nm := "clearText") (L := [(0, .ref b)]) (by decide) rfl rfl (fun _ => rfl) (Nat.le_of_ble_eq_true rfl) rfl rfl ?_
  intro Γ B R
  refine x_aload_n B dX7_clearText_0 rfl ?_
  refine x_getI B fgX7_95 dX7_clearText_1 PM.g5 (fun r1 => ?_)
  refine x_istore_n B dX7_clearText_4 (by decide) ?_
  refine x_aload_n B dX7_clearText_5 rfl ?_
  refine x_iconst B dX7_clearText_6 ?_
  refine x_put B fpX7_95 dX7_clearText_7 rfl rfl (by unfold AM; omega) (PM.p5 (by omega)) ?_
  refine x_iload_n B dX7_clearText_10 rfl ?_
  exact x_retO B R dX7_clearText_11 (by simp only [o_clearText]; (repeat (first | rfl | rw [if_pos (by omega)] | rw [if_neg (by omega)])); try (exfalso; omega)) (by omega)
/-- the memory that 'waits' and 'ticksTo' bring back -/
theorem cpy_back {m m2 sp : Int → Int} {k : Int} (h0 : 0 ≤ k) (h1 : k < 788) : cpyN (cpyN m sp 0 0 788) m2 0 0 788 k = m k := by
  unfold cpyN
  rw [if_pos (by omega), if_pos (by omega)]
  congr 1
  omega
def o_waits (m : Int → Int) (ρ : Nat → Int → Int) (b : Int) : xO :=
  if ¬ (0 ≤ b ∧ b ≤ m 3 - 1) then (-1, m, ρ) else if ¬ (m (548 + 10 * b + 5) = 1 ∨ m (548 + 10 * b + 5) = 3) then (-4, m, ρ) else (s_reason (s_clean m (m 2)) 0 b, m, ur ρ 0 (cpyN m (ρ 0) 0 0 788))
theorem s_clean_rdB {m : Int → Int} {n b : Int} (hn : 0 ≤ n ∧ n ≤ 8) (h : rdB m b) : rdB (s_clean m n) b := by
  have e : ∀ w, 0 ≤ w → w < 10 → s_clean m n (548 + 10 * b + w) = m (548 + 10 * b + w) := fun w _ _ => s_clean_ne (by unfold rdB at h; omega)
  unfold rdB at *
  rw [e 0 (by omega) (by omega), e 1 (by omega) (by omega), e 6 (by omega) (by omega)]
  have ep : phB (s_clean m n) b (m (548 + 10 * b + 6)) = phB m b (m (548 + 10 * b + 6)) := by
    unfold phB
    rw [pgB_eq (e 0 (by omega) (by omega)) (e 1 (by omega) (by omega))]
    exact s_clean_ne (by unfold pgB; omega)
  rw [ep]
  exact h
theorem c_X7_waits {G : xG} {l : Launch} {b : Nat} {m : Int → Int} {ρ : Nat → Int → Int} {W x : Int} (h1 : Iv m W) (h3 : -2147483648 ≤ x ∧ x < 2147483648) : CT G l yX7_waits cX7_waits 3 (some .int) ({ frames := 5, cells := 0, slots := 0, locals := 109 } : Room) 0 0 [.ref b, vi x] (PM G b m ρ) (pI (o_waits m ρ x).1 (PM G b (o_waits m ρ x).2.1 (o_waits m ρ x).2.2)) (AM b) := by
  refine x_met1 (own := RX7) (nm := "waits") (L := [(0, .ref b), (1, vi x)]) (by decide) rfl rfl (fun _ => rfl) (Nat.le_of_ble_eq_true rfl) rfl rfl ?_
  intro Γ B R
  have hn := h1.n
  have hmr : ∀ H, PM G b m ρ H → ∀ k, -2147483648 ≤ m k ∧ m k < 2147483648 := fun H h => h.2.2.2.2.2.2.2.1
  refine x_fact hmr (fun hmr => ?_)
  refine x_aload_n B dX7_waits_0 rfl ?_
  refine x_iload_n B dX7_waits_1 rfl ?_
  refine x_mZ B mvX7_152 (fun l => c_X7_isBatch (by omega) (by omega)) dX7_waits_2 rfl rfl (by decide) (by decide) (Nat.le_of_ble_eq_true rfl) PM.rv ?_
  refine x_ifz_ne (tgt := 10) B dX7_waits_5 (by decide) (fun c5 => ?_) (fun c5 => ?_)
  · refine x_aload_n B dX7_waits_10 rfl ?_
    refine x_iload_n B dX7_waits_11 rfl ?_
    refine x_mZ B mvX7_72 (fun l => c_X7_isActive (by omega)) dX7_waits_12 rfl rfl (by decide) (by decide) (Nat.le_of_ble_eq_true rfl) PM.rv ?_
    refine x_ifz_ne (tgt := 21) B dX7_waits_15 (by decide) (fun c15 => ?_) (fun c15 => ?_)
    · have hb := h1.b (b := x) (by omega) (by omega)
      have hv := h1.vs (r := m (548 + 10 * x + 0)) (by unfold okB at hb; omega) (by unfold okB at hb; omega)
      have hl := lnB_rg h1 (b := x) (by omega) (by omega)
      have hp := okB_ph h1 (b := x) (k := m (548 + 10 * x + 6)) (by omega) (by omega) (by unfold okB at hb; omega) (by unfold okB at hb; omega)
      unfold okP at hp
      unfold okB at hb
      have hrd : rdB m x := ⟨by omega, by omega, by omega, by omega, by omega⟩
      have hrc := s_clean_rdB (n := m 2) (by omega) hrd
      have e2 : s_clean m (m 2) 2 = m 2 := s_clean_ne (by omega)
      have e4 : s_clean m (m 2) (548 + 10 * x + 4) = m (548 + 10 * x + 4) := s_clean_ne (by omega)
      refine x_us 0 ?_
      refine x_aload_n B dX7_waits_21 rfl ?_
      refine x_get B fgX7_7 dX7_waits_22 (fun _ h => ⟨_, PM.o h, rfl⟩) ?_
      refine x_iconst B dX7_waits_25 ?_
      refine x_aload_n B dX7_waits_26 rfl ?_
      refine x_get B fgX7_13 dX7_waits_27 (fun _ h => ⟨_, PM.o h, rfl⟩) ?_
      refine x_iconst B dX7_waits_30 ?_
      refine x_sN B msX7_32 (fun l => c_X7_bring (Pg := fun g => PM G b m (ur ρ 0 g)) (nf := 788) (nt := 788) (fun g H h => PM.am H h) (fun g z v hv => PM.t0 hv) (by unfold AM; omega) (by omega) (by omega) ) dX7_waits_31 rfl rfl (by decide) (by decide) (Nat.le_of_ble_eq_true rfl) ?_
      refine x_aload_n B dX7_waits_34 rfl ?_
      refine x_mN B mvX7_189 (fun l => c_X7_clean (by omega)) dX7_waits_35 rfl rfl (by decide) (by decide) (Nat.le_of_ble_eq_true rfl) PM.rv ?_
      refine x_aload_n B dX7_waits_38 rfl ?_
      refine x_iload_n B dX7_waits_39 rfl ?_
      refine x_mV B mvX7_192 (fun l => c_X7_reason (by omega) hrc (by omega) (fun u h0 h1' => by
  have := h1.u (u := u) h0 (by omega)
  unfold okU at this
  unfold s_clean
  rw [if_pos (by omega)]
  split <;> omega)) dX7_waits_40 rfl rfl (by decide) (by decide) (Nat.le_of_ble_eq_true rfl) PM.rv (fun r40 => ?_)
      refine x_istore_n B dX7_waits_43 (by decide) ?_
      refine x_aload_n B dX7_waits_44 rfl ?_
      refine x_get B fgX7_13 dX7_waits_45 (fun _ h => ⟨_, PM.o h, rfl⟩) ?_
      refine x_iconst B dX7_waits_48 ?_
      refine x_aload_n B dX7_waits_49 rfl ?_
      refine x_get B fgX7_7 dX7_waits_50 (fun _ h => ⟨_, PM.o h, rfl⟩) ?_
      refine x_iconst B dX7_waits_53 ?_
      refine x_sN B msX7_32 (fun l => c_X7_bring (Pg := fun g => PM G b g (ur ρ 0 (cpyN m (ρ 0) 0 0 788))) (nf := 788) (nt := 788) (fun g H h => PM.b0 H h) (fun g z v hv => PM.sm hv) (by unfold AM; omega) (by omega) (by omega) ) dX7_waits_54 rfl rfl (by decide) (by decide) (Nat.le_of_ble_eq_true rfl) ?_
      refine x_weak (fun H h => PM.congr (m' := m) h (fun k a c => cpy_back a c) hmr) ?_
      refine x_iload_n B dX7_waits_57 rfl ?_
      exact x_retO B R dX7_waits_58 (by simp only [o_waits]; (repeat (first | rfl | rw [if_pos (by omega)] | rw [if_neg (by omega)])); try (exfalso; omega)) (by omega)
    · refine x_bipush B dX7_waits_18 (by decide) ?_
      exact x_retO B R dX7_waits_20 (by simp only [o_waits]; (repeat (first | rfl | rw [if_pos (by omega)] | rw [if_neg (by omega)])); try (exfalso; omega)) (by omega)
  · refine x_iconst B dX7_waits_8 ?_
    exact x_retO B R dX7_waits_9 (by simp only [o_waits]; (repeat (first | rfl | rw [if_pos (by omega)] | rw [if_neg (by omega)])); try (exfalso; omega)) (by omega)
-- the order
def s_ipos (m od : Int → Int) (pb : Int) : Nat → Nat
  | 0 => 0
  | n + 1 => if m (548 + 10 * od (n : Int) + 3) < pb then s_ipos m od pb n else n + 1
theorem s_ipos_le (m od : Int → Int) (pb : Int) : ∀ n : Nat, s_ipos m od pb n ≤ n
  | 0 => by simp [s_ipos]
  | n + 1 => by
    have := s_ipos_le m od pb n
    unfold s_ipos
    split <;> omega
/-- b laid into the order od of n, behind those of no lower priority -/
def s_ins (m od : Int → Int) (n : Nat) (b : Int) : Int → Int := fun k =>
  if k = (s_ipos m od (m (548 + 10 * b + 3)) n : Int) then b else if (s_ipos m od (m (548 + 10 * b + 3)) n : Int) < k ∧ k ≤ n then od (k - 1) else od k
def s_act (m : Int → Int) (b : Int) : Prop := m (548 + 10 * b + 5) = 1 ∨ m (548 + 10 * b + 5) = 3
def s_sort (m od : Int → Int) : Nat → (Int → Int) × Nat
  | 0 => (od, 0)
  | b + 1 => if m (548 + 10 * (b : Int) + 5) = 1 ∨ m (548 + 10 * (b : Int) + 5) = 3 then (s_ins m (s_sort m od b).1 (s_sort m od b).2 b, (s_sort m od b).2 + 1) else s_sort m od b
theorem s_sort_s {m od : Int → Int} {i : Int} (h : 0 ≤ i) : s_sort m od (i + 1).toNat = if m (548 + 10 * i + 5) = 1 ∨ m (548 + 10 * i + 5) = 3 then (s_ins m (s_sort m od i.toNat).1 (s_sort m od i.toNat).2 i, (s_sort m od i.toNat).2 + 1) else s_sort m od i.toNat := by
  have e : (i + 1).toNat = i.toNat + 1 := by omega
  have e2 : ((i.toNat : Nat) : Int) = i := by omega
  rw [e, s_sort, e2]
/-- the order holds batches, no more than were gone through -/
theorem s_sort_rg (m od : Int → Int) : ∀ n : Nat, (s_sort m od n).2 ≤ n ∧ ∀ k : Int, 0 ≤ k → k < (s_sort m od n).2 → 0 ≤ (s_sort m od n).1 k ∧ (s_sort m od n).1 k < n
  | 0 => ⟨Nat.le_refl _, fun k h0 h1 => by simp [s_sort] at h1; omega⟩
  | n + 1 => by
    obtain ⟨h1, h2⟩ := s_sort_rg m od n
    unfold s_sort
    split
    · refine ⟨by simp; omega, fun k h0 h3 => ?_⟩
      have hp := s_ipos_le m (s_sort m od n).1 (m (548 + 10 * (n : Int) + 3)) (s_sort m od n).2
      simp only at h3 ⊢
      unfold s_ins
      split
      · omega
      · split
        · have := h2 (k - 1) (by omega) (by omega)
          omega
        · have := h2 k h0 (by omega)
          omega
    · exact ⟨by omega, fun k h0 h3 => by have := h2 k h0 h3; omega⟩
theorem s_ins_eq {m o A : Int → Int} {n t i : Int} (hn : 0 ≤ n) (ht : 0 ≤ t) (hp : (s_ipos m o (m (548 + 10 * i + 3)) n.toNat : Int) = t) (hA : A = (fun k => if t < k ∧ k ≤ n then o (k - 1) else o k)) : up A t i = s_ins m o n.toNat i := by
  funext k
  unfold up s_ins
  rw [hp, hA, show ((n.toNat : Nat) : Int) = n by omega]
theorem c_X7_sort {G : xG} {l : Launch} {b : Nat} {m : Int → Int} {ρ : Nat → Int → Int} (h1 : 0 ≤ m 3 ∧ m 3 ≤ 12) : CT G l yX7_sort cX7_sort 4 (some .int) ({ frames := 2, cells := 0, slots := 0, locals := 43 } : Room) 0 0 [.ref b] (PM G b m ρ) (pI ((s_sort m (ρ 4) (m 3).toNat).2 : Int) (PM G b m (ur ρ 4 (s_sort m (ρ 4) (m 3).toNat).1))) (AM b) := by
  refine x_met1 (own := RX7) (nm := "sort") (L := [(0, .ref b)]) (by decide) rfl rfl (fun _ => rfl) (Nat.le_of_ble_eq_true rfl) rfl rfl ?_
  intro Γ B R
  have loop : ∀ (k : Nat) (i n : Int) (o : Int → Int) (L : List (Nat × Value)), o = (s_sort m (ρ 4) i.toNat).1 → n = ((s_sort m (ρ 4) i.toNat).2 : Int) → 0 ≤ i → i ≤ m 3 → m 3 - i < k → (∀ q ∈ [(0, Value.ref b), (1, vi n), (2, vi i)], lget L q.1 = some q.2) → XJ Γ 0 0 (PM G b m (ur ρ 4 o)) 4 L [] := by
    intro k
    induction k with
    | zero => intro i n o L _ _ _ _ _; omega
    | succ k ih =>
      intro i n o L ho hn hi0 hi1 hk hL
      refine x_locs hL ?_
      obtain ⟨q1, q2⟩ := s_sort_rg m (ρ 4) i.toNat
      rw [← ho] at q2
      have tail : ∀ (t : Int) (A : Int → Int), i < m 3 → (0 ≤ t ∧ t ≤ n) → A = (fun k => if t < k ∧ k ≤ n then o (k - 1) else o k) → ((m (548 + 10 * i + 5) = 1 ∨ m (548 + 10 * i + 5) = 3) → (s_ipos m o (m (548 + 10 * i + 3)) n.toNat : Int) = t) → (¬ (m (548 + 10 * i + 5) = 1 ∨ m (548 + 10 * i + 5) = 3) → t = n) →
          XJ Γ 0 0 (PM G b m (ur ρ 4 A)) 70 [(0, .ref b), (1, vi n), (2, vi i), (3, vi t)] [] := by
        intro t A hi ht hA hact hno
        refine x_aload_n B dX7_sort_70 rfl ?_
        refine x_iload_n B dX7_sort_71 rfl ?_
        refine x_mZ B mvX7_72 (fun l => c_X7_isActive (by omega)) dX7_sort_72 rfl rfl (by decide) (by decide) (Nat.le_of_ble_eq_true rfl) PM.rv ?_
        refine x_ifz_eq (tgt := 88) B dX7_sort_75 (by decide) (fun c75 => ?_) (fun c75 => ?_)
        · have ht' := hno c75
          refine x_iinc B dX7_sort_88 rfl (by decide) ?_
          refine x_goto (tgt := 4) B dX7_sort_91 (by decide) ?_
          exact ih (i + 1) _ _ _ (by
            rw [s_sort_s hi0, ← ho]
            first
              | (rw [if_pos c75, show (s_sort m (ρ 4) i.toNat).2 = n.toNat by omega]
                 exact s_ins_eq (by omega) ht.1 hp hA)
              | (rw [if_neg c75, hA, ← ho]
                 funext k
                 rw [if_neg (by omega)])) (by
            rw [s_sort_s hi0]
            first
              | (rw [if_pos c75]; simp only; omega)
              | (rw [if_neg c75]; omega)) (by omega) (by omega) (by omega) (xl_cons rfl (xl_cons rfl (xl_cons rfl xl_nil)))
        · have hp := hact c75
          refine x_aload_n B dX7_sort_78 rfl ?_
          refine x_get B fgX7_25 dX7_sort_79 (fun _ h => ⟨_, PM.o h, rfl⟩) ?_
          refine x_iload_n B dX7_sort_82 rfl ?_
          refine x_iload_n B dX7_sort_83 rfl ?_
          refine x_iast B dX7_sort_84 (by omega) (by decide) (by unfold AM; omega) (PM.t4 (by omega)) ?_
          refine x_iinc B dX7_sort_85 rfl (by decide) ?_
          refine x_iinc B dX7_sort_88 rfl (by decide) ?_
          refine x_goto (tgt := 4) B dX7_sort_91 (by decide) ?_
          exact ih (i + 1) _ _ _ (by
            rw [s_sort_s hi0, ← ho]
            first
              | (rw [if_pos c75, show (s_sort m (ρ 4) i.toNat).2 = n.toNat by omega]
                 exact s_ins_eq (by omega) ht.1 hp hA)
              | (rw [if_neg c75, hA, ← ho]
                 funext k
                 rw [if_neg (by omega)])) (by
            rw [s_sort_s hi0]
            first
              | (rw [if_pos c75]; simp only; omega)
              | (rw [if_neg c75]; omega)) (by omega) (by omega) (by omega) (xl_cons rfl (xl_cons rfl (xl_cons rfl xl_nil)))
      have inner : ∀ (t : Nat) (A : Int → Int), (i < m 3) → (t : Int) ≤ n → A = (fun k => if (t : Int) < k ∧ k ≤ n then o (k - 1) else o k) → s_ipos m o (m (548 + 10 * i + 3)) n.toNat = s_ipos m o (m (548 + 10 * i + 3)) t → ((t : Int) < n → m (548 + 10 * i + 5) = 1 ∨ m (548 + 10 * i + 5) = 3) →
          XJ Γ 0 0 (PM G b m (ur ρ 4 A)) 16 [(0, .ref b), (1, vi n), (2, vi i), (3, vi (t : Int))] [] := by
        intro t
        induction t with
        | zero =>
          intro A hi htn hA hp hact
          have e0 : s_ipos m o (m (548 + 10 * i + 3)) 0 = 0 := rfl
          refine x_aload_n B dX7_sort_16 rfl ?_
          refine x_iload_n B dX7_sort_17 rfl ?_
          refine x_mZ B mvX7_72 (fun l => c_X7_isActive (by omega)) dX7_sort_18 rfl rfl (by decide) (by decide) (Nat.le_of_ble_eq_true rfl) PM.rv ?_
          refine x_ifz_eq (tgt := 70) B dX7_sort_21 (by decide) (fun c21 => ?_) (fun c21 => ?_)
          · exact tail _ A hi (by omega) hA (fun _ => by omega) (fun h => by omega)
          · refine x_iload_n B dX7_sort_24 rfl ?_
            refine x_if_le (tgt := 70) B dX7_sort_25 (by decide) (by omega) (fun c25 => ?_) (fun c25 => ?_)
            · exact tail _ A hi (by omega) hA (fun _ => by omega) (fun h => by omega)
            · omega
        | succ t iht =>
          intro A hi htn hA hp hact
          have e1 : s_ipos m o (m (548 + 10 * i + 3)) (t + 1) = if m (548 + 10 * o (t : Int) + 3) < m (548 + 10 * i + 3) then s_ipos m o (m (548 + 10 * i + 3)) t else t + 1 := rfl
          have eA : A (((t + 1 : Nat) : Int) - 1) = o (t : Int) := by
            rw [hA]
            dsimp only
            rw [if_neg (by omega)]
            congr 1
            omega
          have eo := q2 (t : Int) (by omega) (by omega)
          refine x_aload_n B dX7_sort_16 rfl ?_
          refine x_iload_n B dX7_sort_17 rfl ?_
          refine x_mZ B mvX7_72 (fun l => c_X7_isActive (by omega)) dX7_sort_18 rfl rfl (by decide) (by decide) (Nat.le_of_ble_eq_true rfl) PM.rv ?_
          refine x_ifz_eq (tgt := 70) B dX7_sort_21 (by decide) (fun c21 => ?_) (fun c21 => ?_)
          · have ht' : ((t + 1 : Nat) : Int) = n := by omega
            exact tail _ A hi (by omega) hA (fun h => by first | omega | (rw [hp, e1, if_neg (by omega)])) (fun h => by omega)
          · refine x_iload_n B dX7_sort_24 rfl ?_
            refine x_if_le (tgt := 70) B dX7_sort_25 (by decide) (by omega) (fun c25 => ?_) (fun c25 => ?_)
            · exact tail _ A hi (by omega) hA (fun h => by first | omega | (rw [hp, e1, if_neg (by omega)])) (fun h => by omega)
            · refine x_aload_n B dX7_sort_28 rfl ?_
              refine x_aload_n B dX7_sort_29 rfl ?_
              refine x_get B fgX7_25 dX7_sort_30 (fun _ h => ⟨_, PM.o h, rfl⟩) ?_
              refine x_iload_n B dX7_sort_33 rfl ?_
              refine x_iconst B dX7_sort_34 ?_
              refine x_isub B dX7_sort_35 ?_
              refine x_ialdR B dX7_sort_36 (by omega) (by decide) PM.b4 (fun r36 => ?_)
              refine x_top eA ?_
              refine x_iconst B dX7_sort_37 ?_
              refine x_mV B mvX7_40 (fun l => c_X7_of (by omega)) dX7_sort_38 rfl rfl (by decide) (by decide) (Nat.le_of_ble_eq_true rfl) PM.rv (fun r38 => ?_)
              refine x_aload_n B dX7_sort_41 rfl ?_
              refine x_iload_n B dX7_sort_42 rfl ?_
              refine x_iconst B dX7_sort_43 ?_
              refine x_mV B mvX7_40 (fun l => c_X7_of (by omega)) dX7_sort_44 rfl rfl (by decide) (by decide) (Nat.le_of_ble_eq_true rfl) PM.rv (fun r44 => ?_)
              refine x_icmp_ge (tgt := 70) B dX7_sort_47 (by decide) (by omega) (by omega) (fun c47 => ?_) (fun c47 => ?_)
              · exact tail _ A hi (by omega) hA (fun h => by first | omega | (rw [hp, e1, if_neg (by omega)])) (fun h => by omega)
              · refine x_aload_n B dX7_sort_50 rfl ?_
                refine x_get B fgX7_25 dX7_sort_51 (fun _ h => ⟨_, PM.o h, rfl⟩) ?_
                refine x_iload_n B dX7_sort_54 rfl ?_
                refine x_aload_n B dX7_sort_55 rfl ?_
                refine x_get B fgX7_25 dX7_sort_56 (fun _ h => ⟨_, PM.o h, rfl⟩) ?_
                refine x_iload_n B dX7_sort_59 rfl ?_
                refine x_iconst B dX7_sort_60 ?_
                refine x_isub B dX7_sort_61 ?_
                refine x_ialdR B dX7_sort_62 (by omega) (by decide) PM.b4 (fun r62 => ?_)
                refine x_iast B dX7_sort_63 (by omega) (by decide) (by unfold AM; omega) (PM.t4 (by omega)) ?_
                refine x_iinc B dX7_sort_64 rfl (by decide) ?_
                refine x_goto (tgt := 16) B dX7_sort_67 (by decide) ?_
                refine x_locs (xl_cons rfl (xl_cons rfl (xl_cons rfl (xl_cons (i := 3) (v := vi (t : Int)) (by show some (vi (((t + 1 : Nat) : Int) + -1)) = _; rw [show ((t + 1 : Nat) : Int) + -1 = (t : Int) by omega]) xl_nil)))) (iht _ hi (by omega) (by
                  funext k
                  rw [eA, hA]
                  unfold up
                  by_cases hk : k = ((t + 1 : Nat) : Int)
                  · rw [if_pos hk, if_pos (by omega), hk]
                    congr 1
                    omega
                  · rw [if_neg hk]
                    dsimp only
                    by_cases hk2 : ((t + 1 : Nat) : Int) < k ∧ k ≤ n
                    · rw [if_pos hk2, if_pos (by omega)]
                    · rw [if_neg hk2, if_neg (by omega)]) (by rw [hp, e1, if_pos (by omega)]) (fun _ => c21))
      refine x_iload_n B dX7_sort_4 rfl ?_
      refine x_aload_n B dX7_sort_5 rfl ?_
      refine x_get B fgX7_7 dX7_sort_6 (fun _ h => ⟨_, PM.o h, rfl⟩) ?_
      refine x_iconst B dX7_sort_9 ?_
      refine x_ialdR B dX7_sort_10 (by omega) (by decide) PM.am (fun r10 => ?_)
      refine x_icmp_ge (tgt := 94) B dX7_sort_11 (by decide) (by omega) (by omega) (fun c11 => ?_) (fun c11 => ?_)
      · refine x_iload_n B dX7_sort_94 rfl ?_
        exact x_retI B R dX7_sort_95 (by rw [hn]; congr 3; omega) (by rw [show (m 3).toNat = i.toNat by omega]; omega) (fun H h => by rw [show (m 3).toNat = i.toNat by omega, ← ho]; exact h)
      · refine x_iload_n B dX7_sort_14 rfl ?_
        refine x_istore_n B dX7_sort_15 (by decide) ?_
        have hnn := inner n.toNat o c11 (by omega) (by
            funext k
            rw [if_neg (by omega)]) rfl (fun _ => by omega)
        rw [show ((n.toNat : Nat) : Int) = n by omega] at hnn
        exact hnn
  refine x_iconst B dX7_sort_0 ?_
  refine x_istore_n B dX7_sort_1 (by decide) ?_
  refine x_iconst B dX7_sort_2 ?_
  refine x_istore_n B dX7_sort_3 (by decide) ?_
  exact x_us 4 (loop 13 0 0 _ _ rfl rfl (by omega) (by omega) (by omega) (xl_cons rfl (xl_cons rfl (xl_cons rfl xl_nil))))
def o_inOrder (m : Int → Int) (ρ : Nat → Int → Int) (k : Int) : xO :=
  if k < 0 then (-1, m, ρ) else (if k < (s_sort m (ρ 4) (m 3).toNat).2 then (s_sort m (ρ 4) (m 3).toNat).1 k else -4, m, ur ρ 4 (s_sort m (ρ 4) (m 3).toNat).1)
theorem c_X7_inOrder {G : xG} {l : Launch} {b : Nat} {m : Int → Int} {ρ : Nat → Int → Int} {W x : Int} (h1 : Iv m W) (h3 : -2147483648 ≤ x ∧ x < 2147483648) : CT G l yX7_inOrder cX7_inOrder 2 (some .int) ({ frames := 3, cells := 0, slots := 0, locals := 66 } : Room) 0 0 [.ref b, vi x] (PM G b m ρ) (pI (o_inOrder m ρ x).1 (PM G b (o_inOrder m ρ x).2.1 (o_inOrder m ρ x).2.2)) (AM b) := by
  refine x_met1 (own := RX7) (nm := "inOrder") (L := [(0, .ref b), (1, vi x)]) (by decide) rfl rfl (fun _ => rfl) (Nat.le_of_ble_eq_true rfl) rfl rfl ?_
  intro Γ B R
  have hn := h1.n
  have hs := s_sort_rg m (ρ 4) (m 3).toNat
  refine x_iload_n B dX7_inOrder_0 rfl ?_
  refine x_if_ge (tgt := 6) B dX7_inOrder_1 (by decide) (by omega) (fun c1 => ?_) (fun c1 => ?_)
  · refine x_iload_n B dX7_inOrder_6 rfl ?_
    refine x_aload_n B dX7_inOrder_7 rfl ?_
    refine x_mV B mvX7_195 (fun l => c_X7_sort (by omega)) dX7_inOrder_8 rfl rfl (by decide) (by decide) (Nat.le_of_ble_eq_true rfl) PM.rv (fun r8 => ?_)
    refine x_icmp_ge (tgt := 23) B dX7_inOrder_11 (by decide) (by omega) (by omega) (fun c11 => ?_) (fun c11 => ?_)
    · refine x_bipush B dX7_inOrder_23 (by decide) ?_
      exact x_retO B R dX7_inOrder_25 (by simp only [o_inOrder]; (repeat (first | rfl | rw [if_pos (by omega)] | rw [if_neg (by omega)])); try (exfalso; omega)) (by omega)
    · refine x_aload_n B dX7_inOrder_14 rfl ?_
      refine x_get B fgX7_25 dX7_inOrder_15 (fun _ h => ⟨_, PM.o h, rfl⟩) ?_
      refine x_iload_n B dX7_inOrder_18 rfl ?_
      refine x_ialdR B dX7_inOrder_19 (by omega) (by decide) PM.b4 (fun r19 => ?_)
      refine x_goto (tgt := 25) B dX7_inOrder_20 (by decide) ?_
      exact x_retO B R dX7_inOrder_25 (by simp only [o_inOrder]; (repeat (first | rfl | rw [if_pos (by omega)] | rw [if_neg (by omega)])); try (exfalso; omega)) (by omega)
  · refine x_iconst B dX7_inOrder_4 ?_
    exact x_retO B R dX7_inOrder_5 (by simp only [o_inOrder]; (repeat (first | rfl | rw [if_pos (by omega)] | rw [if_neg (by omega)])); try (exfalso; omega)) (by omega)

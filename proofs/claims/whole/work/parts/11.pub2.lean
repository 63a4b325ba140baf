theorem PM.congr {G : xG} {b : Nat} {m m' : Int → Int} {ρ : Nat → Int → Int} {H : Heap} (h : PM G b m ρ H) (e : ∀ k, 0 ≤ k → k < 788 → m k = m' k) (hr : ∀ k, -2147483648 ≤ m' k ∧ m' k < 2147483648) : PM G b m' ρ H := by
  obtain ⟨h0, h1, h2, h3, h4, h5, h6, h7, h8⟩ := h
  exact ⟨h0, h1.congr (fun k a c => e k a (by omega)), h2, h3, h4, h5, h6, hr, h8⟩
theorem cpyN_rg {f g : Int → Int} {x y n : Int} (hf : ∀ k, -2147483648 ≤ f k ∧ f k < 2147483648) (hg : ∀ k, -2147483648 ≤ g k ∧ g k < 2147483648) : ∀ k, -2147483648 ≤ cpyN f g x y n k ∧ cpyN f g x y n k < 2147483648 := by
  intro k
  unfold cpyN
  split
  · exact hf _
  · exact hg _
theorem s_endsBy_ne {m : Int → Int} {b st w k : Int} (hb : 0 ≤ b ∧ b < 12) (hu : -1 ≤ m (548 + 10 * b + 8) ∧ m (548 + 10 * b + 8) < 8) (h : k < 4 ∨ 56 ≤ k) (h2 : k < 668 ∨ 788 ≤ k) (h5 : k ≠ 548 + 10 * b + 5) (h8 : k ≠ 548 + 10 * b + 8) : s_endsBy m b st w k = m k := by
  have e8 : s_relS m b 3 (548 + 10 * b + 8) = m (548 + 10 * b + 8) := s_relS_ne (by omega)
  unfold s_endsBy
  rw [s_note_ne h2 (by omega), up_ne h5]
  simp only [s_relU]
  rw [e8]
  split
  · exact s_relS_ne (by omega)
  · rw [up_ne h8, up_ne (by omega), up_ne (by omega)]
    exact s_relS_ne (by omega)
theorem s_endsBy_4 {m : Int → Int} {b st w : Int} (hb : 0 ≤ b ∧ b < 12) (hu : -1 ≤ m (548 + 10 * b + 8) ∧ m (548 + 10 * b + 8) < 8) : s_endsBy m b st w 4 = if m 4 = 40 then 40 else m 4 + 1 := by
  have e8 : s_relS m b 3 (548 + 10 * b + 8) = m (548 + 10 * b + 8) := s_relS_ne (by omega)
  have e4 : (up (s_relU (s_relS m b 3) b) (548 + 10 * b + 5) st) 4 = m 4 := by
    rw [up_ne (by omega), s_relU_4 _ _ hb (by omega), s_relS_ne (by omega)]
  unfold s_endsBy s_note
  rw [if_neg (by omega), if_pos rfl, e4]
theorem s_endsBy_st {m : Int → Int} {b st w : Int} (hb : 0 ≤ b ∧ b < 12) : s_endsBy m b st w (548 + 10 * b + 5) = st := by
  unfold s_endsBy
  rw [s_note_ne (by omega) (by omega), up_eq rfl]
def o_stop (m : Int → Int) (ρ : Nat → Int → Int) (b : Int) : xO :=
  if ¬ (0 ≤ b ∧ b ≤ m 3 - 1) then (-1, m, ρ) else if m (548 + 10 * b + 5) ≠ 1 ∧ m (548 + 10 * b + 5) ≠ 2 then (-2, m, ρ) else
  if m (548 + 10 * b + 5) = 1 ∧ 0 < m (548 + 10 * b + 7) then (3, up m (548 + 10 * b + 5) 3, s_keep m ρ) else (4, s_endsBy m b 4 4, s_keep m ρ)
theorem c_X7_stop {G : xG} {l : Launch} {b : Nat} {m : Int → Int} {ρ : Nat → Int → Int} {W x : Int} (h1 : Iv m W) (h2 : Ir ρ) (h3 : -2147483648 ≤ x ∧ x < 2147483648) : CT G l yX7_stop cX7_stop 2 (some .int) ({ frames := 3, cells := 0, slots := 0, locals := 68 } : Room) 0 0 [.ref b, vi x] (PM G b m ρ) (pI (o_stop m ρ x).1 (PM G b (o_stop m ρ x).2.1 (o_stop m ρ x).2.2)) (AM b) := by
  refine x_met1 (own := RX7) (nm := "stop") (L := [(0, .ref b), (1, vi x)]) (by decide) rfl rfl (fun _ => rfl) (Nat.le_of_ble_eq_true rfl) rfl rfl ?_
  intro Γ B R
  have hn := h1.n
  have hr := h2.1
  refine x_aload_n B dX7_stop_0 rfl ?_
  refine x_iload_n B dX7_stop_1 rfl ?_
  refine x_mZ B mvX7_152 (fun l => c_X7_isBatch (by omega) (by omega)) dX7_stop_2 rfl rfl (by decide) (by decide) (Nat.le_of_ble_eq_true rfl) PM.rv ?_
  refine x_ifz_ne (tgt := 10) B dX7_stop_5 (by decide) (fun c5 => ?_) (fun c5 => ?_)
  · have hb := h1.b (b := x) (by omega) (by omega)
    unfold okB at hb
    have e3 : up m (548 + 10 * x + 5) 3 (548 + 10 * x + 5) = 3 := up_eq rfl
    have e4 : s_endsBy m x 4 4 (548 + 10 * x + 5) = 4 := s_endsBy_st (by omega)
    refine x_aload_n B dX7_stop_10 rfl ?_
    refine x_iload_n B dX7_stop_11 rfl ?_
    refine x_iconst B dX7_stop_12 ?_
    refine x_mV B mvX7_40 (fun l => c_X7_of (by omega)) dX7_stop_13 rfl rfl (by decide) (by decide) (Nat.le_of_ble_eq_true rfl) PM.rv (fun r13 => ?_)
    refine x_iconst B dX7_stop_16 ?_
    refine x_icmp_eq (tgt := 33) B dX7_stop_17 (by decide) (by omega) (by omega) (fun c17 => ?_) (fun c17 => ?_)
    · refine x_aload_n B dX7_stop_33 rfl ?_
      refine x_mN B mvX7_44 (fun l => c_X7_keep (by omega)) dX7_stop_34 rfl rfl (by decide) (by decide) (Nat.le_of_ble_eq_true rfl) PM.rv ?_
      refine x_aload_n B dX7_stop_37 rfl ?_
      refine x_iload_n B dX7_stop_38 rfl ?_
      refine x_iconst B dX7_stop_39 ?_
      refine x_mV B mvX7_40 (fun l => c_X7_of (by omega)) dX7_stop_40 rfl rfl (by decide) (by decide) (Nat.le_of_ble_eq_true rfl) PM.rv (fun r40 => ?_)
      refine x_iconst B dX7_stop_43 ?_
      refine x_icmp_ne (tgt := 67) B dX7_stop_44 (by decide) (by omega) (by omega) (fun c44 => ?_) (fun c44 => ?_)
      · refine x_aload_n B dX7_stop_67 rfl ?_
        refine x_iload_n B dX7_stop_68 rfl ?_
        refine x_iconst B dX7_stop_69 ?_
        refine x_iconst B dX7_stop_70 ?_
        refine x_mN B mvX7_170 (fun l => c_X7_endsBy (by omega) (by omega) (by omega) (by omega) (by omega)) dX7_stop_71 rfl rfl (by decide) (by decide) (Nat.le_of_ble_eq_true rfl) PM.rv ?_
        refine x_aload_n B dX7_stop_74 rfl ?_
        refine x_iload_n B dX7_stop_75 rfl ?_
        refine x_iconst B dX7_stop_76 ?_
        refine x_mV B mvX7_40 (fun l => c_X7_of (by omega)) dX7_stop_77 rfl rfl (by decide) (by decide) (Nat.le_of_ble_eq_true rfl) PM.rv (fun r77 => ?_)
        first | refine x_top e3 ?_ | refine x_top e4 ?_
        exact x_retO B R dX7_stop_80 (by simp only [o_stop]; (repeat (first | rfl | rw [if_pos (by omega)] | rw [if_neg (by omega)])); try (exfalso; omega)) (by omega)
      · refine x_aload_n B dX7_stop_47 rfl ?_
        refine x_iload_n B dX7_stop_48 rfl ?_
        refine x_bipush B dX7_stop_49 (by decide) ?_
        refine x_mV B mvX7_40 (fun l => c_X7_of (by omega)) dX7_stop_51 rfl rfl (by decide) (by decide) (Nat.le_of_ble_eq_true rfl) PM.rv (fun r51 => ?_)
        refine x_if_le (tgt := 67) B dX7_stop_54 (by decide) (by omega) (fun c54 => ?_) (fun c54 => ?_)
        · refine x_aload_n B dX7_stop_67 rfl ?_
          refine x_iload_n B dX7_stop_68 rfl ?_
          refine x_iconst B dX7_stop_69 ?_
          refine x_iconst B dX7_stop_70 ?_
          refine x_mN B mvX7_170 (fun l => c_X7_endsBy (by omega) (by omega) (by omega) (by omega) (by omega)) dX7_stop_71 rfl rfl (by decide) (by decide) (Nat.le_of_ble_eq_true rfl) PM.rv ?_
          refine x_aload_n B dX7_stop_74 rfl ?_
          refine x_iload_n B dX7_stop_75 rfl ?_
          refine x_iconst B dX7_stop_76 ?_
          refine x_mV B mvX7_40 (fun l => c_X7_of (by omega)) dX7_stop_77 rfl rfl (by decide) (by decide) (Nat.le_of_ble_eq_true rfl) PM.rv (fun r77 => ?_)
          first | refine x_top e3 ?_ | refine x_top e4 ?_
          exact x_retO B R dX7_stop_80 (by simp only [o_stop]; (repeat (first | rfl | rw [if_pos (by omega)] | rw [if_neg (by omega)])); try (exfalso; omega)) (by omega)
        · refine x_aload_n B dX7_stop_57 rfl ?_
          refine x_iload_n B dX7_stop_58 rfl ?_
          refine x_iconst B dX7_stop_59 ?_
          refine x_iconst B dX7_stop_60 ?_
          refine x_mN B mvX7_54 (fun l => c_X7_put (by omega) (by omega)) dX7_stop_61 rfl rfl (by decide) (by decide) (Nat.le_of_ble_eq_true rfl) PM.rv ?_
          refine x_goto (tgt := 74) B dX7_stop_64 (by decide) ?_
          refine x_aload_n B dX7_stop_74 rfl ?_
          refine x_iload_n B dX7_stop_75 rfl ?_
          refine x_iconst B dX7_stop_76 ?_
          refine x_mV B mvX7_40 (fun l => c_X7_of (by omega)) dX7_stop_77 rfl rfl (by decide) (by decide) (Nat.le_of_ble_eq_true rfl) PM.rv (fun r77 => ?_)
          first | refine x_top e3 ?_ | refine x_top e4 ?_
          exact x_retO B R dX7_stop_80 (by simp only [o_stop]; (repeat (first | rfl | rw [if_pos (by omega)] | rw [if_neg (by omega)])); try (exfalso; omega)) (by omega)
    · refine x_aload_n B dX7_stop_20 rfl ?_
      refine x_iload_n B dX7_stop_21 rfl ?_
      refine x_iconst B dX7_stop_22 ?_
      refine x_mV B mvX7_40 (fun l => c_X7_of (by omega)) dX7_stop_23 rfl rfl (by decide) (by decide) (Nat.le_of_ble_eq_true rfl) PM.rv (fun r23 => ?_)
      refine x_iconst B dX7_stop_26 ?_
      refine x_icmp_eq (tgt := 33) B dX7_stop_27 (by decide) (by omega) (by omega) (fun c27 => ?_) (fun c27 => ?_)
      · refine x_aload_n B dX7_stop_33 rfl ?_
        refine x_mN B mvX7_44 (fun l => c_X7_keep (by omega)) dX7_stop_34 rfl rfl (by decide) (by decide) (Nat.le_of_ble_eq_true rfl) PM.rv ?_
        refine x_aload_n B dX7_stop_37 rfl ?_
        refine x_iload_n B dX7_stop_38 rfl ?_
        refine x_iconst B dX7_stop_39 ?_
        refine x_mV B mvX7_40 (fun l => c_X7_of (by omega)) dX7_stop_40 rfl rfl (by decide) (by decide) (Nat.le_of_ble_eq_true rfl) PM.rv (fun r40 => ?_)
        refine x_iconst B dX7_stop_43 ?_
        refine x_icmp_ne (tgt := 67) B dX7_stop_44 (by decide) (by omega) (by omega) (fun c44 => ?_) (fun c44 => ?_)
        · refine x_aload_n B dX7_stop_67 rfl ?_
          refine x_iload_n B dX7_stop_68 rfl ?_
          refine x_iconst B dX7_stop_69 ?_
          refine x_iconst B dX7_stop_70 ?_
          refine x_mN B mvX7_170 (fun l => c_X7_endsBy (by omega) (by omega) (by omega) (by omega) (by omega)) dX7_stop_71 rfl rfl (by decide) (by decide) (Nat.le_of_ble_eq_true rfl) PM.rv ?_
          refine x_aload_n B dX7_stop_74 rfl ?_
          refine x_iload_n B dX7_stop_75 rfl ?_
          refine x_iconst B dX7_stop_76 ?_
          refine x_mV B mvX7_40 (fun l => c_X7_of (by omega)) dX7_stop_77 rfl rfl (by decide) (by decide) (Nat.le_of_ble_eq_true rfl) PM.rv (fun r77 => ?_)
          first | refine x_top e3 ?_ | refine x_top e4 ?_
          exact x_retO B R dX7_stop_80 (by simp only [o_stop]; (repeat (first | rfl | rw [if_pos (by omega)] | rw [if_neg (by omega)])); try (exfalso; omega)) (by omega)
        · refine x_aload_n B dX7_stop_47 rfl ?_
          refine x_iload_n B dX7_stop_48 rfl ?_
          refine x_bipush B dX7_stop_49 (by decide) ?_
          refine x_mV B mvX7_40 (fun l => c_X7_of (by omega)) dX7_stop_51 rfl rfl (by decide) (by decide) (Nat.le_of_ble_eq_true rfl) PM.rv (fun r51 => ?_)
          refine x_if_le (tgt := 67) B dX7_stop_54 (by decide) (by omega) (fun c54 => ?_) (fun c54 => ?_)
          · refine x_aload_n B dX7_stop_67 rfl ?_
            refine x_iload_n B dX7_stop_68 rfl ?_
            refine x_iconst B dX7_stop_69 ?_
            refine x_iconst B dX7_stop_70 ?_
            refine x_mN B mvX7_170 (fun l => c_X7_endsBy (by omega) (by omega) (by omega) (by omega) (by omega)) dX7_stop_71 rfl rfl (by decide) (by decide) (Nat.le_of_ble_eq_true rfl) PM.rv ?_
            refine x_aload_n B dX7_stop_74 rfl ?_
            refine x_iload_n B dX7_stop_75 rfl ?_
            refine x_iconst B dX7_stop_76 ?_
            refine x_mV B mvX7_40 (fun l => c_X7_of (by omega)) dX7_stop_77 rfl rfl (by decide) (by decide) (Nat.le_of_ble_eq_true rfl) PM.rv (fun r77 => ?_)
            first | refine x_top e3 ?_ | refine x_top e4 ?_
            exact x_retO B R dX7_stop_80 (by simp only [o_stop]; (repeat (first | rfl | rw [if_pos (by omega)] | rw [if_neg (by omega)])); try (exfalso; omega)) (by omega)
          · refine x_aload_n B dX7_stop_57 rfl ?_
            refine x_iload_n B dX7_stop_58 rfl ?_
            refine x_iconst B dX7_stop_59 ?_
            refine x_iconst B dX7_stop_60 ?_
            refine x_mN B mvX7_54 (fun l => c_X7_put (by omega) (by omega)) dX7_stop_61 rfl rfl (by decide) (by decide) (Nat.le_of_ble_eq_true rfl) PM.rv ?_
            refine x_goto (tgt := 74) B dX7_stop_64 (by decide) ?_
            refine x_aload_n B dX7_stop_74 rfl ?_
            refine x_iload_n B dX7_stop_75 rfl ?_
            refine x_iconst B dX7_stop_76 ?_
            refine x_mV B mvX7_40 (fun l => c_X7_of (by omega)) dX7_stop_77 rfl rfl (by decide) (by decide) (Nat.le_of_ble_eq_true rfl) PM.rv (fun r77 => ?_)
            first | refine x_top e3 ?_ | refine x_top e4 ?_
            exact x_retO B R dX7_stop_80 (by simp only [o_stop]; (repeat (first | rfl | rw [if_pos (by omega)] | rw [if_neg (by omega)])); try (exfalso; omega)) (by omega)
      · refine x_bipush B dX7_stop_30 (by decide) ?_
        exact x_retO B R dX7_stop_32 (by simp only [o_stop]; (repeat (first | rfl | rw [if_pos (by omega)] | rw [if_neg (by omega)])); try (exfalso; omega)) (by omega)
  · refine x_iconst B dX7_stop_8 ?_
    exact x_retO B R dX7_stop_9 (by simp only [o_stop]; (repeat (first | rfl | rw [if_pos (by omega)] | rw [if_neg (by omega)])); try (exfalso; omega)) (by omega)
/-- an abort, from batch i on: z has the bits of those that were aborted, n is their number -/
def s_ab (b0 : Int) : Nat → Int → Int → Int → (Int → Int) → Int × (Int → Int)
  | 0, _, _, n, m => (n, m)
  | k + 1, i, z, n, m => if i = b0 ∨ (m (548 + 10 * i + 4) ≠ -1 ∧ z / ((2 ^ (m (548 + 10 * i + 4)).toNat : Nat) : Int) % 2 = 1) ∧ m (548 + 10 * i + 5) < 4 then s_ab b0 k (i + 1) (z + ((2 ^ i.toNat : Nat) : Int)) (n + 1) (s_endsBy m i 5 5) else s_ab b0 k (i + 1) z n m
def o_abort (m : Int → Int) (ρ : Nat → Int → Int) (b : Int) : xO :=
  if ¬ (0 ≤ b ∧ b ≤ m 3 - 1) then (-1, m, ρ) else if 4 ≤ m (548 + 10 * b + 5) then (-2, m, ρ) else
  ((s_ab b (m 3 - b).toNat b 0 0 m).1, (s_ab b (m 3 - b).toNat b 0 0 m).2, s_keep m ρ)
theorem pow2_rg {i : Int} (h : 0 ≤ i ∧ i ≤ 12) : 1 ≤ ((2 ^ i.toNat : Nat) : Int) ∧ ((2 ^ i.toNat : Nat) : Int) ≤ 4096 := by
  have h1 : 2 ^ i.toNat ≤ 2 ^ 12 := Nat.pow_le_pow_right (by decide) (by omega)
  have h2 := Nat.two_pow_pos i.toNat
  omega
theorem c_X7_abort {G : xG} {l : Launch} {b : Nat} {m : Int → Int} {ρ : Nat → Int → Int} {W x : Int} (h1 : Iv m W) (h2 : Ir ρ) (h3 : -2147483648 ≤ x ∧ x < 2147483648) : CT G l yX7_abort cX7_abort 6 (some .int) ({ frames := 3, cells := 0, slots := 0, locals := 68 } : Room) 0 0 [.ref b, vi x] (PM G b m ρ) (pI (o_abort m ρ x).1 (PM G b (o_abort m ρ x).2.1 (o_abort m ρ x).2.2)) (AM b) := by
  refine x_met1 (own := RX7) (nm := "abort") (L := [(0, .ref b), (1, vi x)]) (by decide) rfl rfl (fun _ => rfl) (Nat.le_of_ble_eq_true rfl) rfl rfl ?_
  intro Γ B R
  have hn := h1.n
  have hr := h2.1
  have loop : ∀ (k : Nat) (i z n : Int) (m' : Int → Int) (L : List (Nat × Value)), (0 ≤ x ∧ x ≤ m 3 - 1) → m (548 + 10 * x + 5) < 4 → s_ab x (m 3 - x).toNat x 0 0 m = s_ab x (m 3 - i).toNat i z n m' → x ≤ i → i ≤ m 3 → m 3 - i < k → (0 ≤ z ∧ z < ((2 ^ i.toNat : Nat) : Int)) → (0 ≤ n ∧ n ≤ i) → m' 3 = m 3 → (0 ≤ m' 4 ∧ m' 4 ≤ 40) → (∀ j, i ≤ j → j < m 3 → m' (548 + 10 * j + 4) = m (548 + 10 * j + 4) ∧ m' (548 + 10 * j + 8) = m (548 + 10 * j + 8)) →
      (∀ q ∈ [(0, Value.ref b), (1, vi x), (2, vi z), (3, vi n), (4, vi i)], lget L q.1 = some q.2) → XJ Γ 0 0 (PM G b m' (s_keep m ρ)) 34 L [] := by
    intro k
    induction k with
    | zero => intro i z n m' L _ _ _ _ _ _; omega
    | succ k ih =>
      intro i z n m' L hx h5 he hxi hi hk hz hnn e3 e4 ej hL
      refine x_locs hL ?_
      by_cases hlt : i < m 3
      · have hb := h1.b (b := i) (by omega) hlt
        unfold okB at hb
        obtain ⟨ea, eb⟩ := ej i (by omega) hlt
        have hp := pow2_rg (i := i) (by omega)
        have hq : (m 3 - i).toNat = (m 3 - (i + 1)).toNat + 1 := by omega
        have hpp : ((2 ^ (i + 1).toNat : Nat) : Int) = 2 * ((2 ^ i.toNat : Nat) : Int) := by
          rw [show (i + 1).toNat = i.toNat + 1 by omega, Nat.pow_succ]
          omega
        have hbits : m' (548 + 10 * i + 4) ≠ -1 → 0 ≤ z / ((2 ^ (m' (548 + 10 * i + 4)).toNat : Nat) : Int) := fun _ => Int.ediv_nonneg hz.1 (Int.natCast_nonneg _)
        refine x_iload B dX7_abort_34 rfl ?_
        refine x_aload_n B dX7_abort_36 rfl ?_
        refine x_get B fgX7_7 dX7_abort_37 (fun _ h => ⟨_, PM.o h, rfl⟩) ?_
        refine x_iconst B dX7_abort_40 ?_
        refine x_ialdR B dX7_abort_41 (by omega) (by decide) PM.am (fun r41 => ?_)
        refine x_icmp_ge (tgt := 124) B dX7_abort_42 (by decide) (by omega) (by omega) (fun c42 => ?_) (fun c42 => ?_)
        · omega
        · refine x_aload_n B dX7_abort_45 rfl ?_
          refine x_iload B dX7_abort_46 rfl ?_
          refine x_iconst B dX7_abort_48 ?_
          refine x_mV B mvX7_40 (fun l => c_X7_of (by omega)) dX7_abort_49 rfl rfl (by decide) (by decide) (Nat.le_of_ble_eq_true rfl) PM.rv (fun r49 => ?_)
          refine x_iconst B dX7_abort_52 ?_
          refine x_icmp_eq (tgt := 75) B dX7_abort_53 (by decide) (by omega) (by omega) (fun c53 => ?_) (fun c53 => ?_)
          · refine x_iconst B dX7_abort_75 ?_
            refine x_istore B dX7_abort_76 (by decide) ?_
            refine x_iload B dX7_abort_78 rfl ?_
            refine x_iload_n B dX7_abort_80 rfl ?_
            refine x_icmp_eq (tgt := 100) B dX7_abort_81 (by decide) (by omega) (by omega) (fun c81 => ?_) (fun c81 => ?_)
            · refine x_aload_n B dX7_abort_100 rfl ?_
              refine x_iload B dX7_abort_101 rfl ?_
              refine x_iconst B dX7_abort_103 ?_
              refine x_iconst B dX7_abort_104 ?_
              refine x_mN B mvX7_170 (fun l => c_X7_endsBy (by omega) (by omega) (by omega) (by omega) (by omega)) dX7_abort_105 rfl rfl (by decide) (by decide) (Nat.le_of_ble_eq_true rfl) PM.rv ?_
              refine x_iload_n B dX7_abort_108 rfl ?_
              refine x_iconst B dX7_abort_109 ?_
              refine x_iload B dX7_abort_110 rfl ?_
              refine x_ishl (w := 1 * ((2 ^ i.toNat : Nat) : Int)) B dX7_abort_112 (i32_shl (by omega)) ?_
              refine x_ior (w := z + 1 * ((2 ^ i.toNat : Nat) : Int)) B dX7_abort_113 (i32_or i.toNat hz rfl (by omega)) ?_
              refine x_top (show _ = z + ((2 ^ i.toNat : Nat) : Int) by rw [Int.one_mul]) ?_
              refine x_istore_n B dX7_abort_114 (by decide) ?_
              refine x_iinc B dX7_abort_115 rfl (by decide) ?_
              refine x_iinc B dX7_abort_118 rfl (by decide) ?_
              refine x_goto (tgt := 34) B dX7_abort_121 (by decide) ?_
              exact ih (i + 1) _ _ _ _ hx h5 (by rw [he, hq, s_ab]; first | rw [if_pos (by omega)] | rw [if_neg (by omega)]) (by omega) (by omega) (by omega) (by omega) (by omega) (by first | exact e3 | (rw [s_endsBy_ne (by omega) (by omega) (by omega) (by omega) (by omega) (by omega)]; exact e3)) (by first | exact e4 | (rw [s_endsBy_4 (by omega) (by omega)]; split <;> omega)) (fun j j1 j2 => by
              have := ej j (by omega) j2
              first
                | exact this
                | (rw [s_endsBy_ne (by omega) (by omega) (by omega) (by omega) (by omega) (by omega), s_endsBy_ne (by omega) (by omega) (by omega) (by omega) (by omega) (by omega)]; exact this)) (xl_cons rfl (xl_cons rfl (xl_cons rfl (xl_cons rfl (xl_cons rfl xl_nil)))))
            · refine x_iload B dX7_abort_84 rfl ?_
              refine x_if_eq (tgt := 118) B dX7_abort_86 (by decide) (by omega) (fun _ => ?_) (fun c86 => by exfalso; revert c86; decide)
              refine x_iinc B dX7_abort_118 rfl (by decide) ?_
              refine x_goto (tgt := 34) B dX7_abort_121 (by decide) ?_
              exact ih (i + 1) _ _ _ _ hx h5 (by rw [he, hq, s_ab]; first | rw [if_pos (by omega)] | rw [if_neg (by omega)]) (by omega) (by omega) (by omega) (by omega) (by omega) (by first | exact e3 | (rw [s_endsBy_ne (by omega) (by omega) (by omega) (by omega) (by omega) (by omega)]; exact e3)) (by first | exact e4 | (rw [s_endsBy_4 (by omega) (by omega)]; split <;> omega)) (fun j j1 j2 => by
              have := ej j (by omega) j2
              first
                | exact this
                | (rw [s_endsBy_ne (by omega) (by omega) (by omega) (by omega) (by omega) (by omega), s_endsBy_ne (by omega) (by omega) (by omega) (by omega) (by omega) (by omega)]; exact this)) (xl_cons rfl (xl_cons rfl (xl_cons rfl (xl_cons rfl (xl_cons rfl xl_nil)))))
          · refine x_iload_n B dX7_abort_56 rfl ?_
            refine x_aload_n B dX7_abort_57 rfl ?_
            refine x_iload B dX7_abort_58 rfl ?_
            refine x_iconst B dX7_abort_60 ?_
            refine x_mV B mvX7_40 (fun l => c_X7_of (by omega)) dX7_abort_61 rfl rfl (by decide) (by decide) (Nat.le_of_ble_eq_true rfl) PM.rv (fun r61 => ?_)
            refine x_ishr (w := z / ((2 ^ (m' (548 + 10 * i + 4)).toNat : Nat) : Int)) B dX7_abort_64 (i32_shr (by omega) (by omega)) ?_
            refine x_iconst B dX7_abort_65 ?_
            refine x_iand (w := z / ((2 ^ (m' (548 + 10 * i + 4)).toNat : Nat) : Int) % 2) B dX7_abort_66 (i32_mask 1 1 rfl (hbits (by omega))) ?_
            refine x_iconst B dX7_abort_67 ?_
            refine x_icmp_ne (tgt := 75) B dX7_abort_68 (by decide) (by omega) (by omega) (fun c68 => ?_) (fun c68 => ?_)
            · refine x_iconst B dX7_abort_75 ?_
              refine x_istore B dX7_abort_76 (by decide) ?_
              refine x_iload B dX7_abort_78 rfl ?_
              refine x_iload_n B dX7_abort_80 rfl ?_
              refine x_icmp_eq (tgt := 100) B dX7_abort_81 (by decide) (by omega) (by omega) (fun c81 => ?_) (fun c81 => ?_)
              · refine x_aload_n B dX7_abort_100 rfl ?_
                refine x_iload B dX7_abort_101 rfl ?_
                refine x_iconst B dX7_abort_103 ?_
                refine x_iconst B dX7_abort_104 ?_
                refine x_mN B mvX7_170 (fun l => c_X7_endsBy (by omega) (by omega) (by omega) (by omega) (by omega)) dX7_abort_105 rfl rfl (by decide) (by decide) (Nat.le_of_ble_eq_true rfl) PM.rv ?_
                refine x_iload_n B dX7_abort_108 rfl ?_
                refine x_iconst B dX7_abort_109 ?_
                refine x_iload B dX7_abort_110 rfl ?_
                refine x_ishl (w := 1 * ((2 ^ i.toNat : Nat) : Int)) B dX7_abort_112 (i32_shl (by omega)) ?_
                refine x_ior (w := z + 1 * ((2 ^ i.toNat : Nat) : Int)) B dX7_abort_113 (i32_or i.toNat hz rfl (by omega)) ?_
                refine x_top (show _ = z + ((2 ^ i.toNat : Nat) : Int) by rw [Int.one_mul]) ?_
                refine x_istore_n B dX7_abort_114 (by decide) ?_
                refine x_iinc B dX7_abort_115 rfl (by decide) ?_
                refine x_iinc B dX7_abort_118 rfl (by decide) ?_
                refine x_goto (tgt := 34) B dX7_abort_121 (by decide) ?_
                exact ih (i + 1) _ _ _ _ hx h5 (by rw [he, hq, s_ab]; first | rw [if_pos (by omega)] | rw [if_neg (by omega)]) (by omega) (by omega) (by omega) (by omega) (by omega) (by first | exact e3 | (rw [s_endsBy_ne (by omega) (by omega) (by omega) (by omega) (by omega) (by omega)]; exact e3)) (by first | exact e4 | (rw [s_endsBy_4 (by omega) (by omega)]; split <;> omega)) (fun j j1 j2 => by
                have := ej j (by omega) j2
                first
                  | exact this
                  | (rw [s_endsBy_ne (by omega) (by omega) (by omega) (by omega) (by omega) (by omega), s_endsBy_ne (by omega) (by omega) (by omega) (by omega) (by omega) (by omega)]; exact this)) (xl_cons rfl (xl_cons rfl (xl_cons rfl (xl_cons rfl (xl_cons rfl xl_nil)))))
              · refine x_iload B dX7_abort_84 rfl ?_
                refine x_if_eq (tgt := 118) B dX7_abort_86 (by decide) (by omega) (fun _ => ?_) (fun c86 => by exfalso; revert c86; decide)
                refine x_iinc B dX7_abort_118 rfl (by decide) ?_
                refine x_goto (tgt := 34) B dX7_abort_121 (by decide) ?_
                exact ih (i + 1) _ _ _ _ hx h5 (by rw [he, hq, s_ab]; first | rw [if_pos (by omega)] | rw [if_neg (by omega)]) (by omega) (by omega) (by omega) (by omega) (by omega) (by first | exact e3 | (rw [s_endsBy_ne (by omega) (by omega) (by omega) (by omega) (by omega) (by omega)]; exact e3)) (by first | exact e4 | (rw [s_endsBy_4 (by omega) (by omega)]; split <;> omega)) (fun j j1 j2 => by
                have := ej j (by omega) j2
                first
                  | exact this
                  | (rw [s_endsBy_ne (by omega) (by omega) (by omega) (by omega) (by omega) (by omega), s_endsBy_ne (by omega) (by omega) (by omega) (by omega) (by omega) (by omega)]; exact this)) (xl_cons rfl (xl_cons rfl (xl_cons rfl (xl_cons rfl (xl_cons rfl xl_nil)))))
            · refine x_iconst B dX7_abort_71 ?_
              refine x_goto (tgt := 76) B dX7_abort_72 (by decide) ?_
              refine x_istore B dX7_abort_76 (by decide) ?_
              refine x_iload B dX7_abort_78 rfl ?_
              refine x_iload_n B dX7_abort_80 rfl ?_
              refine x_icmp_eq (tgt := 100) B dX7_abort_81 (by decide) (by omega) (by omega) (fun c81 => ?_) (fun c81 => ?_)
              · refine x_aload_n B dX7_abort_100 rfl ?_
                refine x_iload B dX7_abort_101 rfl ?_
                refine x_iconst B dX7_abort_103 ?_
                refine x_iconst B dX7_abort_104 ?_
                refine x_mN B mvX7_170 (fun l => c_X7_endsBy (by omega) (by omega) (by omega) (by omega) (by omega)) dX7_abort_105 rfl rfl (by decide) (by decide) (Nat.le_of_ble_eq_true rfl) PM.rv ?_
                refine x_iload_n B dX7_abort_108 rfl ?_
                refine x_iconst B dX7_abort_109 ?_
                refine x_iload B dX7_abort_110 rfl ?_
                refine x_ishl (w := 1 * ((2 ^ i.toNat : Nat) : Int)) B dX7_abort_112 (i32_shl (by omega)) ?_
                refine x_ior (w := z + 1 * ((2 ^ i.toNat : Nat) : Int)) B dX7_abort_113 (i32_or i.toNat hz rfl (by omega)) ?_
                refine x_top (show _ = z + ((2 ^ i.toNat : Nat) : Int) by rw [Int.one_mul]) ?_
                refine x_istore_n B dX7_abort_114 (by decide) ?_
                refine x_iinc B dX7_abort_115 rfl (by decide) ?_
                refine x_iinc B dX7_abort_118 rfl (by decide) ?_
                refine x_goto (tgt := 34) B dX7_abort_121 (by decide) ?_
                exact ih (i + 1) _ _ _ _ hx h5 (by rw [he, hq, s_ab]; first | rw [if_pos (by omega)] | rw [if_neg (by omega)]) (by omega) (by omega) (by omega) (by omega) (by omega) (by first | exact e3 | (rw [s_endsBy_ne (by omega) (by omega) (by omega) (by omega) (by omega) (by omega)]; exact e3)) (by first | exact e4 | (rw [s_endsBy_4 (by omega) (by omega)]; split <;> omega)) (fun j j1 j2 => by
                have := ej j (by omega) j2
                first
                  | exact this
                  | (rw [s_endsBy_ne (by omega) (by omega) (by omega) (by omega) (by omega) (by omega), s_endsBy_ne (by omega) (by omega) (by omega) (by omega) (by omega) (by omega)]; exact this)) (xl_cons rfl (xl_cons rfl (xl_cons rfl (xl_cons rfl (xl_cons rfl xl_nil)))))
              · refine x_iload B dX7_abort_84 rfl ?_
                refine x_if_eq (tgt := 118) B dX7_abort_86 (by decide) (by omega) (fun c86 => by exfalso; revert c86; decide) (fun _ => ?_)
                refine x_aload_n B dX7_abort_89 rfl ?_
                refine x_iload B dX7_abort_90 rfl ?_
                refine x_iconst B dX7_abort_92 ?_
                refine x_mV B mvX7_40 (fun l => c_X7_of (by omega)) dX7_abort_93 rfl rfl (by decide) (by decide) (Nat.le_of_ble_eq_true rfl) PM.rv (fun r93 => ?_)
                refine x_iconst B dX7_abort_96 ?_
                refine x_icmp_ge (tgt := 118) B dX7_abort_97 (by decide) (by omega) (by omega) (fun c97 => ?_) (fun c97 => ?_)
                · refine x_iinc B dX7_abort_118 rfl (by decide) ?_
                  refine x_goto (tgt := 34) B dX7_abort_121 (by decide) ?_
                  exact ih (i + 1) _ _ _ _ hx h5 (by rw [he, hq, s_ab]; first | rw [if_pos (by omega)] | rw [if_neg (by omega)]) (by omega) (by omega) (by omega) (by omega) (by omega) (by first | exact e3 | (rw [s_endsBy_ne (by omega) (by omega) (by omega) (by omega) (by omega) (by omega)]; exact e3)) (by first | exact e4 | (rw [s_endsBy_4 (by omega) (by omega)]; split <;> omega)) (fun j j1 j2 => by
                  have := ej j (by omega) j2
                  first
                    | exact this
                    | (rw [s_endsBy_ne (by omega) (by omega) (by omega) (by omega) (by omega) (by omega), s_endsBy_ne (by omega) (by omega) (by omega) (by omega) (by omega) (by omega)]; exact this)) (xl_cons rfl (xl_cons rfl (xl_cons rfl (xl_cons rfl (xl_cons rfl xl_nil)))))
                · refine x_aload_n B dX7_abort_100 rfl ?_
                  refine x_iload B dX7_abort_101 rfl ?_
                  refine x_iconst B dX7_abort_103 ?_
                  refine x_iconst B dX7_abort_104 ?_
                  refine x_mN B mvX7_170 (fun l => c_X7_endsBy (by omega) (by omega) (by omega) (by omega) (by omega)) dX7_abort_105 rfl rfl (by decide) (by decide) (Nat.le_of_ble_eq_true rfl) PM.rv ?_
                  refine x_iload_n B dX7_abort_108 rfl ?_
                  refine x_iconst B dX7_abort_109 ?_
                  refine x_iload B dX7_abort_110 rfl ?_
                  refine x_ishl (w := 1 * ((2 ^ i.toNat : Nat) : Int)) B dX7_abort_112 (i32_shl (by omega)) ?_
                  refine x_ior (w := z + 1 * ((2 ^ i.toNat : Nat) : Int)) B dX7_abort_113 (i32_or i.toNat hz rfl (by omega)) ?_
                  refine x_top (show _ = z + ((2 ^ i.toNat : Nat) : Int) by rw [Int.one_mul]) ?_
                  refine x_istore_n B dX7_abort_114 (by decide) ?_
                  refine x_iinc B dX7_abort_115 rfl (by decide) ?_
                  refine x_iinc B dX7_abort_118 rfl (by decide) ?_
                  refine x_goto (tgt := 34) B dX7_abort_121 (by decide) ?_
                  exact ih (i + 1) _ _ _ _ hx h5 (by rw [he, hq, s_ab]; first | rw [if_pos (by omega)] | rw [if_neg (by omega)]) (by omega) (by omega) (by omega) (by omega) (by omega) (by first | exact e3 | (rw [s_endsBy_ne (by omega) (by omega) (by omega) (by omega) (by omega) (by omega)]; exact e3)) (by first | exact e4 | (rw [s_endsBy_4 (by omega) (by omega)]; split <;> omega)) (fun j j1 j2 => by
                  have := ej j (by omega) j2
                  first
                    | exact this
                    | (rw [s_endsBy_ne (by omega) (by omega) (by omega) (by omega) (by omega) (by omega), s_endsBy_ne (by omega) (by omega) (by omega) (by omega) (by omega) (by omega)]; exact this)) (xl_cons rfl (xl_cons rfl (xl_cons rfl (xl_cons rfl (xl_cons rfl xl_nil)))))
      · have e : i = m 3 := by omega
        subst e
        rw [show (m 3 - m 3).toNat = 0 by omega] at he
        simp only [s_ab] at he
        refine x_iload B dX7_abort_34 rfl ?_
        refine x_aload_n B dX7_abort_36 rfl ?_
        refine x_get B fgX7_7 dX7_abort_37 (fun _ h => ⟨_, PM.o h, rfl⟩) ?_
        refine x_iconst B dX7_abort_40 ?_
        refine x_ialdR B dX7_abort_41 (by omega) (by decide) PM.am (fun r41 => ?_)
        refine x_icmp_ge (tgt := 124) B dX7_abort_42 (by decide) (by omega) (by omega) (fun c42 => ?_) (fun c42 => ?_)
        · refine x_iload_n B dX7_abort_124 rfl ?_
          exact x_retO B R dX7_abort_125 (by simp only [o_abort]; rw [if_neg (by omega), if_neg (by omega), he]) (by omega)
        · omega
  refine x_aload_n B dX7_abort_0 rfl ?_
  refine x_iload_n B dX7_abort_1 rfl ?_
  refine x_mZ B mvX7_152 (fun l => c_X7_isBatch (by omega) (by omega)) dX7_abort_2 rfl rfl (by decide) (by decide) (Nat.le_of_ble_eq_true rfl) PM.rv ?_
  refine x_ifz_ne (tgt := 10) B dX7_abort_5 (by decide) (fun c5 => ?_) (fun c5 => ?_)
  · refine x_aload_n B dX7_abort_10 rfl ?_
    refine x_iload_n B dX7_abort_11 rfl ?_
    refine x_iconst B dX7_abort_12 ?_
    refine x_mV B mvX7_40 (fun l => c_X7_of (by omega)) dX7_abort_13 rfl rfl (by decide) (by decide) (Nat.le_of_ble_eq_true rfl) PM.rv (fun r13 => ?_)
    refine x_iconst B dX7_abort_16 ?_
    refine x_icmp_lt (tgt := 23) B dX7_abort_17 (by decide) (by omega) (by omega) (fun c17 => ?_) (fun c17 => ?_)
    · refine x_aload_n B dX7_abort_23 rfl ?_
      refine x_mN B mvX7_44 (fun l => c_X7_keep (by omega)) dX7_abort_24 rfl rfl (by decide) (by decide) (Nat.le_of_ble_eq_true rfl) PM.rv ?_
      refine x_iconst B dX7_abort_27 ?_
      refine x_istore_n B dX7_abort_28 (by decide) ?_
      refine x_iconst B dX7_abort_29 ?_
      refine x_istore_n B dX7_abort_30 (by decide) ?_
      refine x_iload_n B dX7_abort_31 rfl ?_
      refine x_istore B dX7_abort_32 (by decide) ?_
      exact loop 13 x 0 0 m _ c5 (by omega) rfl (by omega) (by omega) (by omega) ⟨by omega, (pow2_rg (by omega)).1⟩ (by omega) rfl (by omega) (fun j _ _ => ⟨rfl, rfl⟩) (xl_cons rfl (xl_cons rfl (xl_cons rfl (xl_cons rfl (xl_cons rfl xl_nil)))))
    · refine x_bipush B dX7_abort_20 (by decide) ?_
      exact x_retO B R dX7_abort_22 (by simp only [o_abort]; (repeat (first | rfl | rw [if_pos (by omega)] | rw [if_neg (by omega)])); try (exfalso; omega)) (by omega)
  · refine x_iconst B dX7_abort_8 ?_
    exact x_retO B R dX7_abort_9 (by simp only [o_abort]; (repeat (first | rfl | rw [if_pos (by omega)] | rw [if_neg (by omega)])); try (exfalso; omega)) (by omega)
/-- the lowest of n from u on; -1 -/
def lowU (p : Int → Prop) [DecidablePred p] : Nat → Int → Int
  | 0, _ => -1
  | n + 1, u => if p u then u else lowU p n (u + 1)
theorem lowU_rg (p : Int → Prop) [DecidablePred p] : ∀ (n : Nat) (u : Int), 0 ≤ u → lowU p n u = -1 ∨ (u ≤ lowU p n u ∧ lowU p n u < u + n ∧ p (lowU p n u))
  | 0, _, _ => Or.inl rfl
  | n + 1, u, hu => by
    unfold lowU
    split
    · next h => exact Or.inr ⟨by omega, by omega, h⟩
    · rcases lowU_rg p n (u + 1) (by omega) with h | ⟨h1, h2, h3⟩
      · exact Or.inl h
      · exact Or.inr ⟨by omega, by omega, h3⟩
def s_uFor (m : Int → Int) (t b kd : Int) : Int := lowU (fun u => ((m (5 + 6 * u + 2) = -1 ∧ m (5 + 6 * u + 3) = 0 ∧ m (5 + 6 * u + 4) ≤ t) ∧ m (5 + 6 * u + 0) = kd ∧ m (548 + 10 * b + 2) ≤ m (5 + 6 * u + 1))) (m 2).toNat 0
theorem c_X7_unitFor {G : xG} {l : Launch} {b : Nat} {m : Int → Int} {ρ : Nat → Int → Int} {x kd : Int} (h1 : 0 ≤ m 2 ∧ m 2 ≤ 8) (h2 : 0 ≤ x ∧ x < 12) (h3 : -2147483648 ≤ kd ∧ kd < 2147483648) (h4 : ∀ u, 0 ≤ u → u < m 2 → 0 ≤ m (5 + 6 * u + 4)) : CT G l yX7_unitFor cX7_unitFor 4 (some .int) ({ frames := 2, cells := 0, slots := 0, locals := 43 } : Room) 0 0 [.ref b, vi x, vi kd] (PM G b m ρ) (pI (s_uFor m 0 x kd) (PM G b m ρ)) (AM b) := by
  refine x_met1 (own := RX7) (nm := "unitFor") (L := [(0, .ref b), (1, vi x), (2, vi kd)]) (by decide) rfl rfl (fun _ => rfl) (Nat.le_of_ble_eq_true rfl) rfl rfl ?_
  intro Γ B R
  have loop : ∀ (n : Nat) (i : Int), s_uFor m 0 x kd = lowU (fun u => ((m (5 + 6 * u + 2) = -1 ∧ m (5 + 6 * u + 3) = 0 ∧ m (5 + 6 * u + 4) ≤ 0) ∧ m (5 + 6 * u + 0) = kd ∧ m (548 + 10 * x + 2) ≤ m (5 + 6 * u + 1))) (m 2 - i).toNat i → 0 ≤ i → i ≤ m 2 → m 2 - i < n → XJ Γ 0 0 (PM G b m ρ) 2 [(0, .ref b), (1, vi x), (2, vi kd), (3, vi i)] [] := by
    intro n
    induction n with
    | zero => intro i _ _ _ _; omega
    | succ n ih =>
      intro i he hi0 hi1 hn
      by_cases hlt : i < m 2
      · have hq : (m 2 - i).toNat = (m 2 - (i + 1)).toNat + 1 := by omega
        have hu := h4 i hi0 hlt
        refine x_iload_n B dX7_unitFor_2 rfl ?_
        refine x_aload_n B dX7_unitFor_3 rfl ?_
        refine x_get B fgX7_7 dX7_unitFor_4 (fun _ h => ⟨_, PM.o h, rfl⟩) ?_
        refine x_iconst B dX7_unitFor_7 ?_
        refine x_ialdR B dX7_unitFor_8 (by omega) (by decide) PM.am (fun r8 => ?_)
        refine x_icmp_ge (tgt := 53) B dX7_unitFor_9 (by decide) (by omega) (by omega) (fun c9 => ?_) (fun c9 => ?_)
        · omega
        · refine x_aload_n B dX7_unitFor_12 rfl ?_
          refine x_iload_n B dX7_unitFor_13 rfl ?_
          refine x_mZ B mvX7_82 (fun l => c_X7_isFree (by omega)) dX7_unitFor_14 rfl rfl (by decide) (by decide) (Nat.le_of_ble_eq_true rfl) PM.rv ?_
          refine x_ifz_eq (tgt := 47) B dX7_unitFor_17 (by decide) (fun c17 => ?_) (fun c17 => ?_)
          · refine x_iinc B dX7_unitFor_47 rfl (by decide) ?_
            refine x_goto (tgt := 2) B dX7_unitFor_50 (by decide) ?_
            exact ih (i + 1) (by rw [he, hq, lowU, if_neg (by omega)]) (by omega) (by omega) (by omega)
          · refine x_aload_n B dX7_unitFor_20 rfl ?_
            refine x_iload_n B dX7_unitFor_21 rfl ?_
            refine x_iconst B dX7_unitFor_22 ?_
            refine x_mV B mvX7_51 (fun l => c_X7_ofUnit (by omega)) dX7_unitFor_23 rfl rfl (by decide) (by decide) (Nat.le_of_ble_eq_true rfl) PM.rv (fun r23 => ?_)
            refine x_iload_n B dX7_unitFor_26 rfl ?_
            refine x_icmp_ne (tgt := 47) B dX7_unitFor_27 (by decide) (by omega) (by omega) (fun c27 => ?_) (fun c27 => ?_)
            · refine x_iinc B dX7_unitFor_47 rfl (by decide) ?_
              refine x_goto (tgt := 2) B dX7_unitFor_50 (by decide) ?_
              exact ih (i + 1) (by rw [he, hq, lowU, if_neg (by omega)]) (by omega) (by omega) (by omega)
            · refine x_aload_n B dX7_unitFor_30 rfl ?_
              refine x_iload_n B dX7_unitFor_31 rfl ?_
              refine x_iconst B dX7_unitFor_32 ?_
              refine x_mV B mvX7_51 (fun l => c_X7_ofUnit (by omega)) dX7_unitFor_33 rfl rfl (by decide) (by decide) (Nat.le_of_ble_eq_true rfl) PM.rv (fun r33 => ?_)
              refine x_aload_n B dX7_unitFor_36 rfl ?_
              refine x_iload_n B dX7_unitFor_37 rfl ?_
              refine x_iconst B dX7_unitFor_38 ?_
              refine x_mV B mvX7_40 (fun l => c_X7_of (by omega)) dX7_unitFor_39 rfl rfl (by decide) (by decide) (Nat.le_of_ble_eq_true rfl) PM.rv (fun r39 => ?_)
              refine x_icmp_lt (tgt := 47) B dX7_unitFor_42 (by decide) (by omega) (by omega) (fun c42 => ?_) (fun c42 => ?_)
              · refine x_iinc B dX7_unitFor_47 rfl (by decide) ?_
                refine x_goto (tgt := 2) B dX7_unitFor_50 (by decide) ?_
                exact ih (i + 1) (by rw [he, hq, lowU, if_neg (by omega)]) (by omega) (by omega) (by omega)
              · refine x_iload_n B dX7_unitFor_45 rfl ?_
                exact x_retI B R dX7_unitFor_46 (by rw [he, hq, lowU, if_pos (by omega)]) (by rw [he, hq, lowU, if_pos (by omega)]; omega) (fun H h => by exact h)
      · have e : i = m 2 := by omega
        rw [e, show (m 2 - m 2).toNat = 0 by omega] at he
        refine x_iload_n B dX7_unitFor_2 rfl ?_
        refine x_aload_n B dX7_unitFor_3 rfl ?_
        refine x_get B fgX7_7 dX7_unitFor_4 (fun _ h => ⟨_, PM.o h, rfl⟩) ?_
        refine x_iconst B dX7_unitFor_7 ?_
        refine x_ialdR B dX7_unitFor_8 (by omega) (by decide) PM.am (fun r8 => ?_)
        refine x_icmp_ge (tgt := 53) B dX7_unitFor_9 (by decide) (by omega) (by omega) (fun c9 => ?_) (fun c9 => ?_)
        · refine x_iconst B dX7_unitFor_53 ?_
          exact x_retI B R dX7_unitFor_54 (by rw [he]; rfl) (by rw [he]; exact (by decide : -2147483648 ≤ (-1 : Int) ∧ (-1 : Int) < 2147483648)) (fun H h => by exact h)
        · omega
  refine x_iconst B dX7_unitFor_0 ?_
  refine x_istore_n B dX7_unitFor_1 (by decide) ?_
  exact loop 9 0 (by unfold s_uFor; rw [Int.sub_zero]) (by omega) (by omega) (by omega)
theorem c_X7_waitsForOther {G : xG} {l : Launch} {b : Nat} {m : Int → Int} {ρ : Nat → Int → Int} {x : Int} (h2 : 0 ≤ x ∧ x < 12) (h3 : -1 ≤ m (548 + 10 * x + 4) ∧ m (548 + 10 * x + 4) < 12) : CT G l yX7_waitsForOther cX7_waitsForOther 3 (some .boolean) ({ frames := 1, cells := 0, slots := 0, locals := 22 } : Room) 0 0 [.ref b, vi x] (PM G b m ρ) (pZ (m (548 + 10 * x + 6) = 0 ∧ m (548 + 10 * x + 7) = 0 ∧ m (548 + 10 * x + 4) ≠ -1 ∧ m (548 + 10 * m (548 + 10 * x + 4) + 5) ≠ 6) (PM G b m ρ)) (AM b) := by
  refine x_met1 (own := RX7) (nm := "waitsForOther") (L := [(0, .ref b), (1, vi x)]) (by decide) rfl rfl (fun _ => rfl) (Nat.le_of_ble_eq_true rfl) rfl rfl ?_
  intro Γ B R
  refine x_aload_n B dX7_waitsForOther_0 rfl ?_
  refine x_iload_n B dX7_waitsForOther_1 rfl ?_
  refine x_iconst B dX7_waitsForOther_2 ?_
  refine x_mV B mvX7_40 (fun l => c_X7_of (by omega)) dX7_waitsForOther_3 rfl rfl (by decide) (by decide) (Nat.le_of_ble_eq_true rfl) PM.rv (fun r3 => ?_)
  refine x_istore_n B dX7_waitsForOther_6 (by decide) ?_
  refine x_aload_n B dX7_waitsForOther_7 rfl ?_
  refine x_iload_n B dX7_waitsForOther_8 rfl ?_
  refine x_bipush B dX7_waitsForOther_9 (by decide) ?_
  refine x_mV B mvX7_40 (fun l => c_X7_of (by omega)) dX7_waitsForOther_11 rfl rfl (by decide) (by decide) (Nat.le_of_ble_eq_true rfl) PM.rv (fun r11 => ?_)
  refine x_if_ne (tgt := 47) B dX7_waitsForOther_14 (by decide) (by omega) (fun c14 => ?_) (fun c14 => ?_)
  · refine x_iconst B dX7_waitsForOther_47 ?_
    exact x_retZ B R dX7_waitsForOther_48 ((bz_f (by omega)).symm) (fun H h => by exact h)
  · refine x_aload_n B dX7_waitsForOther_17 rfl ?_
    refine x_iload_n B dX7_waitsForOther_18 rfl ?_
    refine x_bipush B dX7_waitsForOther_19 (by decide) ?_
    refine x_mV B mvX7_40 (fun l => c_X7_of (by omega)) dX7_waitsForOther_21 rfl rfl (by decide) (by decide) (Nat.le_of_ble_eq_true rfl) PM.rv (fun r21 => ?_)
    refine x_if_ne (tgt := 47) B dX7_waitsForOther_24 (by decide) (by omega) (fun c24 => ?_) (fun c24 => ?_)
    · refine x_iconst B dX7_waitsForOther_47 ?_
      exact x_retZ B R dX7_waitsForOther_48 ((bz_f (by omega)).symm) (fun H h => by exact h)
    · refine x_iload_n B dX7_waitsForOther_27 rfl ?_
      refine x_iconst B dX7_waitsForOther_28 ?_
      refine x_icmp_eq (tgt := 47) B dX7_waitsForOther_29 (by decide) (by omega) (by omega) (fun c29 => ?_) (fun c29 => ?_)
      · refine x_iconst B dX7_waitsForOther_47 ?_
        exact x_retZ B R dX7_waitsForOther_48 ((bz_f (by omega)).symm) (fun H h => by exact h)
      · refine x_aload_n B dX7_waitsForOther_32 rfl ?_
        refine x_iload_n B dX7_waitsForOther_33 rfl ?_
        refine x_iconst B dX7_waitsForOther_34 ?_
        refine x_mV B mvX7_40 (fun l => c_X7_of (by omega)) dX7_waitsForOther_35 rfl rfl (by decide) (by decide) (Nat.le_of_ble_eq_true rfl) PM.rv (fun r35 => ?_)
        refine x_bipush B dX7_waitsForOther_38 (by decide) ?_
        refine x_icmp_eq (tgt := 47) B dX7_waitsForOther_40 (by decide) (by omega) (by omega) (fun c40 => ?_) (fun c40 => ?_)
        · refine x_iconst B dX7_waitsForOther_47 ?_
          exact x_retZ B R dX7_waitsForOther_48 ((bz_f (by omega)).symm) (fun H h => by exact h)
        · refine x_iconst B dX7_waitsForOther_43 ?_
          refine x_goto (tgt := 48) B dX7_waitsForOther_44 (by decide) ?_
          exact x_retZ B R dX7_waitsForOther_48 ((bz_t (by omega)).symm) (fun H h => by exact h)
/-- what a batch's present phase may be read by -/
def rdB (m : Int → Int) (b : Int) : Prop := (0 ≤ b ∧ b < 12) ∧ (0 ≤ m (548 + 10 * b + 0) ∧ m (548 + 10 * b + 0) < 6) ∧ (1 ≤ m (548 + 10 * b + 1) ∧ m (548 + 10 * b + 1) ≤ 9) ∧ (0 ≤ m (548 + 10 * b + 6) ∧ m (548 + 10 * b + 6) < 8) ∧ (0 ≤ phB m b (m (548 + 10 * b + 6)) ∧ phB m b (m (548 + 10 * b + 6)) < 524288)
theorem c_X7_waitsForShared {G : xG} {l : Launch} {b : Nat} {m : Int → Int} {ρ : Nat → Int → Int} {x : Int} (h2 : rdB m x) : CT G l yX7_waitsForShared cX7_waitsForShared 3 (some .boolean) ({ frames := 3, cells := 0, slots := 0, locals := 66 } : Room) 0 0 [.ref b, vi x] (PM G b m ρ) (pZ ((phB m x (m (548 + 10 * x + 6)) / 512 % 4 - 1) ≠ -1 ∧ m (53 + (phB m x (m (548 + 10 * x + 6)) / 512 % 4 - 1)) ≠ -1 ∧ m (53 + (phB m x (m (548 + 10 * x + 6)) / 512 % 4 - 1)) ≠ x) (PM G b m ρ)) (AM b) := by
  refine x_met1 (own := RX7) (nm := "waitsForShared") (L := [(0, .ref b), (1, vi x)]) (by decide) rfl rfl (fun _ => rfl) (Nat.le_of_ble_eq_true rfl) rfl rfl ?_
  intro Γ B R
  unfold rdB at h2
  refine x_aload_n B dX7_waitsForShared_0 rfl ?_
  refine x_iload_n B dX7_waitsForShared_1 rfl ?_
  refine x_mV B mvX7_164 (fun l => c_X7_phaseNow (by omega) (by omega) (by omega) (by omega)) dX7_waitsForShared_2 rfl rfl (by decide) (by decide) (Nat.le_of_ble_eq_true rfl) PM.rv (fun r2 => ?_)
  refine x_sV B msX7_137 (fun l => c_X7_sharedOf (by omega)) dX7_waitsForShared_5 rfl rfl (by decide) (by decide) (Nat.le_of_ble_eq_true rfl) (fun r5 => ?_)
  refine x_istore_n B dX7_waitsForShared_8 (by decide) ?_
  refine x_iload_n B dX7_waitsForShared_9 rfl ?_
  refine x_iconst B dX7_waitsForShared_10 ?_
  refine x_icmp_eq (tgt := 44) B dX7_waitsForShared_11 (by decide) (by omega) (by omega) (fun c11 => ?_) (fun c11 => ?_)
  · refine x_iconst B dX7_waitsForShared_44 ?_
    exact x_retZ B R dX7_waitsForShared_45 ((bz_f (by omega)).symm) (fun H h => by exact h)
  · refine x_aload_n B dX7_waitsForShared_14 rfl ?_
    refine x_get B fgX7_7 dX7_waitsForShared_15 (fun _ h => ⟨_, PM.o h, rfl⟩) ?_
    refine x_bipush B dX7_waitsForShared_18 (by decide) ?_
    refine x_iload_n B dX7_waitsForShared_20 rfl ?_
    refine x_iadd B dX7_waitsForShared_21 ?_
    refine x_ialdR B dX7_waitsForShared_22 (by omega) (by decide) PM.am (fun r22 => ?_)
    refine x_iconst B dX7_waitsForShared_23 ?_
    refine x_icmp_eq (tgt := 44) B dX7_waitsForShared_24 (by decide) (by omega) (by omega) (fun c24 => ?_) (fun c24 => ?_)
    · refine x_iconst B dX7_waitsForShared_44 ?_
      exact x_retZ B R dX7_waitsForShared_45 ((bz_f (by omega)).symm) (fun H h => by exact h)
    · refine x_aload_n B dX7_waitsForShared_27 rfl ?_
      refine x_get B fgX7_7 dX7_waitsForShared_28 (fun _ h => ⟨_, PM.o h, rfl⟩) ?_
      refine x_bipush B dX7_waitsForShared_31 (by decide) ?_
      refine x_iload_n B dX7_waitsForShared_33 rfl ?_
      refine x_iadd B dX7_waitsForShared_34 ?_
      refine x_ialdR B dX7_waitsForShared_35 (by omega) (by decide) PM.am (fun r35 => ?_)
      refine x_iload_n B dX7_waitsForShared_36 rfl ?_
      refine x_icmp_eq (tgt := 44) B dX7_waitsForShared_37 (by decide) (by omega) (by omega) (fun c37 => ?_) (fun c37 => ?_)
      · refine x_iconst B dX7_waitsForShared_44 ?_
        exact x_retZ B R dX7_waitsForShared_45 ((bz_f (by omega)).symm) (fun H h => by exact h)
      · refine x_iconst B dX7_waitsForShared_40 ?_
        refine x_goto (tgt := 45) B dX7_waitsForShared_41 (by decide) ?_
        exact x_retZ B R dX7_waitsForShared_45 ((bz_t (by omega)).symm) (fun H h => by exact h)
def s_reason (m : Int → Int) (t b : Int) : Int := if (m (548 + 10 * b + 6) = 0 ∧ m (548 + 10 * b + 7) = 0 ∧ m (548 + 10 * b + 4) ≠ -1 ∧ m (548 + 10 * m (548 + 10 * b + 4) + 5) ≠ 6) then 1 else if m (548 + 10 * b + 8) = -1 ∧ s_uFor m t b ((phB m b (m (548 + 10 * b + 6))) % 4) = -1 then 2 else if ((phB m b (m (548 + 10 * b + 6)) / 512 % 4 - 1) ≠ -1 ∧ m (53 + (phB m b (m (548 + 10 * b + 6)) / 512 % 4 - 1)) ≠ -1 ∧ m (53 + (phB m b (m (548 + 10 * b + 6)) / 512 % 4 - 1)) ≠ b) then 3 else 0
theorem c_X7_reason {G : xG} {l : Launch} {b : Nat} {m : Int → Int} {ρ : Nat → Int → Int} {x : Int} (h1 : 0 ≤ m 2 ∧ m 2 ≤ 8) (h2 : rdB m x) (h3 : -1 ≤ m (548 + 10 * x + 4) ∧ m (548 + 10 * x + 4) < 12) (h4 : ∀ u, 0 ≤ u → u < m 2 → 0 ≤ m (5 + 6 * u + 4)) : CT G l yX7_reason cX7_reason 2 (some .int) ({ frames := 4, cells := 0, slots := 0, locals := 88 } : Room) 0 0 [.ref b, vi x] (PM G b m ρ) (pI (s_reason m 0 x) (PM G b m ρ)) (AM b) := by
  refine x_met1 (own := RX7) (nm := "reason") (L := [(0, .ref b), (1, vi x)]) (by decide) rfl rfl (fun _ => rfl) (Nat.le_of_ble_eq_true rfl) rfl rfl ?_
  intro Γ B R
  have h2' := h2
  unfold rdB at h2'
  refine x_aload_n B dX7_reason_0 rfl ?_
  refine x_iload_n B dX7_reason_1 rfl ?_
  refine x_mZ B mvX7_180 (fun l => c_X7_waitsForOther (by omega) (by omega)) dX7_reason_2 rfl rfl (by decide) (by decide) (Nat.le_of_ble_eq_true rfl) PM.rv ?_
  refine x_ifz_eq (tgt := 10) B dX7_reason_5 (by decide) (fun c5 => ?_) (fun c5 => ?_)
  · refine x_aload_n B dX7_reason_10 rfl ?_
    refine x_iload_n B dX7_reason_11 rfl ?_
    refine x_bipush B dX7_reason_12 (by decide) ?_
    refine x_mV B mvX7_40 (fun l => c_X7_of (by omega)) dX7_reason_14 rfl rfl (by decide) (by decide) (Nat.le_of_ble_eq_true rfl) PM.rv (fun r14 => ?_)
    refine x_iconst B dX7_reason_17 ?_
    refine x_icmp_ne (tgt := 40) B dX7_reason_18 (by decide) (by omega) (by omega) (fun c18 => ?_) (fun c18 => ?_)
    · refine x_aload_n B dX7_reason_40 rfl ?_
      refine x_iload_n B dX7_reason_41 rfl ?_
      refine x_mZ B mvX7_186 (fun l => c_X7_waitsForShared h2) dX7_reason_42 rfl rfl (by decide) (by decide) (Nat.le_of_ble_eq_true rfl) PM.rv ?_
      refine x_ifz_eq (tgt := 52) B dX7_reason_45 (by decide) (fun c45 => ?_) (fun c45 => ?_)
      · refine x_iconst B dX7_reason_52 ?_
        exact x_retI B R dX7_reason_53 (by unfold s_reason; repeat (first | rfl | rw [if_pos (by assumption)] | rw [if_neg (by assumption)] | rw [if_pos (by omega)] | rw [if_neg (by omega)])) (by unfold s_reason; (repeat' split) <;> omega) (fun H h => by exact h)
      · refine x_iconst B dX7_reason_48 ?_
        refine x_goto (tgt := 53) B dX7_reason_49 (by decide) ?_
        exact x_retI B R dX7_reason_53 (by unfold s_reason; repeat (first | rfl | rw [if_pos (by assumption)] | rw [if_neg (by assumption)] | rw [if_pos (by omega)] | rw [if_neg (by omega)])) (by unfold s_reason; (repeat' split) <;> omega) (fun H h => by exact h)
    · refine x_aload_n B dX7_reason_21 rfl ?_
      refine x_iload_n B dX7_reason_22 rfl ?_
      refine x_aload_n B dX7_reason_23 rfl ?_
      refine x_iload_n B dX7_reason_24 rfl ?_
      refine x_mV B mvX7_164 (fun l => c_X7_phaseNow (by omega) (by omega) (by omega) (by omega)) dX7_reason_25 rfl rfl (by decide) (by decide) (Nat.le_of_ble_eq_true rfl) PM.rv (fun r25 => ?_)
      refine x_sV B msX7_131 (fun l => c_X7_kindOf (by omega)) dX7_reason_28 rfl rfl (by decide) (by decide) (Nat.le_of_ble_eq_true rfl) (fun r28 => ?_)
      refine x_mV B mvX7_183 (fun l => c_X7_unitFor (by omega) (by omega) (by omega) h4) dX7_reason_31 rfl rfl (by decide) (by decide) (Nat.le_of_ble_eq_true rfl) PM.rv (fun r31 => ?_)
      refine x_iconst B dX7_reason_34 ?_
      refine x_icmp_ne (tgt := 40) B dX7_reason_35 (by decide) (by omega) (by omega) (fun c35 => ?_) (fun c35 => ?_)
      · refine x_aload_n B dX7_reason_40 rfl ?_
        refine x_iload_n B dX7_reason_41 rfl ?_
        refine x_mZ B mvX7_186 (fun l => c_X7_waitsForShared h2) dX7_reason_42 rfl rfl (by decide) (by decide) (Nat.le_of_ble_eq_true rfl) PM.rv ?_
        refine x_ifz_eq (tgt := 52) B dX7_reason_45 (by decide) (fun c45 => ?_) (fun c45 => ?_)
        · refine x_iconst B dX7_reason_52 ?_
          exact x_retI B R dX7_reason_53 (by unfold s_reason; repeat (first | rfl | rw [if_pos (by assumption)] | rw [if_neg (by assumption)] | rw [if_pos (by omega)] | rw [if_neg (by omega)])) (by unfold s_reason; (repeat' split) <;> omega) (fun H h => by exact h)
        · refine x_iconst B dX7_reason_48 ?_
          refine x_goto (tgt := 53) B dX7_reason_49 (by decide) ?_
          exact x_retI B R dX7_reason_53 (by unfold s_reason; repeat (first | rfl | rw [if_pos (by assumption)] | rw [if_neg (by assumption)] | rw [if_pos (by omega)] | rw [if_neg (by omega)])) (by unfold s_reason; (repeat' split) <;> omega) (fun H h => by exact h)
      · refine x_iconst B dX7_reason_38 ?_
        exact x_retI B R dX7_reason_39 (by unfold s_reason; repeat (first | rfl | rw [if_pos (by assumption)] | rw [if_neg (by assumption)] | rw [if_pos (by omega)] | rw [if_neg (by omega)])) (by unfold s_reason; (repeat' split) <;> omega) (fun H h => by exact h)
  · refine x_iconst B dX7_reason_8 ?_
    exact x_retI B R dX7_reason_9 (by unfold s_reason; repeat (first | rfl | rw [if_pos (by assumption)] | rw [if_neg (by assumption)] | rw [if_pos (by omega)] | rw [if_neg (by omega)])) (by unfold s_reason; (repeat' split) <;> omega) (fun H h => by exact h)

/-! ===== what the reference does to its memory ===== -/
/-- how many of the first n batches have the state st -/
def cntB (m : Int → Int) (st : Int) : Nat → Int
  | 0 => 0
  | n + 1 => cntB m st n + (if m (548 + 10 * (n : Int) + 5) = st then 1 else 0)
theorem cntB_rg (m : Int → Int) (st : Int) : ∀ n : Nat, 0 ≤ cntB m st n ∧ cntB m st n ≤ n
  | 0 => by simp [cntB]
  | n + 1 => by
    have := cntB_rg m st n
    unfold cntB
    split <;> omega
theorem cntB_s {m : Int → Int} {st i : Int} (h : 0 ≤ i) : cntB m st (i + 1).toNat = cntB m st i.toNat + (if m (548 + 10 * i + 5) = st then 1 else 0) := by
  have e : (i + 1).toNat = i.toNat + 1 := by omega
  have e2 : ((i.toNat : Nat) : Int) = i := by omega
  rw [e, cntB, e2]
/-- the sum of a number of the first n units -/
def sumU (m : Int → Int) (w : Int) : Nat → Int
  | 0 => 0
  | n + 1 => sumU m w n + m (5 + 6 * (n : Int) + w)
theorem sumU_s {m : Int → Int} {w i : Int} (h : 0 ≤ i) : sumU m w (i + 1).toNat = sumU m w i.toNat + m (5 + 6 * i + w) := by
  have e : (i + 1).toNat = i.toNat + 1 := by omega
  have e2 : ((i.toNat : Nat) : Int) = i := by omega
  rw [e, sumU, e2]
/-- how many of the first n satisfy p -/
def cntP (p : Int → Prop) [DecidablePred p] : Nat → Int
  | 0 => 0
  | n + 1 => cntP p n + (if p (n : Int) then 1 else 0)
theorem cntP_rg (p : Int → Prop) [DecidablePred p] : ∀ n : Nat, 0 ≤ cntP p n ∧ cntP p n ≤ n
  | 0 => by simp [cntP]
  | n + 1 => by
    have := cntP_rg p n
    unfold cntP
    split <;> omega
theorem cntP_s {p : Int → Prop} [DecidablePred p] {i : Int} (h : 0 ≤ i) : cntP p (i + 1).toNat = cntP p i.toNat + (if p i then 1 else 0) := by
  have e : (i + 1).toNat = i.toNat + 1 := by omega
  have e2 : ((i.toNat : Nat) : Int) = i := by omega
  rw [e, cntP, e2]
theorem c_X7_many {G : xG} {l : Launch} {b : Nat} {m : Int → Int} {ρ : Nat → Int → Int} {x : Int} (h1 : 0 ≤ m 3 ∧ m 3 ≤ 12) (h2 : -2147483648 ≤ x ∧ x < 2147483648) : CT G l yX7_many cX7_many 4 (some .int) ({ frames := 1, cells := 0, slots := 0, locals := 22 } : Room) 0 0 [.ref b, vi x] (PM G b m ρ) (pI (cntB m x (m 3).toNat) (PM G b m ρ)) (AM b) := by
  refine x_met1 (own := RX7) (nm := "many") (L := [(0, .ref b), (1, vi x)]) (by decide) rfl rfl (fun _ => rfl) (Nat.le_of_ble_eq_true rfl) rfl rfl ?_
  intro Γ B R
  have loop : ∀ (n : Nat) (i acc : Int), acc = cntB m x i.toNat → 0 ≤ i → i ≤ m 3 → m 3 - i < n → XJ Γ 0 0 (PM G b m ρ) 4 [(0, .ref b), (1, vi x), (2, vi acc), (3, vi i)] [] := by
    intro n
    induction n with
    | zero => intro i acc _ _ _ _; omega
    | succ n ih =>
      intro i acc ha hi0 hi1 hn
      have hb := cntB_rg m x i.toNat
      refine x_iload_n B dX7_many_4 rfl ?_
      refine x_aload_n B dX7_many_5 rfl ?_
      refine x_get B fgX7_7 dX7_many_6 (fun _ h => ⟨_, PM.o h, rfl⟩) ?_
      refine x_iconst B dX7_many_9 ?_
      refine x_ialdR B dX7_many_10 (by omega) (by decide) PM.am (fun r10 => ?_)
      refine x_icmp_ge (tgt := 38) B dX7_many_11 (by decide) (by omega) (by omega) (fun c11 => ?_) (fun c11 => ?_)
      · refine x_iload_n B dX7_many_38 rfl ?_
        exact x_retI B R dX7_many_39 (by rw [ha]; congr 2; omega) (by rw [show (m 3).toNat = i.toNat by omega]; omega) (fun H h => by exact h)
      · refine x_iload_n B dX7_many_14 rfl ?_
        refine x_aload_n B dX7_many_15 rfl ?_
        refine x_iload_n B dX7_many_16 rfl ?_
        refine x_iconst B dX7_many_17 ?_
        refine x_mV B mvX7_40 (fun l => c_X7_of (by omega)) dX7_many_18 rfl rfl (by decide) (by decide) (Nat.le_of_ble_eq_true rfl) PM.rv (fun r18 => ?_)
        refine x_iload_n B dX7_many_21 rfl ?_
        refine x_icmp_ne (tgt := 29) B dX7_many_22 (by decide) (by omega) (by omega) (fun c22 => ?_) (fun c22 => ?_)
        · refine x_iconst B dX7_many_29 ?_
          refine x_iadd B dX7_many_30 ?_
          refine x_istore_n B dX7_many_31 (by decide) ?_
          refine x_iinc B dX7_many_32 rfl (by decide) ?_
          refine x_goto (tgt := 4) B dX7_many_35 (by decide) ?_
          exact ih (i + 1) _ (by rw [cntB_s hi0, ha]; simp [*]) (by omega) (by omega) (by omega)
        · refine x_iconst B dX7_many_25 ?_
          refine x_goto (tgt := 30) B dX7_many_26 (by decide) ?_
          refine x_iadd B dX7_many_30 ?_
          refine x_istore_n B dX7_many_31 (by decide) ?_
          refine x_iinc B dX7_many_32 rfl (by decide) ?_
          refine x_goto (tgt := 4) B dX7_many_35 (by decide) ?_
          exact ih (i + 1) _ (by rw [cntB_s hi0, ha]; simp [*]) (by omega) (by omega) (by omega)
  refine x_iconst B dX7_many_0 ?_
  refine x_istore_n B dX7_many_1 (by decide) ?_
  refine x_iconst B dX7_many_2 ?_
  refine x_istore_n B dX7_many_3 (by decide) ?_
  exact loop 13 0 0 rfl (by omega) (by omega) (by omega)
theorem c_X7_broken {G : xG} {l : Launch} {b : Nat} {m : Int → Int} {ρ : Nat → Int → Int} (h1 : 0 ≤ m 2 ∧ m 2 ≤ 8) (h2 : -2147483648 ≤ sumU m 3 (m 2).toNat ∧ sumU m 3 (m 2).toNat < 2147483648) : CT G l yX7_broken cX7_broken 3 (some .int) ({ frames := 1, cells := 0, slots := 0, locals := 22 } : Room) 0 0 [.ref b] (PM G b m ρ) (pI (sumU m 3 (m 2).toNat) (PM G b m ρ)) (AM b) := by
  refine x_met1 (own := RX7) (nm := "broken") (L := [(0, .ref b)]) (by decide) rfl rfl (fun _ => rfl) (Nat.le_of_ble_eq_true rfl) rfl rfl ?_
  intro Γ B R
  have loop : ∀ (n : Nat) (i acc : Int), acc = sumU m 3 i.toNat → 0 ≤ i → i ≤ m 2 → m 2 - i < n → XJ Γ 0 0 (PM G b m ρ) 4 [(0, .ref b), (1, vi acc), (2, vi i)] [] := by
    intro n
    induction n with
    | zero => intro i acc _ _ _ _; omega
    | succ n ih =>
      intro i acc ha hi0 hi1 hn
      refine x_iload_n B dX7_broken_4 rfl ?_
      refine x_aload_n B dX7_broken_5 rfl ?_
      refine x_get B fgX7_7 dX7_broken_6 (fun _ h => ⟨_, PM.o h, rfl⟩) ?_
      refine x_iconst B dX7_broken_9 ?_
      refine x_ialdR B dX7_broken_10 (by omega) (by decide) PM.am (fun r10 => ?_)
      refine x_icmp_ge (tgt := 29) B dX7_broken_11 (by decide) (by omega) (by omega) (fun c11 => ?_) (fun c11 => ?_)
      · refine x_iload_n B dX7_broken_29 rfl ?_
        exact x_retI B R dX7_broken_30 (by rw [ha]; congr 2; omega) (by omega) (fun H h => by exact h)
      · refine x_iload_n B dX7_broken_14 rfl ?_
        refine x_aload_n B dX7_broken_15 rfl ?_
        refine x_iload_n B dX7_broken_16 rfl ?_
        refine x_iconst B dX7_broken_17 ?_
        refine x_mV B mvX7_51 (fun l => c_X7_ofUnit (by omega)) dX7_broken_18 rfl rfl (by decide) (by decide) (Nat.le_of_ble_eq_true rfl) PM.rv (fun r18 => ?_)
        refine x_iadd B dX7_broken_21 ?_
        refine x_istore_n B dX7_broken_22 (by decide) ?_
        refine x_iinc B dX7_broken_23 rfl (by decide) ?_
        refine x_goto (tgt := 4) B dX7_broken_26 (by decide) ?_
        exact ih (i + 1) _ (by rw [sumU_s hi0, ha]) (by omega) (by omega) (by omega)
  refine x_iconst B dX7_broken_0 ?_
  refine x_istore_n B dX7_broken_1 (by decide) ?_
  refine x_iconst B dX7_broken_2 ?_
  refine x_istore_n B dX7_broken_3 (by decide) ?_
  exact loop 9 0 0 rfl (by omega) (by omega) (by omega)
theorem c_X7_worked {G : xG} {l : Launch} {b : Nat} {m : Int → Int} {ρ : Nat → Int → Int} (h1 : 0 ≤ m 2 ∧ m 2 ≤ 8) (h2 : -2147483648 ≤ sumU m 5 (m 2).toNat ∧ sumU m 5 (m 2).toNat < 2147483648) : CT G l yX7_worked cX7_worked 3 (some .int) ({ frames := 1, cells := 0, slots := 0, locals := 22 } : Room) 0 0 [.ref b] (PM G b m ρ) (pI (sumU m 5 (m 2).toNat) (PM G b m ρ)) (AM b) := by
  refine x_met1 (own := RX7) (nm := "worked") (L := [(0, .ref b)]) (by decide) rfl rfl (fun _ => rfl) (Nat.le_of_ble_eq_true rfl) rfl rfl ?_
  intro Γ B R
  have loop : ∀ (n : Nat) (i acc : Int), acc = sumU m 5 i.toNat → 0 ≤ i → i ≤ m 2 → m 2 - i < n → XJ Γ 0 0 (PM G b m ρ) 4 [(0, .ref b), (1, vi acc), (2, vi i)] [] := by
    intro n
    induction n with
    | zero => intro i acc _ _ _ _; omega
    | succ n ih =>
      intro i acc ha hi0 hi1 hn
      refine x_iload_n B dX7_worked_4 rfl ?_
      refine x_aload_n B dX7_worked_5 rfl ?_
      refine x_get B fgX7_7 dX7_worked_6 (fun _ h => ⟨_, PM.o h, rfl⟩) ?_
      refine x_iconst B dX7_worked_9 ?_
      refine x_ialdR B dX7_worked_10 (by omega) (by decide) PM.am (fun r10 => ?_)
      refine x_icmp_ge (tgt := 29) B dX7_worked_11 (by decide) (by omega) (by omega) (fun c11 => ?_) (fun c11 => ?_)
      · refine x_iload_n B dX7_worked_29 rfl ?_
        exact x_retI B R dX7_worked_30 (by rw [ha]; congr 2; omega) (by omega) (fun H h => by exact h)
      · refine x_iload_n B dX7_worked_14 rfl ?_
        refine x_aload_n B dX7_worked_15 rfl ?_
        refine x_iload_n B dX7_worked_16 rfl ?_
        refine x_iconst B dX7_worked_17 ?_
        refine x_mV B mvX7_51 (fun l => c_X7_ofUnit (by omega)) dX7_worked_18 rfl rfl (by decide) (by decide) (Nat.le_of_ble_eq_true rfl) PM.rv (fun r18 => ?_)
        refine x_iadd B dX7_worked_21 ?_
        refine x_istore_n B dX7_worked_22 (by decide) ?_
        refine x_iinc B dX7_worked_23 rfl (by decide) ?_
        refine x_goto (tgt := 4) B dX7_worked_26 (by decide) ?_
        exact ih (i + 1) _ (by rw [sumU_s hi0, ha]) (by omega) (by omega) (by omega)
  refine x_iconst B dX7_worked_0 ?_
  refine x_istore_n B dX7_worked_1 (by decide) ?_
  refine x_iconst B dX7_worked_2 ?_
  refine x_istore_n B dX7_worked_3 (by decide) ?_
  exact loop 9 0 0 rfl (by omega) (by omega) (by omega)

/-! ===== the class's State, walked: order, reasons, a batch's tick ===== -/
theorem c_X3_insertInOrder {G : xG} {l : Launch} {a κ : Nat} {β : Nat → Int → Int} {m od : Int → Int} {oc x : Int} (h0 : 0 ≤ m 3 ∧ m 3 ≤ 12) (h1 : 0 ≤ x ∧ x < m 3) (h2 : 0 ≤ oc ∧ oc ≤ x) (h3 : ∀ k, 0 ≤ k → k < oc → 0 ≤ od k ∧ od k < m 3) : CT G l yX3_insertInOrder cX3_insertInOrder 3 none ({ frames := 0, cells := 0, slots := 0, locals := 0 } : Room) 0 0 [.ref a, vi x] (PS G a κ β m od oc) (pV (PS G a κ β m (s_ins m od oc.toNat x) (oc + 1))) (AS a) := by
  refine x_met1 (own := RX3) (nm := "insertInOrder") (L := [(0, .ref a), (1, vi x)]) (by decide) rfl rfl (fun _ => rfl) (Nat.le_of_ble_eq_true rfl) rfl rfl ?_
  intro Γ B R
  have tail : ∀ (t : Int) (A : Int → Int), (0 ≤ t ∧ t ≤ oc) → A = (fun k => if t < k ∧ k ≤ oc then od (k - 1) else od k) → (s_ipos m od (m (548 + 10 * x + 3)) oc.toNat : Int) = t → XJ Γ 0 0 (PS G a κ β m A oc) 57 [(0, .ref a), (1, vi x), (2, vi t)] [] := by
    intro t A ht hA hp
    refine x_aload_n B dX3_insertInOrder_57 rfl ?_
    refine x_get B fgX3_37 dX3_insertInOrder_58 (fun _ h => ⟨_, PS.o h, rfl⟩) ?_
    refine x_iload_n B dX3_insertInOrder_61 rfl ?_
    refine x_iload_n B dX3_insertInOrder_62 rfl ?_
    refine x_iast B dX3_insertInOrder_63 (by omega) (by decide) (by unfold AS; omega) (PS.so (by omega)) ?_
    refine x_aload_n B dX3_insertInOrder_64 rfl ?_
    refine x_dup B dX3_insertInOrder_65 rfl ?_
    refine x_getI B fgX3_174 dX3_insertInOrder_66 PS.g9 (fun r66 => ?_)
    refine x_iconst B dX3_insertInOrder_69 ?_
    refine x_iadd B dX3_insertInOrder_70 ?_
    refine x_put B fpX3_174 dX3_insertInOrder_71 rfl rfl (by unfold AS; omega) (PS.p9 (by omega)) ?_
    exact x_retV B R dX3_insertInOrder_74 (fun H h => by rw [← s_ins_eq (n := oc) (by omega) ht.1 hp hA]; exact h)
  have inner : ∀ (t : Nat) (A : Int → Int), (t : Int) ≤ oc → A = (fun k => if (t : Int) < k ∧ k ≤ oc then od (k - 1) else od k) → s_ipos m od (m (548 + 10 * x + 3)) oc.toNat = s_ipos m od (m (548 + 10 * x + 3)) t → XJ Γ 0 0 (PS G a κ β m A oc) 5 [(0, .ref a), (1, vi x), (2, vi (t : Int))] [] := by
    intro t
    induction t with
    | zero =>
      intro A htn hA hp
      have e0 : s_ipos m od (m (548 + 10 * x + 3)) 0 = 0 := rfl
      refine x_iload_n B dX3_insertInOrder_5 rfl ?_
      refine x_if_le (tgt := 57) B dX3_insertInOrder_6 (by decide) (by omega) (fun c6 => ?_) (fun c6 => ?_)
      · exact tail _ A (by omega) hA (by omega)
      · omega
    | succ t iht =>
      intro A htn hA hp
      have e1 : s_ipos m od (m (548 + 10 * x + 3)) (t + 1) = if m (548 + 10 * od (t : Int) + 3) < m (548 + 10 * x + 3) then s_ipos m od (m (548 + 10 * x + 3)) t else t + 1 := rfl
      have eA : A (((t + 1 : Nat) : Int) - 1) = od (t : Int) := by
        rw [hA]
        dsimp only
        rw [if_neg (by omega)]
        congr 1
        omega
      have eo := h3 (t : Int) (by omega) (by omega)
      refine x_iload_n B dX3_insertInOrder_5 rfl ?_
      refine x_if_le (tgt := 57) B dX3_insertInOrder_6 (by decide) (by omega) (fun c6 => ?_) (fun c6 => ?_)
      · exact tail _ A (by omega) hA (by first | omega | (rw [hp, e1, if_neg (by omega)]))
      · refine x_aload_n B dX3_insertInOrder_9 rfl ?_
        refine x_get B fgX3_19 dX3_insertInOrder_10 (fun _ h => ⟨_, PS.o h, rfl⟩) ?_
        refine x_aload_n B dX3_insertInOrder_13 rfl ?_
        refine x_get B fgX3_37 dX3_insertInOrder_14 (fun _ h => ⟨_, PS.o h, rfl⟩) ?_
        refine x_iload_n B dX3_insertInOrder_17 rfl ?_
        refine x_iconst B dX3_insertInOrder_18 ?_
        refine x_isub B dX3_insertInOrder_19 ?_
        refine x_ialdR B dX3_insertInOrder_20 (by omega) (by decide) PS.ao (fun r20 => ?_)
        refine x_top eA ?_
        refine x_aald (j := 4) B dX3_insertInOrder_21 rfl (by omega) (by decide) (PS.ab (by omega)) ?_
        refine x_getI B fgX3_180 dX3_insertInOrder_22 (PS.gb3 (by omega)) (fun r22 => ?_)
        refine x_aload_n B dX3_insertInOrder_25 rfl ?_
        refine x_get B fgX3_19 dX3_insertInOrder_26 (fun _ h => ⟨_, PS.o h, rfl⟩) ?_
        refine x_iload_n B dX3_insertInOrder_29 rfl ?_
        refine x_aald (j := 4) B dX3_insertInOrder_30 rfl (by omega) (by decide) (PS.ab (by omega)) ?_
        refine x_getI B fgX3_180 dX3_insertInOrder_31 (PS.gb3 (by omega)) (fun r31 => ?_)
        refine x_icmp_ge (tgt := 57) B dX3_insertInOrder_34 (by decide) (by omega) (by omega) (fun c34 => ?_) (fun c34 => ?_)
        · exact tail _ A (by omega) hA (by first | omega | (rw [hp, e1, if_neg (by omega)]))
        · refine x_aload_n B dX3_insertInOrder_37 rfl ?_
          refine x_get B fgX3_37 dX3_insertInOrder_38 (fun _ h => ⟨_, PS.o h, rfl⟩) ?_
          refine x_iload_n B dX3_insertInOrder_41 rfl ?_
          refine x_aload_n B dX3_insertInOrder_42 rfl ?_
          refine x_get B fgX3_37 dX3_insertInOrder_43 (fun _ h => ⟨_, PS.o h, rfl⟩) ?_
          refine x_iload_n B dX3_insertInOrder_46 rfl ?_
          refine x_iconst B dX3_insertInOrder_47 ?_
          refine x_isub B dX3_insertInOrder_48 ?_
          refine x_ialdR B dX3_insertInOrder_49 (by omega) (by decide) PS.ao (fun r49 => ?_)
          refine x_iast B dX3_insertInOrder_50 (by omega) (by decide) (by unfold AS; omega) (PS.so (by omega)) ?_
          refine x_iinc B dX3_insertInOrder_51 rfl (by decide) ?_
          refine x_goto (tgt := 5) B dX3_insertInOrder_54 (by decide) ?_
          refine x_locs (xl_cons rfl (xl_cons rfl (xl_cons (i := 2) (v := vi (t : Int)) (by show some (vi (((t + 1 : Nat) : Int) + -1)) = _; rw [show ((t + 1 : Nat) : Int) + -1 = (t : Int) by omega]) xl_nil))) (iht _ (by omega) (by
            funext k
            rw [eA, hA]
            unfold up
            by_cases hk : k = ((t + 1 : Nat) : Int)
            · rw [if_pos hk, if_pos (by omega), hk]
              congr 1
              omega
            · rw [if_neg hk]
              dsimp only
              by_cases hk2 : ((t + 1 : Nat) : Int) < k ∧ k ≤ oc
              · rw [if_pos hk2, if_pos (by omega)]
              · rw [if_neg hk2, if_neg (by omega)]) (by rw [hp, e1, if_pos (by omega)]))
  refine x_aload_n B dX3_insertInOrder_0 rfl ?_
  refine x_getI B fgX3_174 dX3_insertInOrder_1 PS.g9 (fun r1 => ?_)
  refine x_istore_n B dX3_insertInOrder_4 (by decide) ?_
  have hnn := inner oc.toNat od (by omega) (by
      funext k
      rw [if_neg (by omega)]) rfl
  rw [show ((oc.toNat : Nat) : Int) = oc by omega] at hnn
  exact hnn
theorem c_X3_arrange {G : xG} {l : Launch} {a κ : Nat} {β : Nat → Int → Int} {m od : Int → Int} {oc : Int} (h1 : 0 ≤ m 3 ∧ m 3 ≤ 12) : CT G l yX3_arrange cX3_arrange 2 none ({ frames := 1, cells := 0, slots := 0, locals := 22 } : Room) 0 0 [.ref a] (PS G a κ β m od oc) (pV (PS G a κ β m (s_sort m od (m 3).toNat).1 ((s_sort m od (m 3).toNat).2 : Int))) (AS a) := by
  refine x_met1 (own := RX3) (nm := "arrange") (L := [(0, .ref a)]) (by decide) rfl rfl (fun _ => rfl) (Nat.le_of_ble_eq_true rfl) rfl rfl ?_
  intro Γ B R
  refine x_fact (fun H h => (PS.mok h).2.2.2) (fun hm => ?_)
  have loop : ∀ (k : Nat) (i n : Int) (o : Int → Int), o = (s_sort m od i.toNat).1 → n = ((s_sort m od i.toNat).2 : Int) → 0 ≤ i → i ≤ m 3 → m 3 - i < k → XJ Γ 0 0 (PS G a κ β m o n) 7 [(0, .ref a), (1, vi i)] [] := by
    intro k
    induction k with
    | zero => intro i n o _ _ _ _; omega
    | succ k ih =>
      intro i n o ho hn hi0 hi1 hk
      obtain ⟨q1, q2⟩ := s_sort_rg m od i.toNat
      rw [← ho] at q2
      refine x_iload_n B dX3_arrange_7 rfl ?_
      refine x_aload_n B dX3_arrange_8 rfl ?_
      refine x_getI B fgX3_57 dX3_arrange_9 PS.g8 (fun r9 => ?_)
      refine x_icmp_ge (tgt := 38) B dX3_arrange_12 (by decide) (by omega) (by omega) (fun c12 => ?_) (fun c12 => ?_)
      · exact x_retV B R dX3_arrange_38 (fun H h => by rw [show (m 3).toNat = i.toNat by omega, ← ho, ← hn]; exact h)
      · refine x_aload_n B dX3_arrange_15 rfl ?_
        refine x_get B fgX3_19 dX3_arrange_16 (fun _ h => ⟨_, PS.o h, rfl⟩) ?_
        refine x_iload_n B dX3_arrange_19 rfl ?_
        refine x_aald (j := 4) B dX3_arrange_20 rfl (by omega) (by decide) (PS.ab (by omega)) ?_
        refine x_mZ B mvX3_90 (fun l => c_X0_isActive (PS.ob (by omega)) hm) dX3_arrange_21 rfl rfl (by decide) (by decide) (Nat.le_of_ble_eq_true rfl) (PS.rvB (by omega)) ?_
        refine x_ifz_eq (tgt := 32) B dX3_arrange_24 (by decide) (fun c24 => ?_) (fun c24 => ?_)
        · refine x_iinc B dX3_arrange_32 rfl (by decide) ?_
          refine x_goto (tgt := 7) B dX3_arrange_35 (by decide) ?_
          exact ih (i + 1) _ _ (by
            rw [s_sort_s hi0, ← ho]
            first
              | (rw [if_pos (by assumption), show (s_sort m od i.toNat).2 = n.toNat by omega])
              | (rw [if_neg (by assumption)]; exact ho)) (by
            rw [s_sort_s hi0]
            first
              | (rw [if_pos (by assumption)]; simp only; omega)
              | (rw [if_neg (by assumption)]; omega)) (by omega) (by omega) (by omega)
        · refine x_aload_n B dX3_arrange_27 rfl ?_
          refine x_iload_n B dX3_arrange_28 rfl ?_
          refine x_mN B mvX3_177 (fun l => c_X3_insertInOrder (by omega) (by omega) (by omega) (fun k k0 k1 => by have := q2 k k0 (by omega); omega)) dX3_arrange_29 rfl rfl (by decide) (by decide) (Nat.le_of_ble_eq_true rfl) PS.rv ?_
          refine x_iinc B dX3_arrange_32 rfl (by decide) ?_
          refine x_goto (tgt := 7) B dX3_arrange_35 (by decide) ?_
          exact ih (i + 1) _ _ (by
            rw [s_sort_s hi0, ← ho]
            first
              | (rw [if_pos (by assumption), show (s_sort m od i.toNat).2 = n.toNat by omega])
              | (rw [if_neg (by assumption)]; exact ho)) (by
            rw [s_sort_s hi0]
            first
              | (rw [if_pos (by assumption)]; simp only; omega)
              | (rw [if_neg (by assumption)]; omega)) (by omega) (by omega) (by omega)
  refine x_aload_n B dX3_arrange_0 rfl ?_
  refine x_iconst B dX3_arrange_1 ?_
  refine x_put B fpX3_174 dX3_arrange_2 rfl rfl (by unfold AS; omega) (PS.p9 (by omega)) ?_
  refine x_iconst B dX3_arrange_5 ?_
  refine x_istore_n B dX3_arrange_6 (by decide) ?_
  exact loop 13 0 0 od rfl rfl (by omega) (by omega) (by omega)
/-- whether a unit is cleaned in a tick -/
def clM (m : Int → Int) : Nat → Int
  | 0 => 0
  | n + 1 => if 0 < m (5 + 6 * (n : Int) + 4) then 1 else clM m n
theorem clM_rg (m : Int → Int) : ∀ n : Nat, clM m n = 0 ∨ clM m n = 1
  | 0 => Or.inl rfl
  | n + 1 => by
    unfold clM
    split
    · exact Or.inr rfl
    · exact clM_rg m n
theorem clM_s {m : Int → Int} {i : Int} (h : 0 ≤ i) : clM m (i + 1).toNat = if 0 < m (5 + 6 * i + 4) then 1 else clM m i.toNat := by
  have e : (i + 1).toNat = i.toNat + 1 := by omega
  have e2 : ((i.toNat : Nat) : Int) = i := by omega
  rw [e, clM, e2]
theorem clM_0 {m : Int → Int} : ∀ {n : Nat}, clM m n = 0 → ∀ u : Int, 0 ≤ u → u < n → ¬ 0 < m (5 + 6 * u + 4)
  | 0, _, u, u0, u1 => by omega
  | n + 1, h, u, u0, u1 => by
    unfold clM at h
    split at h
    · omega
    · next hn =>
      by_cases e : u = n
      · rw [e]; exact hn
      · exact clM_0 h u u0 (by omega)
theorem c_X3_cleanUnits {G : xG} {l : Launch} {a κ : Nat} {β : Nat → Int → Int} {m od : Int → Int} {oc : Int} (h1 : 0 ≤ m 2 ∧ m 2 ≤ 8) (h2 : ∀ u, 0 ≤ u → u < m 2 → 0 ≤ m (5 + 6 * u + 4)) : CT G l yX3_cleanUnits cX3_cleanUnits 3 (some .boolean) ({ frames := 0, cells := 0, slots := 0, locals := 0 } : Room) 0 0 [.ref a] (PS G a κ β m od oc) (pZ (clM m (m 2).toNat = 1) (PS G a κ β (s_clean m (m 2)) od oc)) (AS a) := by
  refine x_met1 (own := RX3) (nm := "cleanUnits") (L := [(0, .ref a)]) (by decide) rfl rfl (fun _ => rfl) (Nat.le_of_ble_eq_true rfl) rfl rfl ?_
  intro Γ B R
  have loop : ∀ (n : Nat) (i z : Int) (m' : Int → Int), m' = s_clean m i → z = clM m i.toNat → 0 ≤ i → i ≤ m 2 → m 2 - i < n → XJ Γ 0 0 (PS G a κ β m' od oc) 4 [(0, .ref a), (1, vi z), (2, vi i)] [] := by
    intro n
    induction n with
    | zero => intro i z m' _ _ _ _; omega
    | succ n ih =>
      intro i z m' hm hz hi0 hi1 hn
      have e2 : m' 2 = m 2 := by rw [hm]; exact s_clean_ne (by omega)
      have e4 : m' (5 + 6 * i + 4) = m (5 + 6 * i + 4) := by rw [hm]; exact s_clean_ne (by omega)
      have hzr := clM_rg m i.toNat
      have hs : ∀ k, s_clean m (i + 1) k = if k = 5 + 6 * i + 4 then (if 0 < m (5 + 6 * i + 4) then m (5 + 6 * i + 4) - 1 else 0) else s_clean m i k := fun k => by
        unfold s_clean
        by_cases h : k = 5 + 6 * i + 4
        · rw [if_pos h, if_pos (by omega), h]
        · rw [if_neg h]
          by_cases hq : 5 ≤ k ∧ k < 5 + 6 * i ∧ (k - 5) % 6 = 4
          · rw [if_pos hq, if_pos (show 5 ≤ k ∧ k < 5 + 6 * (i + 1) ∧ (k - 5) % 6 = 4 by omega)]
          · rw [if_neg hq, if_neg (show ¬ (5 ≤ k ∧ k < 5 + 6 * (i + 1) ∧ (k - 5) % 6 = 4) by omega)]
      refine x_iload_n B dX3_cleanUnits_4 rfl ?_
      refine x_aload_n B dX3_cleanUnits_5 rfl ?_
      refine x_getI B fgX3_50 dX3_cleanUnits_6 PS.g7 (fun r6 => ?_)
      refine x_icmp_ge (tgt := 47) B dX3_cleanUnits_9 (by decide) (by omega) (by omega) (fun c9 => ?_) (fun c9 => ?_)
      · refine x_iload_n B dX3_cleanUnits_47 rfl ?_
        exact x_retZ B R dX3_cleanUnits_48 (by rw [hz, show (m 2).toNat = i.toNat by omega]; rcases hzr with hzr | hzr <;> rw [hzr] <;> rfl) (fun H h => by rw [hm, show i = m 2 by omega] at h; exact h)
      · have hi4 := h2 i hi0 (by omega)
        refine x_aload_n B dX3_cleanUnits_12 rfl ?_
        refine x_get B fgX3_11 dX3_cleanUnits_13 (fun _ h => ⟨_, PS.o h, rfl⟩) ?_
        refine x_iload_n B dX3_cleanUnits_16 rfl ?_
        refine x_aald (j := 3) B dX3_cleanUnits_17 rfl (by omega) (by decide) (PS.au (by omega)) ?_
        refine x_getI B fgX3_123 dX3_cleanUnits_18 (PS.gu3 (by omega)) (fun r18 => ?_)
        refine x_if_le (tgt := 41) B dX3_cleanUnits_21 (by decide) (by omega) (fun c21 => ?_) (fun c21 => ?_)
        · refine x_iinc B dX3_cleanUnits_41 rfl (by decide) ?_
          refine x_goto (tgt := 4) B dX3_cleanUnits_44 (by decide) ?_
          exact ih (i + 1) _ _ (by
            funext k
            rw [hs k, ← hm, ← e4]
            by_cases h : k = 5 + 6 * i + 4
            · rw [if_pos h]
              first
                | (rw [if_pos (by omega), up_eq h])
                | (rw [if_neg (by omega), h]; omega)
            · first
                | (rw [if_neg h]; done)
                | (rw [if_neg h]; exact up_ne h)) (by
            rw [clM_s hi0]
            first
              | rw [if_pos (by omega)]
              | (rw [if_neg (by omega)]; exact hz)) (by omega) (by omega) (by omega)
        · refine x_aload_n B dX3_cleanUnits_24 rfl ?_
          refine x_get B fgX3_11 dX3_cleanUnits_25 (fun _ h => ⟨_, PS.o h, rfl⟩) ?_
          refine x_iload_n B dX3_cleanUnits_28 rfl ?_
          refine x_aald (j := 3) B dX3_cleanUnits_29 rfl (by omega) (by decide) (PS.au (by omega)) ?_
          refine x_dup B dX3_cleanUnits_30 rfl ?_
          refine x_getI B fgX3_123 dX3_cleanUnits_31 (PS.gu3 (by omega)) (fun r31 => ?_)
          refine x_iconst B dX3_cleanUnits_34 ?_
          refine x_isub B dX3_cleanUnits_35 ?_
          refine x_put B fpX3_123 dX3_cleanUnits_36 rfl rfl (by unfold AS uA; omega) (PS.pu3 (by omega) (by omega)) ?_
          refine x_iconst B dX3_cleanUnits_39 ?_
          refine x_istore_n B dX3_cleanUnits_40 (by decide) ?_
          refine x_iinc B dX3_cleanUnits_41 rfl (by decide) ?_
          refine x_goto (tgt := 4) B dX3_cleanUnits_44 (by decide) ?_
          exact ih (i + 1) _ _ (by
            funext k
            rw [hs k, ← hm, ← e4]
            by_cases h : k = 5 + 6 * i + 4
            · rw [if_pos h]
              first
                | (rw [if_pos (by omega), up_eq h])
                | (rw [if_neg (by omega), h]; omega)
            · first
                | (rw [if_neg h]; done)
                | (rw [if_neg h]; exact up_ne h)) (by
            rw [clM_s hi0]
            first
              | rw [if_pos (by omega)]
              | (rw [if_neg (by omega)]; exact hz)) (by omega) (by omega) (by omega)
  refine x_iconst B dX3_cleanUnits_0 ?_
  refine x_istore_n B dX3_cleanUnits_1 (by decide) ?_
  refine x_iconst B dX3_cleanUnits_2 ?_
  refine x_istore_n B dX3_cleanUnits_3 (by decide) ?_
  exact loop 9 0 0 m (by funext k; exact (s_clean_ne (by omega)).symm) rfl (by omega) (by omega) (by omega)
theorem c_X3_reasonToWait {G : xG} {l : Launch} {a κ : Nat} {β : Nat → Int → Int} {m od : Int → Int} {oc x t : Int} (h0 : 0 ≤ m 2 ∧ m 2 ≤ 8) (h1 : rdC m x) (h2 : 0 ≤ t ∧ t ≤ 1) (h3 : -1 ≤ m (548 + 10 * x + 4) ∧ m (548 + 10 * x + 4) < m 3) (h4 : 0 ≤ m (548 + 10 * x + 7)) : CT G l yX3_reasonToWait cX3_reasonToWait 5 (some .int) ({ frames := 3, cells := 0, slots := 0, locals := 70 } : Room) 0 0 [.ref a, vi x, vi t] (PS G a κ β m od oc) (pI (s_reason m t x) (PS G a κ β m od oc)) (AS a) := by
  refine x_met1 (own := RX3) (nm := "reasonToWait") (L := [(0, .ref a), (1, vi x), (2, vi t)]) (by decide) rfl rfl (fun _ => rfl) (Nat.le_of_ble_eq_true rfl) rfl rfl ?_
  intro Γ B R
  refine x_fact (fun H h => (PS.mok h).2.2.2) (fun hm => ?_)
  have h1' := h1
  unfold rdC at h1'
  have hR : s_reason m t x = if (m (548 + 10 * x + 6) = 0 ∧ m (548 + 10 * x + 7) = 0 ∧ m (548 + 10 * x + 4) ≠ -1 ∧ m (548 + 10 * m (548 + 10 * x + 4) + 5) ≠ 6) then 1 else if m (548 + 10 * x + 8) = -1 ∧ s_uFor m t x ((phB m x (m (548 + 10 * x + 6))) % 4) = -1 then 2 else if ((phB m x (m (548 + 10 * x + 6)) / 512 % 4 - 1) ≠ -1 ∧ m (53 + (phB m x (m (548 + 10 * x + 6)) / 512 % 4 - 1)) ≠ -1 ∧ m (53 + (phB m x (m (548 + 10 * x + 6)) / 512 % 4 - 1)) ≠ x) then 3 else 0 := rfl
  have tail44 : ¬ (m (548 + 10 * x + 6) = 0 ∧ m (548 + 10 * x + 7) = 0 ∧ m (548 + 10 * x + 4) ≠ -1 ∧ m (548 + 10 * m (548 + 10 * x + 4) + 5) ≠ 6) → XJ Γ 0 0 (PS G a κ β m od oc) 44 [(0, .ref a), (1, vi x), (2, vi t), (3, .ref (bA a x))] [] := by
    intro hw
    rw [if_neg hw] at hR
    have tail64 : ¬ (m (548 + 10 * x + 8) = -1 ∧ s_uFor m t x ((phB m x (m (548 + 10 * x + 6))) % 4) = -1) → XJ Γ 0 0 (PS G a κ β m od oc) 64 [(0, .ref a), (1, vi x), (2, vi t), (3, .ref (bA a x))] [] := by
      intro hu
      rw [if_neg hu] at hR
      refine x_aload_n B dX3_reasonToWait_64 rfl ?_
      refine x_aload_n B dX3_reasonToWait_65 rfl ?_
      refine x_iconst B dX3_reasonToWait_66 ?_
      refine x_mV B mvX3_104 (fun l => c_X3_valueOf h1 (by omega)) dX3_reasonToWait_67 rfl rfl (by decide) (by decide) (Nat.le_of_ble_eq_true rfl) PS.rv (fun r67 => ?_)
      refine x_top (show _ = (phB m x (m (548 + 10 * x + 6)) / 512 % 4 - 1) from rfl) ?_
      refine x_istore B dX3_reasonToWait_70 (by decide) ?_
      refine x_iload B dX3_reasonToWait_72 rfl ?_
      refine x_snZ B mnX3_195 nestX3_195 (fun l => c_X6_isPiece (by omega)) dX3_reasonToWait_74 rfl rfl (by decide) (by decide) (Nat.le_of_ble_eq_true rfl) ?_
      refine x_ifz_eq (tgt := 104) B dX3_reasonToWait_77 (by decide) (fun c77 => ?_) (fun c77 => ?_)
      · refine x_iconst B dX3_reasonToWait_104 ?_
        exact x_retI B R dX3_reasonToWait_105 (by rw [hR]; first | rw [if_pos (by omega)] | rw [if_neg (by omega)]) (by rw [hR]; split <;> omega) (fun H h => by exact h)
      · refine x_aload_n B dX3_reasonToWait_80 rfl ?_
        refine x_get B fgX3_23 dX3_reasonToWait_81 (fun _ h => ⟨_, PS.o h, rfl⟩) ?_
        refine x_iload B dX3_reasonToWait_84 rfl ?_
        refine x_ialdR B dX3_reasonToWait_86 (by omega) (by decide) PS.ah (fun r86 => ?_)
        refine x_iconst B dX3_reasonToWait_87 ?_
        refine x_icmp_eq (tgt := 104) B dX3_reasonToWait_88 (by decide) (by omega) (by omega) (fun c88 => ?_) (fun c88 => ?_)
        · refine x_iconst B dX3_reasonToWait_104 ?_
          exact x_retI B R dX3_reasonToWait_105 (by rw [hR]; first | rw [if_pos (by omega)] | rw [if_neg (by omega)]) (by rw [hR]; split <;> omega) (fun H h => by exact h)
        · refine x_aload_n B dX3_reasonToWait_91 rfl ?_
          refine x_get B fgX3_23 dX3_reasonToWait_92 (fun _ h => ⟨_, PS.o h, rfl⟩) ?_
          refine x_iload B dX3_reasonToWait_95 rfl ?_
          refine x_ialdR B dX3_reasonToWait_97 (by omega) (by decide) PS.ah (fun r97 => ?_)
          refine x_iload_n B dX3_reasonToWait_98 rfl ?_
          refine x_icmp_eq (tgt := 104) B dX3_reasonToWait_99 (by decide) (by omega) (by omega) (fun c99 => ?_) (fun c99 => ?_)
          · refine x_iconst B dX3_reasonToWait_104 ?_
            exact x_retI B R dX3_reasonToWait_105 (by rw [hR]; first | rw [if_pos (by omega)] | rw [if_neg (by omega)]) (by rw [hR]; split <;> omega) (fun H h => by exact h)
          · refine x_iconst B dX3_reasonToWait_102 ?_
            exact x_retI B R dX3_reasonToWait_103 (by rw [hR]; first | rw [if_pos (by omega)] | rw [if_neg (by omega)]) (by rw [hR]; split <;> omega) (fun H h => by exact h)
    refine x_aload_n B dX3_reasonToWait_44 rfl ?_
    refine x_getI B fgX3_117 dX3_reasonToWait_45 (PS.gb8 (by omega)) (fun r45 => ?_)
    refine x_iconst B dX3_reasonToWait_48 ?_
    refine x_icmp_ne (tgt := 64) B dX3_reasonToWait_49 (by decide) (by omega) (by omega) (fun c49 => ?_) (fun c49 => ?_)
    · exact tail64 (by omega)
    · refine x_aload_n B dX3_reasonToWait_52 rfl ?_
      refine x_aload_n B dX3_reasonToWait_53 rfl ?_
      refine x_iload_n B dX3_reasonToWait_54 rfl ?_
      refine x_mV B mvX3_192 (fun l => c_X3_unitFor (by omega) h1 (by omega)) dX3_reasonToWait_55 rfl rfl (by decide) (by decide) (Nat.le_of_ble_eq_true rfl) PS.rv (fun r55 => ?_)
      refine x_iconst B dX3_reasonToWait_58 ?_
      refine x_icmp_ne (tgt := 64) B dX3_reasonToWait_59 (by decide) (by omega) (by omega) (fun c59 => ?_) (fun c59 => ?_)
      · exact tail64 (by omega)
      · refine x_iconst B dX3_reasonToWait_62 ?_
        exact x_retI B R dX3_reasonToWait_63 (by rw [hR, if_pos (by omega)]) (by rw [hR, if_pos (by omega)]; omega) (fun H h => by exact h)
  refine x_aload_n B dX3_reasonToWait_0 rfl ?_
  refine x_get B fgX3_19 dX3_reasonToWait_1 (fun _ h => ⟨_, PS.o h, rfl⟩) ?_
  refine x_iload_n B dX3_reasonToWait_4 rfl ?_
  refine x_aald (j := 4) B dX3_reasonToWait_5 rfl (by omega) (by decide) (PS.ab (by omega)) ?_
  refine x_astore_n B dX3_reasonToWait_6 (by decide) ?_
  refine x_aload_n B dX3_reasonToWait_7 rfl ?_
  refine x_mZ B mvX3_189 (fun l => c_X0_hasBegun (PS.ob (by omega)) hm) dX3_reasonToWait_8 rfl rfl (by decide) (by decide) (Nat.le_of_ble_eq_true rfl) (PS.rvB (by omega)) ?_
  refine x_ifz_ne (tgt := 44) B dX3_reasonToWait_11 (by decide) (fun c11 => ?_) (fun c11 => ?_)
  · exact x_locs (xl_cons rfl (xl_cons rfl (xl_cons rfl (xl_cons rfl xl_nil)))) (tail44 (by omega))
  · refine x_aload_n B dX3_reasonToWait_14 rfl ?_
    refine x_aload_n B dX3_reasonToWait_15 rfl ?_
    refine x_getI B fgX3_165 dX3_reasonToWait_16 (PS.gb4 (by omega)) (fun r16 => ?_)
    refine x_mZ B mvX3_86 (fun l => c_X3_hasBatch (by omega)) dX3_reasonToWait_19 rfl rfl (by decide) (by decide) (Nat.le_of_ble_eq_true rfl) PS.rv ?_
    refine x_ifz_eq (tgt := 44) B dX3_reasonToWait_22 (by decide) (fun c22 => ?_) (fun c22 => ?_)
    · exact x_locs (xl_cons rfl (xl_cons rfl (xl_cons rfl (xl_cons rfl xl_nil)))) (tail44 (by omega))
    · refine x_aload_n B dX3_reasonToWait_25 rfl ?_
      refine x_get B fgX3_19 dX3_reasonToWait_26 (fun _ h => ⟨_, PS.o h, rfl⟩) ?_
      refine x_aload_n B dX3_reasonToWait_29 rfl ?_
      refine x_getI B fgX3_165 dX3_reasonToWait_30 (PS.gb4 (by omega)) (fun r30 => ?_)
      refine x_aald (j := 4) B dX3_reasonToWait_33 rfl (by omega) (by decide) (PS.ab (by omega)) ?_
      refine x_getI B fgX3_127 dX3_reasonToWait_34 (PS.gb5 (by omega)) (fun r34 => ?_)
      refine x_bipush B dX3_reasonToWait_37 (by decide) ?_
      refine x_icmp_eq (tgt := 44) B dX3_reasonToWait_39 (by decide) (by omega) (by omega) (fun c39 => ?_) (fun c39 => ?_)
      · exact x_locs (xl_cons rfl (xl_cons rfl (xl_cons rfl (xl_cons rfl xl_nil)))) (tail44 (by omega))
      · refine x_iconst B dX3_reasonToWait_42 ?_
        exact x_retI B R dX3_reasonToWait_43 (by rw [hR, if_pos (by omega)]) (by rw [hR, if_pos (by omega)]; omega) (fun H h => by exact h)
theorem c_X3_takeUnit {G : xG} {l : Launch} {a κ : Nat} {β : Nat → Int → Int} {m od : Int → Int} {oc x : Int} (h0 : 0 ≤ m 2 ∧ m 2 ≤ 8) (h1 : rdC m x) : CT G l yX3_takeUnit cX3_takeUnit 4 (some .boolean) ({ frames := 3, cells := 0, slots := 0, locals := 70 } : Room) 0 0 [.ref a, vi x] (PS G a κ β m od oc) (pZ (m (548 + 10 * x + 8) = -1 ∧ s_uFor m 0 x ((phB m x (m (548 + 10 * x + 6))) % 4) ≠ -1) (PS G a κ β (if m (548 + 10 * x + 8) = -1 ∧ s_uFor m 0 x ((phB m x (m (548 + 10 * x + 6))) % 4) ≠ -1 then s_take m x (s_uFor m 0 x ((phB m x (m (548 + 10 * x + 6))) % 4)) else m) od oc)) (AS a) := by
  refine x_met1 (own := RX3) (nm := "takeUnit") (L := [(0, .ref a), (1, vi x)]) (by decide) rfl rfl (fun _ => rfl) (Nat.le_of_ble_eq_true rfl) rfl rfl ?_
  intro Γ B R
  have h1' := h1
  unfold rdC at h1'
  have hr := lowU_rg (fun u => ((m (5 + 6 * u + 2) = -1 ∧ m (5 + 6 * u + 3) = 0 ∧ m (5 + 6 * u + 4) ≤ 0) ∧ m (5 + 6 * u + 0) = ((phB m x (m (548 + 10 * x + 6))) % 4) ∧ (m (548 + 10 * x + 2)) ≤ m (5 + 6 * u + 1))) (m 2).toNat 0 (by omega)
  have hr' : s_uFor m 0 x ((phB m x (m (548 + 10 * x + 6))) % 4) = -1 ∨ (0 ≤ s_uFor m 0 x ((phB m x (m (548 + 10 * x + 6))) % 4) ∧ s_uFor m 0 x ((phB m x (m (548 + 10 * x + 6))) % 4) < m 2) := by
    unfold s_uFor
    rcases hr with hr | ⟨r1, r2, -⟩
    · exact Or.inl hr
    · right; omega
  have e2 : up m (548 + 10 * x + 8) (s_uFor m 0 x ((phB m x (m (548 + 10 * x + 6))) % 4)) 2 = m 2 := up_ne (by omega)
  refine x_aload_n B dX3_takeUnit_0 rfl ?_
  refine x_get B fgX3_19 dX3_takeUnit_1 (fun _ h => ⟨_, PS.o h, rfl⟩) ?_
  refine x_iload_n B dX3_takeUnit_4 rfl ?_
  refine x_aald (j := 4) B dX3_takeUnit_5 rfl (by omega) (by decide) (PS.ab (by omega)) ?_
  refine x_astore_n B dX3_takeUnit_6 (by decide) ?_
  refine x_aload_n B dX3_takeUnit_7 rfl ?_
  refine x_getI B fgX3_117 dX3_takeUnit_8 (PS.gb8 (by omega)) (fun r8 => ?_)
  refine x_iconst B dX3_takeUnit_11 ?_
  refine x_icmp_eq (tgt := 17) B dX3_takeUnit_12 (by decide) (by omega) (by omega) (fun c12 => ?_) (fun c12 => ?_)
  · refine x_aload_n B dX3_takeUnit_17 rfl ?_
    refine x_aload_n B dX3_takeUnit_18 rfl ?_
    refine x_iconst B dX3_takeUnit_19 ?_
    refine x_mV B mvX3_192 (fun l => c_X3_unitFor (by omega) h1 (by omega)) dX3_takeUnit_20 rfl rfl (by decide) (by decide) (Nat.le_of_ble_eq_true rfl) PS.rv (fun r20 => ?_)
    refine x_istore_n B dX3_takeUnit_23 (by decide) ?_
    refine x_iload_n B dX3_takeUnit_24 rfl ?_
    refine x_iconst B dX3_takeUnit_25 ?_
    refine x_icmp_ne (tgt := 31) B dX3_takeUnit_26 (by decide) (by omega) (by omega) (fun c26 => ?_) (fun c26 => ?_)
    · refine x_aload_n B dX3_takeUnit_31 rfl ?_
      refine x_iload_n B dX3_takeUnit_32 rfl ?_
      refine x_put B fpX3_117 dX3_takeUnit_33 rfl rfl (by unfold AS bA; omega) (PS.pb8 (by omega) (by omega)) ?_
      refine x_aload_n B dX3_takeUnit_36 rfl ?_
      refine x_get B fgX3_11 dX3_takeUnit_37 (fun _ h => ⟨_, PS.o h, rfl⟩) ?_
      refine x_iload_n B dX3_takeUnit_40 rfl ?_
      refine x_aald (j := 3) B dX3_takeUnit_41 rfl (by omega) (by decide) (PS.au (by omega)) ?_
      refine x_iload_n B dX3_takeUnit_42 rfl ?_
      refine x_put B fpX3_83 dX3_takeUnit_43 rfl rfl (by unfold AS uA; omega) (PS.pu2 (by omega) (by omega)) ?_
      refine x_aload_n B dX3_takeUnit_46 rfl ?_
      refine x_get B fgX3_33 dX3_takeUnit_47 (fun _ h => ⟨_, PS.o h, rfl⟩) ?_
      refine x_aload_n B dX3_takeUnit_50 rfl ?_
      refine x_getI B fgX3_72 dX3_takeUnit_51 PS.g10 (fun r51 => ?_)
      refine x_iload_n B dX3_takeUnit_54 rfl ?_
      refine x_iconst B dX3_takeUnit_55 ?_
      refine x_jadd B mvX3_155 dX3_takeUnit_56 (by omega) (by omega) (by decide) (Nat.le_of_ble_eq_true rfl) ?_
      refine x_iconst B dX3_takeUnit_59 ?_
      exact x_retZ B R dX3_takeUnit_60 ((bz_t (by omega)).symm) (fun H h => by first | (rw [if_pos (by omega)]; exact h) | (rw [if_neg (by omega)]; exact h))
    · refine x_iconst B dX3_takeUnit_29 ?_
      exact x_retZ B R dX3_takeUnit_30 ((bz_f (by omega)).symm) (fun H h => by first | (rw [if_pos (by omega)]; exact h) | (rw [if_neg (by omega)]; exact h))
  · refine x_iconst B dX3_takeUnit_15 ?_
    exact x_retZ B R dX3_takeUnit_16 ((bz_f (by omega)).symm) (fun H h => by first | (rw [if_pos (by omega)]; exact h) | (rw [if_neg (by omega)]; exact h))
theorem c_X3_endPhase {G : xG} {l : Launch} {a κ : Nat} {β : Nat → Int → Int} {m od : Int → Int} {oc W x : Int} (h1 : Iv0 m W) (h2 : 0 ≤ x ∧ x < m 3) (h3 : m (548 + 10 * x + 6) < lnB m x) : CT G l yX3_endPhase cX3_endPhase 4 none ({ frames := 3, cells := 0, slots := 0, locals := 65 } : Room) 0 0 [.ref a, vi x] (PS G a κ β m od oc) (pV (PS G a κ β (s_ends m x (phB m x (m (548 + 10 * x + 6)))) od oc)) (AS a) := by
  refine x_met1 (own := RX3) (nm := "endPhase") (L := [(0, .ref a), (1, vi x)]) (by decide) rfl rfl (fun _ => rfl) (Nat.le_of_ble_eq_true rfl) rfl rfl ?_
  intro Γ B R
  refine x_fact (fun H h => h.2.2.1) (fun hbk => ?_)
  have hn := h1.n
  have hb := h1.b h2.1 h2.2
  obtain ⟨hp, hl, hph⟩ := h1.page h2.1 h2.2
  have hrd := h1.rdC h2.1 h2.2 h3
  unfold okB0 at hb
  have hv := h1.vs (r := m (548 + 10 * x + 0)) (by omega) (by omega)
  have hpk := hph _ hb.2.2.2.2.2.2.1.1 h3
  have hF := hb.2.2.2.2.2.2.2.2.2
  have hpk' := hpk
  unfold okP at hpk'
  obtain ⟨-, hfm, hfd⟩ := fA_rg (k := m (548 + 10 * x + 6)) (z := m (548 + 10 * x + 9)) (y := phB m x (m (548 + 10 * x + 6)) / 2048 % 128) (by omega) hF (by omega)
  have es : ∀ k, (k < 53 ∨ 56 ≤ k) → s_relS m x 3 k = m k := fun k hk => s_relS_ne (by omega)
  have hrdS : rdC (s_relS m x 3) x ∧ phB (s_relS m x 3) x ((s_relS m x 3) (548 + 10 * x + 6)) = phB m x (m (548 + 10 * x + 6)) := by
    obtain ⟨p1, p2, p3⟩ := page_fr (m' := s_relS m x 3) hp (es _ (by omega)) (es _ (by omega)) (fun k k0 k1 => es _ (by omega))
    unfold rdC at *
    rw [es 3 (by omega), es (548 + 10 * x + 0) (by omega), es (548 + 10 * x + 1) (by omega), es (548 + 10 * x + 6) (by omega), es (56 + m (548 + 10 * x + 0)) (by omega), p2, p3 _ (by omega) (by omega)]
    exact ⟨hrd, rfl⟩
  have e3S := es 3 (by omega)
  have tail : XJ Γ 0 0 (PS G a κ β (s_pe m x (phB m x (m (548 + 10 * x + 6)))) od oc) 66 [(0, .ref a), (1, vi x), (2, .ref (bA a x)), (3, vi (phB m x (m (548 + 10 * x + 6)) % 4))] [] := by
    have eS : s_ends m x (phB m x (m (548 + 10 * x + 6))) = if (s_pe m x (phB m x (m (548 + 10 * x + 6)))) (548 + 10 * x + 6) = (s_pe m x (phB m x (m (548 + 10 * x + 6)))) (62 + 9 * (s_pe m x (phB m x (m (548 + 10 * x + 6)))) (548 + 10 * x + 0) + (s_pe m x (phB m x (m (548 + 10 * x + 6)))) (548 + 10 * x + 1) - 1) then s_endsBy (s_pe m x (phB m x (m (548 + 10 * x + 6)))) x 6 6 else if (s_pe m x (phB m x (m (548 + 10 * x + 6)))) (548 + 10 * x + 5) = 3 then s_endsBy (s_pe m x (phB m x (m (548 + 10 * x + 6)))) x 4 4 else if phB (s_pe m x (phB m x (m (548 + 10 * x + 6)))) x ((s_pe m x (phB m x (m (548 + 10 * x + 6)))) (548 + 10 * x + 6)) % 4 = phB m x (m (548 + 10 * x + 6)) % 4 then s_pe m x (phB m x (m (548 + 10 * x + 6))) else s_relU (s_pe m x (phB m x (m (548 + 10 * x + 6)))) x := rfl
    have f := pe_B (m := m) (p := phB m x (m (548 + 10 * x + 6))) (b := x) (by omega)
    have e0 := f 0 (by omega)
    have e1 := f 1 (by omega)
    have e5 := f 5 (by omega)
    have e6 := f 6 (by omega)
    have e8 := f 8 (by omega)
    simp only [show (8 : Int) ≠ 6 by decide, show (8 : Int) ≠ 7 by decide, show (8 : Int) ≠ 9 by decide, show (5 : Int) ≠ 6 by decide, show (5 : Int) ≠ 7 by decide, show (5 : Int) ≠ 9 by decide, show (0 : Int) ≠ 6 by decide, show (0 : Int) ≠ 7 by decide, show (0 : Int) ≠ 9 by decide, show (1 : Int) ≠ 6 by decide, show (1 : Int) ≠ 7 by decide, show (1 : Int) ≠ 9 by decide, if_false, if_true] at e0 e1 e5 e6 e8
    have pne : ∀ k, (k < 4 ∨ (56 ≤ k ∧ k < 548)) → s_pe m x (phB m x (m (548 + 10 * x + 6))) k = m k := fun k hk => pe_ne (by omega) (by omega) (by omega) (by omega) (by omega) (by omega) (by omega)
    have e2' := pne 2 (by omega)
    have e3' := pne 3 (by omega)
    have e56 := pne (56 + m (548 + 10 * x + 0)) (by omega)
    obtain ⟨pg5, ln5, ph5⟩ := page_fr (m' := s_pe m x (phB m x (m (548 + 10 * x + 6)))) hp e0 e1 (fun k k0 k1 => pne _ (by omega))
    have hpv : pgB m x = 9 * m (548 + 10 * x + 0) + m (548 + 10 * x + 1) - 1 := rfl
    have eln : (s_pe m x (phB m x (m (548 + 10 * x + 6)))) (62 + 9 * (s_pe m x (phB m x (m (548 + 10 * x + 6)))) (548 + 10 * x + 0) + (s_pe m x (phB m x (m (548 + 10 * x + 6)))) (548 + 10 * x + 1) - 1) = lnB m x := by
      rw [← ln5]
      unfold lnB pgB
      congr 1
      omega
    have ebk : β 5 (9 * (s_pe m x (phB m x (m (548 + 10 * x + 6)))) (548 + 10 * x + 0) + (s_pe m x (phB m x (m (548 + 10 * x + 6)))) (548 + 10 * x + 1) - 1) = lnB m x := by
      rw [e0, e1]
      have hl' : lnB m x = m (62 + (9 * m (548 + 10 * x + 0) + m (548 + 10 * x + 1) - 1)) := rfl
      rw [hl']
      exact (hbk (m (548 + 10 * x + 0)) (m (548 + 10 * x + 1)) (by omega) (by omega) (by omega) (by omega) (by omega)).1
    have hrd5 : m (548 + 10 * x + 6) + 1 < lnB m x → rdC (s_pe m x (phB m x (m (548 + 10 * x + 6)))) x := by
      intro q
      unfold rdC
      rw [e3', e0, e1, e6, e56, ln5]
      unfold rdC at hrd
      omega
    generalize s_pe m x (phB m x (m (548 + 10 * x + 6))) = m5 at *
    generalize phB m x (m (548 + 10 * x + 6)) = p at *
    refine x_aload_n B dX3_endPhase_66 rfl ?_
    refine x_getI B fgX3_145 dX3_endPhase_67 (PS.gb6 (by omega)) (fun r67 => ?_)
    refine x_aload_n B dX3_endPhase_70 rfl ?_
    refine x_get B fgX3_44 dX3_endPhase_71 (fun _ h => ⟨_, PS.o h, rfl⟩) ?_
    refine x_aload_n B dX3_endPhase_74 rfl ?_
    refine x_getI B fgX3_133 dX3_endPhase_75 (PS.gb0 (by omega)) (fun r75 => ?_)
    refine x_aload_n B dX3_endPhase_78 rfl ?_
    refine x_getI B fgX3_136 dX3_endPhase_79 (PS.gb1 (by omega)) (fun r79 => ?_)
    refine x_sV B msX3_139 (fun l => c_X1_pageOf (by omega) (by omega)) dX3_endPhase_82 rfl rfl (by decide) (by decide) (Nat.le_of_ble_eq_true rfl) (fun r82 => ?_)
    refine x_mV B mvX3_215 (fun l => c_X1_lengthOf PS.bk (by omega)) dX3_endPhase_85 rfl rfl (by decide) (by decide) (Nat.le_of_ble_eq_true rfl) PS.rvK (fun r85 => ?_)
    refine x_top ebk ?_
    refine x_icmp_lt (tgt := 103) B dX3_endPhase_88 (by decide) (by omega) (by omega) (fun c88 => ?_) (fun c88 => ?_)
    · refine x_aload_n B dX3_endPhase_103 rfl ?_
      refine x_getI B fgX3_127 dX3_endPhase_104 (PS.gb5 (by omega)) (fun r104 => ?_)
      refine x_iconst B dX3_endPhase_107 ?_
      refine x_icmp_ne (tgt := 121) B dX3_endPhase_108 (by decide) (by omega) (by omega) (fun c108 => ?_) (fun c108 => ?_)
      · have hrd5' := hrd5 (by omega)
        refine x_aload_n B dX3_endPhase_121 rfl ?_
        refine x_aload_n B dX3_endPhase_122 rfl ?_
        refine x_iconst B dX3_endPhase_123 ?_
        refine x_mV B mvX3_104 (fun l => c_X3_valueOf hrd5' (by omega)) dX3_endPhase_124 rfl rfl (by decide) (by decide) (Nat.le_of_ble_eq_true rfl) PS.rv (fun r124 => ?_)
        refine x_top (show _ = phB m5 x (m5 (548 + 10 * x + 6)) % 4 from rfl) ?_
        refine x_iload_n B dX3_endPhase_127 rfl ?_
        refine x_icmp_eq (tgt := 136) B dX3_endPhase_128 (by decide) (by omega) (by omega) (fun c128 => ?_) (fun c128 => ?_)
        · exact x_retV B R dX3_endPhase_136 (fun H h => by rw [eS]; (repeat (first | rw [if_pos (by omega)] | rw [if_neg (by omega)])); exact h)
        · refine x_aload_n B dX3_endPhase_131 rfl ?_
          refine x_aload_n B dX3_endPhase_132 rfl ?_
          refine x_mN B mvX3_171 (fun l => c_X3_releaseUnit (by omega) (by omega) (by omega)) dX3_endPhase_133 rfl rfl (by decide) (by decide) (Nat.le_of_ble_eq_true rfl) PS.rv ?_
          exact x_retV B R dX3_endPhase_136 (fun H h => by rw [eS]; (repeat (first | rw [if_pos (by omega)] | rw [if_neg (by omega)])); exact h)
      · refine x_aload_n B dX3_endPhase_111 rfl ?_
        refine x_iload_n B dX3_endPhase_112 rfl ?_
        refine x_iconst B dX3_endPhase_113 ?_
        refine x_iconst B dX3_endPhase_114 ?_
        refine x_mN B mvX3_162 (fun l => c_X3_bringToEnd (by omega) (by omega) (by omega) (by omega) (by omega)) dX3_endPhase_115 rfl rfl (by decide) (by decide) (Nat.le_of_ble_eq_true rfl) PS.rv ?_
        refine x_goto (tgt := 136) B dX3_endPhase_118 (by decide) ?_
        exact x_retV B R dX3_endPhase_136 (fun H h => by rw [eS]; (repeat (first | rw [if_pos (by omega)] | rw [if_neg (by omega)])); exact h)
    · refine x_aload_n B dX3_endPhase_91 rfl ?_
      refine x_iload_n B dX3_endPhase_92 rfl ?_
      refine x_bipush B dX3_endPhase_93 (by decide) ?_
      refine x_bipush B dX3_endPhase_95 (by decide) ?_
      refine x_mN B mvX3_162 (fun l => c_X3_bringToEnd (by omega) (by omega) (by omega) (by omega) (by omega)) dX3_endPhase_97 rfl rfl (by decide) (by decide) (Nat.le_of_ble_eq_true rfl) PS.rv ?_
      refine x_goto (tgt := 136) B dX3_endPhase_100 (by decide) ?_
      exact x_retV B R dX3_endPhase_136 (fun H h => by rw [eS]; (repeat (first | rw [if_pos (by omega)] | rw [if_neg (by omega)])); exact h)
  refine x_aload_n B dX3_endPhase_0 rfl ?_
  refine x_get B fgX3_19 dX3_endPhase_1 (fun _ h => ⟨_, PS.o h, rfl⟩) ?_
  refine x_iload_n B dX3_endPhase_4 rfl ?_
  refine x_aald (j := 4) B dX3_endPhase_5 rfl (by omega) (by decide) (PS.ab (by omega)) ?_
  refine x_astore_n B dX3_endPhase_6 (by decide) ?_
  refine x_aload_n B dX3_endPhase_7 rfl ?_
  refine x_aload_n B dX3_endPhase_8 rfl ?_
  refine x_iconst B dX3_endPhase_9 ?_
  refine x_mV B mvX3_104 (fun l => c_X3_valueOf hrd (by omega)) dX3_endPhase_10 rfl rfl (by decide) (by decide) (Nat.le_of_ble_eq_true rfl) PS.rv (fun r10 => ?_)
  refine x_top (show _ = phB m x (m (548 + 10 * x + 6)) % 4 from rfl) ?_
  refine x_istore_n B dX3_endPhase_13 (by decide) ?_
  refine x_aload_n B dX3_endPhase_14 rfl ?_
  refine x_iload_n B dX3_endPhase_15 rfl ?_
  refine x_mN B mvX3_152 (fun l => c_X3_releasePieces (by omega)) dX3_endPhase_16 rfl rfl (by decide) (by decide) (Nat.le_of_ble_eq_true rfl) PS.rv ?_
  refine x_aload_n B dX3_endPhase_19 rfl ?_
  refine x_aload_n B dX3_endPhase_20 rfl ?_
  refine x_get B fgX3_210 dX3_endPhase_21 (PS.gb9 (by omega)) ?_
  rw [es (548 + 10 * x + 9) (by omega)]
  refine x_aload_n B dX3_endPhase_24 rfl ?_
  refine x_aload_n B dX3_endPhase_25 rfl ?_
  refine x_iconst B dX3_endPhase_26 ?_
  refine x_mV B mvX3_104 (fun l => c_X3_valueOf hrdS.1 (by omega)) dX3_endPhase_27 rfl rfl (by decide) (by decide) (Nat.le_of_ble_eq_true rfl) PS.rv (fun r27 => ?_)
  refine x_top (show pt (phB (s_relS m x 3) x ((s_relS m x 3) (548 + 10 * x + 6))) 3 = phB m x (m (548 + 10 * x + 6)) / 2048 % 128 by rw [hrdS.2]; rfl) ?_
  refine x_i2f B dX3_endPhase_30 ?_
  refine x_fmul B dX3_endPhase_31 (hfm) ?_
  refine x_ldcf B dX3_endPhase_32 ckX3_214 ?_
  refine x_fdiv B dX3_endPhase_34 (hfd) ?_
  refine x_put B fpX3_210 dX3_endPhase_35 rfl rfl (by unfold AS bA; omega) (PS.pb9 (by omega)) ?_
  have e26 : up (s_relS m x 3) (548 + 10 * x + 9) (fI (FP.fdiv (FP.fmul (fB (m (548 + 10 * x + 9))) (FP.i2f (Int32.ofInt (phB m x (m (548 + 10 * x + 6)) / 2048 % 128)))) 1120403456)) (548 + 10 * x + 6) = m (548 + 10 * x + 6) := by rw [up_ne (by omega), es _ (by omega)]
  have e23 : ∀ v, up (s_relS m x 3) (548 + 10 * x + 9) v 3 = m 3 := fun v => by rw [up_ne (by omega), e3S]
  have e23' : ∀ v w, up (up (s_relS m x 3) (548 + 10 * x + 9) v) (548 + 10 * x + 6) w 3 = m 3 := fun v w => by rw [up_ne (by omega), e23]
  refine x_aload_n B dX3_endPhase_38 rfl ?_
  refine x_dup B dX3_endPhase_39 rfl ?_
  refine x_getI B fgX3_145 dX3_endPhase_40 (PS.gb6 (by (rw [e23]; omega))) (fun r40 => ?_)
  refine x_iconst B dX3_endPhase_43 ?_
  refine x_iadd B dX3_endPhase_44 ?_
  refine x_put B fpX3_145 dX3_endPhase_45 rfl rfl (by unfold AS bA; omega) (PS.pb6 (by (first | (rw [e23]; omega) | omega)) (by (first | (rw [e23]; omega) | omega))) ?_
  refine x_aload_n B dX3_endPhase_48 rfl ?_
  refine x_iconst B dX3_endPhase_49 ?_
  refine x_put B fpX3_130 dX3_endPhase_50 rfl rfl (by unfold AS bA; omega) (PS.pb7 (by (first | (rw [e23']; omega) | omega)) (by (first | (rw [e23']; omega) | omega))) ?_
  refine x_aload_n B dX3_endPhase_53 rfl ?_
  refine x_get B fgX3_33 dX3_endPhase_54 (fun _ h => ⟨_, PS.o h, rfl⟩) ?_
  refine x_aload_n B dX3_endPhase_57 rfl ?_
  refine x_getI B fgX3_72 dX3_endPhase_58 PS.g10 (fun r58 => ?_)
  refine x_iload_n B dX3_endPhase_61 rfl ?_
  refine x_iconst B dX3_endPhase_62 ?_
  refine x_jadd B mvX3_155 dX3_endPhase_63 (by omega) (by omega) (by decide) (Nat.le_of_ble_eq_true rfl) ?_
  exact x_locs (xl_cons rfl (xl_cons rfl (xl_cons rfl (xl_cons rfl xl_nil)))) tail

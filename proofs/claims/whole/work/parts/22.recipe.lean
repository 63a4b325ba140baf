/-! ===== the reference: a whole text, fault, recipe ===== -/
def rdL (rd : Int → Int) (l : List Int) : Prop := ∀ j : Nat, j < l.length → rd (j : Int) = l.getD j 0
def PTl (G : xG) (b : Nat) (m : Int → Int) (ρ : Nat → Int → Int) (r : Int × Int × List Int) (H : Heap) : Prop := ∃ rd nu, rdL rd r.2.2 ∧ PT G b m ρ rd r.2.1 r.1 nu H
theorem rdL_app {rd : Int → Int} {l : List Int} {p : Int} (h : rdL rd l) : rdL (up rd (l.length : Int) p) (l ++ [p]) := by
  intro j hj
  rw [List.length_append] at hj
  unfold up
  simp only [List.length_singleton] at hj
  rw [List.getD_eq_getElem?_getD, List.getElem?_append]
  by_cases e : j = l.length
  · subst e
    rw [if_pos rfl, if_neg (by omega), Nat.sub_self]
    rfl
  · rw [if_neg (by omega), if_pos (by omega), h j (by omega), List.getD_eq_getElem?_getD]
theorem c_X7_readText {G : xG} {l : Launch} {b : Nat} {m : Int → Int} {ρ : Nat → Int → Int} (h1 : okT (ρ 2) (ρ 5 1)) : CT G l yX7_readText cX7_readText 3 (some .int) ({ frames := 3, cells := 0, slots := 0, locals := 70 } : Room) 0 0 [.ref b] (PM G b m ρ) (pI (if (t_all (ρ 2) (ρ 5 1)).1 = 0 then ((t_all (ρ 2) (ρ 5 1)).2.2.length : Int) else -1) (PTl G b m ρ (t_all (ρ 2) (ρ 5 1)))) (AM b) := by
  refine x_met1 (own := RX7) (nm := "readText") (L := [(0, .ref b)]) (by decide) rfl rfl (fun _ => rfl) (Nat.le_of_ble_eq_true rfl) rfl rfl ?_
  intro Γ B R
  have hn := h1.1
  have har := all_rg h1
  have loop : ∀ (f : Nat) (k a nu : Int) (lst : List Int) (rd : Int → Int) (L : List (Nat × Value)), 0 ≤ a → a ≤ ρ 5 1 → 0 ≤ k → k + f = 9 → lst.length = k.toNat → 1 ≤ f → (∀ p ∈ lst, okP p) → rdL rd lst → t_all (ρ 2) (ρ 5 1) = t_go (ρ 2) (ρ 5 1) f k a lst → (∀ q ∈ [(0, Value.ref b), (1, vi k)], lget L q.1 = some q.2) → XJ Γ 0 0 (PT G b m ρ rd a 0 nu) 33 L [] := by
    intro f
    induction f with
    | zero => intro k a nu lst rd L _ _ _ _ _ h; omega
    | succ f ih =>
      intro k a nu lst rd L a0 a1 k0 kf hl hf hp hrd hA hL
      refine x_locs hL ?_
      obtain ⟨g1, g2, g3⟩ := phase_rg h1 (k := k) ⟨a0, a1⟩
      have hG : t_go (ρ 2) (ρ 5 1) (f + 1) k a lst = if (t_phase (ρ 2) (ρ 5 1) k a).1 ≠ 0 then ((t_phase (ρ 2) (ρ 5 1) k a).1, (t_phase (ρ 2) (ρ 5 1) k a).2.1, lst) else if (t_phase (ρ 2) (ρ 5 1) k a).2.1 < ρ 5 1 then t_go (ρ 2) (ρ 5 1) f (k + 1) (t_phase (ρ 2) (ρ 5 1) k a).2.1 (lst ++ [(t_phase (ρ 2) (ρ 5 1) k a).2.2]) else (0, (t_phase (ρ 2) (ρ 5 1) k a).2.1, lst ++ [(t_phase (ρ 2) (ρ 5 1) k a).2.2]) := rfl
      have happ : rdL (up rd k (t_phase (ρ 2) (ρ 5 1) k a).2.2) (lst ++ [(t_phase (ρ 2) (ρ 5 1) k a).2.2]) := by
        have := rdL_app (p := (t_phase (ρ 2) (ρ 5 1) k a).2.2) hrd
        rwa [show ((lst.length : Nat) : Int) = k by omega] at this
      have hq : (t_phase (ρ 2) (ρ 5 1) k a).1 = 0 → ∀ p ∈ lst ++ [(t_phase (ρ 2) (ρ 5 1) k a).2.2], okP p := fun e p hpp => by
        rcases List.mem_append.mp hpp with e1 | e1
        · exact hp p e1
        · rw [List.mem_singleton.mp e1]; exact (g3 e).1
      rw [hG] at hA
      refine x_aload_n B dX7_readText_33 rfl ?_
      refine x_iload_n B dX7_readText_34 rfl ?_
      refine x_mZ B mvX7_122 (fun l => c_X7_readPhase h1 (by omega) (by omega)) dX7_readText_35 rfl rfl (by decide) (by decide) (Nat.le_of_ble_eq_true rfl) PT.rv ?_
      refine x_ex (P' := fun nu' => PT G b m ρ (if (t_phase (ρ 2) (ρ 5 1) k a).1 = 0 then up rd k (t_phase (ρ 2) (ρ 5 1) k a).2.2 else rd) (t_phase (ρ 2) (ρ 5 1) k a).2.1 (if (t_phase (ρ 2) (ρ 5 1) k a).1 = 0 then 0 else (t_phase (ρ 2) (ρ 5 1) k a).1) nu') (fun H h => h) (fun nu' => ?_)
      generalize t_phase (ρ 2) (ρ 5 1) k a = r at *
      refine x_istore_n B dX7_readText_38 (by decide) ?_
      refine x_iinc B dX7_readText_39 rfl (by decide) ?_
      refine x_goto (tgt := 14) B dX7_readText_42 (by decide) ?_
      refine x_iload_n B dX7_readText_14 rfl ?_
      refine x_ifz_eq (tgt := 45) B dX7_readText_15 (by decide) (fun c15 => ?_) (fun c15 => ?_)
      · rw [if_pos (by assumption)] at hA
        rw [hA] at R
        rw [if_neg (by assumption), if_neg (by assumption)]
        refine x_iload_n B dX7_readText_45 rfl ?_
        refine x_ifz_eq (tgt := 53) B dX7_readText_46 (by decide) (fun c46 => ?_) (fun c46 => ?_)
        · refine x_iconst B dX7_readText_53 ?_
          first
            | (exfalso; contradiction)
            | exact x_retI B R dX7_readText_54 (by simp only; rw [if_neg (by assumption)]) (by simp only; rw [if_neg (by assumption)]; omega) (fun H h => ⟨_, _, hrd, h⟩)
            | exact x_retI B R dX7_readText_54 (by simp only; rw [if_pos trivial, List.length_append]; simp only [List.length_singleton]; congr 1; omega) (by simp only; rw [if_pos trivial, List.length_append]; simp only [List.length_singleton]; omega) (fun H h => ⟨_, _, happ, by rw [show (0 : Int) = r.1 from (by assumption : r.1 = 0).symm]; rw [show (0 : Int) = r.1 from (by assumption : r.1 = 0).symm] at h; exact h⟩)
        · refine x_iload_n B dX7_readText_49 rfl ?_
          refine x_goto (tgt := 54) B dX7_readText_50 (by decide) ?_
          first
            | (exfalso; contradiction)
            | exact x_retI B R dX7_readText_54 (by simp only; rw [if_neg (by assumption)]) (by simp only; rw [if_neg (by assumption)]; omega) (fun H h => ⟨_, _, hrd, h⟩)
            | exact x_retI B R dX7_readText_54 (by simp only; rw [if_pos trivial, List.length_append]; simp only [List.length_singleton]; congr 1; omega) (by simp only; rw [if_pos trivial, List.length_append]; simp only [List.length_singleton]; omega) (fun H h => ⟨_, _, happ, by rw [show (0 : Int) = r.1 from (by assumption : r.1 = 0).symm]; rw [show (0 : Int) = r.1 from (by assumption : r.1 = 0).symm] at h; exact h⟩)
      · rw [if_neg (by simp only [ne_eq, Classical.not_not]; assumption)] at hA
        rw [if_pos (by assumption), if_pos (by assumption)]
        have hk8 := (g3 (by assumption)).2
        have hq := hq (by assumption)
        refine x_iload_n B dX7_readText_18 rfl ?_
        refine x_if_eq (tgt := 33) B dX7_readText_19 (by decide) (by omega) (fun c19 => ?_) (fun c19 => ?_)
        · first
            | omega
            | exact ih (k + 1) r.2.1 nu' (lst ++ [r.2.2]) _ _ (by omega) (by omega) (by omega) (by omega) (by rw [List.length_append, hl]; simp only [List.length_singleton]; omega) (by omega) hq happ (by rw [hA, if_pos (by omega)]) (xl_cons rfl (xl_cons rfl xl_nil))
        · refine x_aload_n B dX7_readText_22 rfl ?_
          refine x_getI B fgX7_92 dX7_readText_23 PT.g6 (fun r23 => ?_)
          refine x_aload_n B dX7_readText_26 rfl ?_
          refine x_getI B fgX7_95 dX7_readText_27 PT.g5 (fun r27 => ?_)
          refine x_icmp_ge (tgt := 45) B dX7_readText_30 (by decide) (by omega) (by omega) (fun c30 => ?_) (fun c30 => ?_)
          · rw [if_neg (by omega)] at hA
            rw [hA] at R
            refine x_iload_n B dX7_readText_45 rfl ?_
            refine x_ifz_eq (tgt := 53) B dX7_readText_46 (by decide) (fun c46 => ?_) (fun c46 => ?_)
            · refine x_iconst B dX7_readText_53 ?_
              first
                | (exfalso; contradiction)
                | exact x_retI B R dX7_readText_54 (by simp only; rw [if_neg (by assumption)]) (by simp only; rw [if_neg (by assumption)]; omega) (fun H h => ⟨_, _, hrd, h⟩)
                | exact x_retI B R dX7_readText_54 (by simp only; rw [if_pos trivial, List.length_append]; simp only [List.length_singleton]; congr 1; omega) (by simp only; rw [if_pos trivial, List.length_append]; simp only [List.length_singleton]; omega) (fun H h => ⟨_, _, happ, by rw [show (0 : Int) = r.1 from (by assumption : r.1 = 0).symm]; rw [show (0 : Int) = r.1 from (by assumption : r.1 = 0).symm] at h; exact h⟩)
            · refine x_iload_n B dX7_readText_49 rfl ?_
              refine x_goto (tgt := 54) B dX7_readText_50 (by decide) ?_
              first
                | (exfalso; contradiction)
                | exact x_retI B R dX7_readText_54 (by simp only; rw [if_neg (by assumption)]) (by simp only; rw [if_neg (by assumption)]; omega) (fun H h => ⟨_, _, hrd, h⟩)
                | exact x_retI B R dX7_readText_54 (by simp only; rw [if_pos trivial, List.length_append]; simp only [List.length_singleton]; congr 1; omega) (by simp only; rw [if_pos trivial, List.length_append]; simp only [List.length_singleton]; omega) (fun H h => ⟨_, _, happ, by rw [show (0 : Int) = r.1 from (by assumption : r.1 = 0).symm]; rw [show (0 : Int) = r.1 from (by assumption : r.1 = 0).symm] at h; exact h⟩)
          · first
              | omega
              | exact ih (k + 1) r.2.1 nu' (lst ++ [r.2.2]) _ _ (by omega) (by omega) (by omega) (by omega) (by rw [List.length_append, hl]; simp only [List.length_singleton]; omega) (by omega) hq happ (by rw [hA, if_pos (by omega)]) (xl_cons rfl (xl_cons rfl xl_nil))
  refine x_weak (fun H h => PT.of h) ?_
  refine x_aload_n B dX7_readText_0 rfl ?_
  refine x_iconst B dX7_readText_1 ?_
  refine x_put B fpX7_92 dX7_readText_2 rfl rfl (by unfold AM; omega) (PT.p6 (by omega)) ?_
  refine x_aload_n B dX7_readText_5 rfl ?_
  refine x_iconst B dX7_readText_6 ?_
  refine x_put B fpX7_98 dX7_readText_7 rfl rfl (by unfold AM; omega) (PT.p7 (by omega)) ?_
  refine x_iconst B dX7_readText_10 ?_
  refine x_istore_n B dX7_readText_11 (by decide) ?_
  refine x_iconst B dX7_readText_12 ?_
  refine x_istore_n B dX7_readText_13 (by decide) ?_
  refine x_iload_n B dX7_readText_14 rfl ?_
  refine x_if_eq (tgt := 45) B dX7_readText_15 (by decide) (by omega) (fun c15 => by exfalso; revert c15; decide) (fun _ => ?_)
  refine x_iload_n B dX7_readText_18 rfl ?_
  refine x_if_eq (tgt := 33) B dX7_readText_19 (by decide) (by omega) (fun _ => ?_) (fun c19 => by exfalso; revert c19; decide)
  exact loop 9 0 0 _ [] (ρ 3) _ (by omega) (by omega) (by omega) (by omega) rfl (by omega) (fun p hp => by cases hp) (fun j hj => by simp at hj) rfl (xl_cons rfl (xl_cons rfl xl_nil))
def o_fault (m : Int → Int) (ρ : Nat → Int → Int) (w : Int) : xO :=
  (if ¬ (0 ≤ w ∧ w ≤ 1) then -1 else if (t_all (ρ 2) (ρ 5 1)).1 = 0 then -4 else if w = 0 then (t_all (ρ 2) (ρ 5 1)).2.1 else (t_all (ρ 2) (ρ 5 1)).1, m, ρ)
theorem c_X7_fault {G : xG} {l : Launch} {b : Nat} {m : Int → Int} {ρ : Nat → Int → Int} {x : Int} (h1 : okT (ρ 2) (ρ 5 1)) (h3 : -2147483648 ≤ x ∧ x < 2147483648) : CT G l yX7_fault cX7_fault 2 (some .int) ({ frames := 4, cells := 0, slots := 0, locals := 92 } : Room) 0 0 [.ref b, vi x] (PM G b m ρ) (pI (o_fault m ρ x).1 (PMx G b (o_fault m ρ x).2.1 (o_fault m ρ x).2.2)) (AM b) := by
  refine x_met1 (own := RX7) (nm := "fault") (L := [(0, .ref b), (1, vi x)]) (by decide) rfl rfl (fun _ => rfl) (Nat.le_of_ble_eq_true rfl) rfl rfl ?_
  intro Γ B R
  have hn := h1.1
  obtain ⟨a1, a2, a3⟩ := all_rg h1
  have hO : o_fault m ρ x = (if ¬ (0 ≤ x ∧ x ≤ 1) then -1 else if (t_all (ρ 2) (ρ 5 1)).1 = 0 then -4 else if x = 0 then (t_all (ρ 2) (ρ 5 1)).2.1 else (t_all (ρ 2) (ρ 5 1)).1, m, ρ) := rfl
  rw [hO] at R
  refine x_iload_n B dX7_fault_0 rfl ?_
  refine x_iconst B dX7_fault_1 ?_
  refine x_iconst B dX7_fault_2 ?_
  refine x_sZ B msX7_36 (fun l => c_X7_in (by omega) (by omega) (by omega)) dX7_fault_3 rfl rfl (by decide) (by decide) (Nat.le_of_ble_eq_true rfl) ?_
  refine x_ifz_ne (tgt := 11) B dX7_fault_6 (by decide) (fun c6 => ?_) (fun c6 => ?_)
  · refine x_aload_n B dX7_fault_11 rfl ?_
    refine x_mV B mvX7_128 (fun l => c_X7_readText h1) dX7_fault_12 rfl rfl (by decide) (by decide) (Nat.le_of_ble_eq_true rfl) PM.rv (fun r12 => ?_)
    refine x_ex (P' := fun p : (Int → Int) × Int => PT G b m ρ p.1 (t_all (ρ 2) (ρ 5 1)).2.1 (t_all (ρ 2) (ρ 5 1)).1 p.2) (fun H h => by obtain ⟨rd, nu, -, q⟩ := h; exact ⟨(rd, nu), q⟩) (fun p => ?_)
    obtain ⟨rd, nu⟩ := p
    generalize hr : t_all (ρ 2) (ρ 5 1) = r at *
    have e0 : (if r.1 = 0 then (r.2.2.length : Int) else -1) = -1 ↔ r.1 ≠ 0 := by
      by_cases q : r.1 = 0
      · rw [if_pos q]; constructor
        · intro z; omega
        · intro z; exact absurd q z
      · rw [if_neg q]; exact ⟨fun _ => q, fun _ => rfl⟩
    refine x_iconst B dX7_fault_15 ?_
    refine x_icmp_eq (tgt := 24) B dX7_fault_16 (by decide) (by omega) (by omega) (fun c16 => ?_) (fun c16 => ?_)
    · refine x_iload_n B dX7_fault_24 rfl ?_
      refine x_if_ne (tgt := 35) B dX7_fault_25 (by decide) (by omega) (fun c25 => ?_) (fun c25 => ?_)
      · refine x_aload_n B dX7_fault_35 rfl ?_
        refine x_getI B fgX7_98 dX7_fault_36 PT.g7 (fun r36 => ?_)
        first
          | exact x_retI B R dX7_fault_39 (by simp only; rw [if_neg (by omega), if_pos (by omega)]) (by simp only; rw [if_neg (by omega), if_pos (by omega)]; omega) (fun H h => PT.x h)
          | exact x_retI B R dX7_fault_39 (by simp only; rw [if_neg (by omega), if_neg (by omega), if_pos (by omega)]) (by simp only; rw [if_neg (by omega), if_neg (by omega), if_pos (by omega)]; omega) (fun H h => PT.x h)
          | exact x_retI B R dX7_fault_39 (by simp only; rw [if_neg (by omega), if_neg (by omega), if_neg (by omega)]) (by simp only; rw [if_neg (by omega), if_neg (by omega), if_neg (by omega)]; omega) (fun H h => PT.x h)
      · refine x_aload_n B dX7_fault_28 rfl ?_
        refine x_getI B fgX7_92 dX7_fault_29 PT.g6 (fun r29 => ?_)
        refine x_goto (tgt := 39) B dX7_fault_32 (by decide) ?_
        first
          | exact x_retI B R dX7_fault_39 (by simp only; rw [if_neg (by omega), if_pos (by omega)]) (by simp only; rw [if_neg (by omega), if_pos (by omega)]; omega) (fun H h => PT.x h)
          | exact x_retI B R dX7_fault_39 (by simp only; rw [if_neg (by omega), if_neg (by omega), if_pos (by omega)]) (by simp only; rw [if_neg (by omega), if_neg (by omega), if_pos (by omega)]; omega) (fun H h => PT.x h)
          | exact x_retI B R dX7_fault_39 (by simp only; rw [if_neg (by omega), if_neg (by omega), if_neg (by omega)]) (by simp only; rw [if_neg (by omega), if_neg (by omega), if_neg (by omega)]; omega) (fun H h => PT.x h)
    · refine x_bipush B dX7_fault_19 (by decide) ?_
      refine x_goto (tgt := 39) B dX7_fault_21 (by decide) ?_
      first
        | exact x_retI B R dX7_fault_39 (by simp only; rw [if_neg (by omega), if_pos (by omega)]) (by simp only; rw [if_neg (by omega), if_pos (by omega)]; omega) (fun H h => PT.x h)
        | exact x_retI B R dX7_fault_39 (by simp only; rw [if_neg (by omega), if_neg (by omega), if_pos (by omega)]) (by simp only; rw [if_neg (by omega), if_neg (by omega), if_pos (by omega)]; omega) (fun H h => PT.x h)
        | exact x_retI B R dX7_fault_39 (by simp only; rw [if_neg (by omega), if_neg (by omega), if_neg (by omega)]) (by simp only; rw [if_neg (by omega), if_neg (by omega), if_neg (by omega)]; omega) (fun H h => PT.x h)
  · refine x_iconst B dX7_fault_9 ?_
    exact x_retI B R dX7_fault_10 (by simp only; rw [if_pos (by assumption)]) (by simp only; rw [if_pos (by assumption)]; omega) (fun H h => ⟨ρ, eqR.rf, h⟩)
def s_recipe (m : Int → Int) (r : Int) (l : List Int) : Int → Int :=
  let v := 9 * r + m (56 + r)
  let m1 := up m (62 + v) l.length
  let m2 : Int → Int := fun j => if 116 + 8 * v ≤ j ∧ j < 116 + 8 * v + l.length then l.getD (j - (116 + 8 * v)).toNat 0 else m1 j
  up m2 (56 + r) (m2 (56 + r) + 1)
def o_recipe (m : Int → Int) (ρ : Nat → Int → Int) (r : Int) : xO :=
  if ¬ (0 ≤ r ∧ r ≤ 5) then (-1, m, ρ) else if (t_all (ρ 2) (ρ 5 1)).1 ≠ 0 then (-2, m, ρ) else if m (56 + r) = 9 then (-3, m, ρ) else
  (m (56 + r) + 1, s_recipe m r (t_all (ρ 2) (ρ 5 1)).2.2, s_keep m ρ)
theorem keep_eqR {m : Int → Int} {ρ ρ' : Nat → Int → Int} (h : eqR ρ ρ') : eqR (s_keep m ρ) (s_keep m ρ') := by
  obtain ⟨h1, h2, h3, h4⟩ := h
  unfold s_keep
  rw [h3, h1]
  split
  · refine ⟨rfl, ?_, ?_, ?_⟩
    · rw [ur_ne (by decide), ur_ne (by decide), h2]
    · rw [ur_ne (by decide), ur_ne (by decide), h3]
    · rw [ur_ne (by decide), ur_ne (by decide), h4]
  · refine ⟨?_, ?_, ?_, ?_⟩
    · rw [ur_ne (show (1 : Nat) ≠ 5 by decide), ur_ne (show (1 : Nat) ≠ 5 by decide), ur_eq, ur_eq]
    · rw [ur_ne (by decide), ur_ne (by decide), ur_ne (by decide), ur_ne (by decide), h2]
    · rw [ur_eq, ur_eq, up_eq rfl, up_eq rfl]
    · rw [ur_eq, ur_eq, up_ne (by omega), up_ne (by omega), h4]
theorem keep_3 {m : Int → Int} {ρ : Nat → Int → Int} : s_keep m ρ 3 = ρ 3 := by
  unfold s_keep
  split
  · rw [ur_ne (by decide)]
  · rw [ur_ne (by decide), ur_ne (by decide)]
theorem c_X7_recipe {G : xG} {l : Launch} {b : Nat} {m : Int → Int} {ρ : Nat → Int → Int} {W x : Int} (h0 : Iv m W) (h2 : Ir ρ) (h1 : okT (ρ 2) (ρ 5 1)) (h3 : -2147483648 ≤ x ∧ x < 2147483648) : CT G l yX7_recipe cX7_recipe 5 (some .int) ({ frames := 4, cells := 0, slots := 0, locals := 92 } : Room) 0 0 [.ref b, vi x] (PM G b m ρ) (pI (o_recipe m ρ x).1 (PMx G b (o_recipe m ρ x).2.1 (o_recipe m ρ x).2.2)) (AM b) := by
  refine x_met1 (own := RX7) (nm := "recipe") (L := [(0, .ref b), (1, vi x)]) (by decide) rfl rfl (fun _ => rfl) (Nat.le_of_ble_eq_true rfl) rfl rfl ?_
  intro Γ B R
  have hn := h1.1
  have hr := h2.1
  obtain ⟨a1, a2, a3⟩ := all_rg h1
  have hO : o_recipe m ρ x = if ¬ (0 ≤ x ∧ x ≤ 5) then (-1, m, ρ) else if (t_all (ρ 2) (ρ 5 1)).1 ≠ 0 then (-2, m, ρ) else if m (56 + x) = 9 then (-3, m, ρ) else (m (56 + x) + 1, s_recipe m x (t_all (ρ 2) (ρ 5 1)).2.2, s_keep m ρ) := rfl
  generalize hr' : t_all (ρ 2) (ρ 5 1) = r at *
  have loop : ∀ (f : Nat) (i : Int) (mk : Int → Int) (ρ' : Nat → Int → Int), (0 ≤ x ∧ x ≤ 5) → (0 ≤ m (56 + x) ∧ m (56 + x) ≤ 8) → 1 ≤ r.2.2.length ∧ r.2.2.length ≤ 8 → o_recipe m ρ x = (m (56 + x) + 1, s_recipe m x r.2.2, s_keep m ρ) → eqR (s_keep m ρ) ρ' → rdL (ρ' 3) r.2.2 → 0 ≤ i → i ≤ r.2.2.length → r.2.2.length - i < f → mk = (fun j => if 116 + 8 * (9 * x + m (56 + x)) ≤ j ∧ j < 116 + 8 * (9 * x + m (56 + x)) + i then r.2.2.getD (j - (116 + 8 * (9 * x + m (56 + x)))).toNat 0 else up m (62 + (9 * x + m (56 + x))) r.2.2.length j) → XJ Γ 0 0 (PM G b mk ρ') 71 [(0, .ref b), (1, vi x), (2, vi (r.2.2.length : Int)), (3, vi (9 * x + m (56 + x))), (4, vi i)] [] := by
    intro f
    induction f with
    | zero => intro i mk ρ' _ _ _ _ _ _ _ _ h; omega
    | succ f ih =>
      intro i mk ρ' hx hv hl ho he hrd i0 i1 hf hm
      have e56 : mk (56 + x) = m (56 + x) := by
        rw [hm]
        dsimp only
        rw [if_neg (by omega), up_ne (by omega)]
      refine x_iload B dX7_recipe_71 rfl ?_
      refine x_iload_n B dX7_recipe_73 rfl ?_
      refine x_icmp_ge (tgt := 105) B dX7_recipe_74 (by decide) (by omega) (by omega) (fun c74 => ?_) (fun c74 => ?_)
      · refine x_aload_n B dX7_recipe_105 rfl ?_
        refine x_get B fgX7_7 dX7_recipe_106 (fun _ h => ⟨_, PM.o h, rfl⟩) ?_
        refine x_bipush B dX7_recipe_109 (by decide) ?_
        refine x_iload_n B dX7_recipe_111 rfl ?_
        refine x_iadd B dX7_recipe_112 ?_
        refine x_dup2 B dX7_recipe_113 rfl rfl ?_
        refine x_ialdR B dX7_recipe_114 (by omega) (by decide) PM.am (fun r114 => ?_)
        refine x_iconst B dX7_recipe_115 ?_
        refine x_iadd B dX7_recipe_116 ?_
        refine x_iast B dX7_recipe_117 (by omega) (by decide) (by unfold AM; omega) (PM.sm (by omega)) ?_
        refine x_aload_n B dX7_recipe_118 rfl ?_
        refine x_get B fgX7_7 dX7_recipe_119 (fun _ h => ⟨_, PM.o h, rfl⟩) ?_
        refine x_bipush B dX7_recipe_122 (by decide) ?_
        refine x_iload_n B dX7_recipe_124 rfl ?_
        refine x_iadd B dX7_recipe_125 ?_
        refine x_ialdR B dX7_recipe_126 (by omega) (by decide) PM.am (fun r126 => ?_)
        have eu : up mk (56 + x) (mk (56 + x) + 1) (56 + x) = m (56 + x) + 1 := by rw [up_eq rfl, e56]
        refine x_top eu ?_
        have eM : s_recipe m x r.2.2 = up mk (56 + x) (mk (56 + x) + 1) := by
          unfold s_recipe
          try dsimp only
          rw [hm, show i = (r.2.2.length : Int) by omega]
        rw [eM] at ho
        exact x_retX B R dX7_recipe_127 ho (by omega) he
      · refine x_aload_n B dX7_recipe_77 rfl ?_
        refine x_get B fgX7_7 dX7_recipe_78 (fun _ h => ⟨_, PM.o h, rfl⟩) ?_
        refine x_bipush B dX7_recipe_81 (by decide) ?_
        refine x_bipush B dX7_recipe_83 (by decide) ?_
        refine x_iload_n B dX7_recipe_85 rfl ?_
        refine x_imul B dX7_recipe_86 ?_
        refine x_iadd B dX7_recipe_87 ?_
        refine x_iload B dX7_recipe_88 rfl ?_
        refine x_iadd B dX7_recipe_90 ?_
        refine x_aload_n B dX7_recipe_91 rfl ?_
        refine x_get B fgX7_22 dX7_recipe_92 (fun _ h => ⟨_, PM.o h, rfl⟩) ?_
        refine x_iload B dX7_recipe_95 rfl ?_
        refine x_ialdR B dX7_recipe_97 (by omega) (by decide) PM.a3 (fun r97 => ?_)
        refine x_iast B dX7_recipe_98 (by omega) (by decide) (by unfold AM; omega) (PM.sm (by omega)) ?_
        refine x_iinc B dX7_recipe_99 rfl (by decide) ?_
        refine x_goto (tgt := 71) B dX7_recipe_102 (by decide) ?_
        refine ih (i + 1) _ ρ' hx hv hl ho he hrd (by omega) (by omega) (by omega) ?_
        funext j
        have er : ρ' 3 i = r.2.2.getD i.toNat 0 := by
          have := hrd i.toNat (by omega)
          rwa [show ((i.toNat : Nat) : Int) = i by omega] at this
        rw [er, hm]
        unfold up
        by_cases hj : j = 116 + 8 * (9 * x + m (56 + x)) + i
        · rw [if_pos hj, if_pos (by omega), hj]
          congr 2
          omega
        · rw [if_neg hj]
          dsimp only
          by_cases hj2 : 116 + 8 * (9 * x + m (56 + x)) ≤ j ∧ j < 116 + 8 * (9 * x + m (56 + x)) + i
          · rw [if_pos hj2, if_pos (show 116 + 8 * (9 * x + m (56 + x)) ≤ j ∧ j < 116 + 8 * (9 * x + m (56 + x)) + (i + 1) by omega)]
          · rw [if_neg hj2, if_neg (show ¬ (116 + 8 * (9 * x + m (56 + x)) ≤ j ∧ j < 116 + 8 * (9 * x + m (56 + x)) + (i + 1)) by omega)]
  refine x_iload_n B dX7_recipe_0 rfl ?_
  refine x_sZ B msX7_125 (fun l => c_X7_isRecipe (by omega)) dX7_recipe_1 rfl rfl (by decide) (by decide) (Nat.le_of_ble_eq_true rfl) ?_
  refine x_ifz_ne (tgt := 9) B dX7_recipe_4 (by decide) (fun c4 => ?_) (fun c4 => ?_)
  · refine x_aload_n B dX7_recipe_9 rfl ?_
    refine x_mV B mvX7_128 (fun l => c_X7_readText h1) dX7_recipe_10 rfl rfl (by decide) (by decide) (Nat.le_of_ble_eq_true rfl) PM.rv (fun r10 => ?_)
    rw [hr']
    refine x_ex (P' := fun p : (Int → Int) × Int => fun H => rdL p.1 r.2.2 ∧ PT G b m ρ p.1 r.2.1 r.1 p.2 H) (fun H h => by obtain ⟨rd, nu, q0, q⟩ := h; exact ⟨(rd, nu), q0, q⟩) (fun p => ?_)
    obtain ⟨rd, nu⟩ := p
    refine x_fact (φ := rdL rd r.2.2) (fun H h => h.1) (fun hrd => ?_)
    refine x_weak (P' := PT G b m ρ rd r.2.1 r.1 nu) (fun H h => h.2) ?_
    have e0 : (if r.1 = 0 then (r.2.2.length : Int) else -1) = -1 ↔ r.1 ≠ 0 := by
      by_cases q : r.1 = 0
      · rw [if_pos q]; constructor
        · intro z; omega
        · intro z; exact absurd q z
      · rw [if_neg q]; exact ⟨fun _ => q, fun _ => rfl⟩
    refine x_istore_n B dX7_recipe_13 (by decide) ?_
    refine x_iload_n B dX7_recipe_14 rfl ?_
    refine x_iconst B dX7_recipe_15 ?_
    refine x_icmp_ne (tgt := 22) B dX7_recipe_16 (by decide) (by omega) (by omega) (fun c16 => ?_) (fun c16 => ?_)
    · have hz : r.1 = 0 := by
        by_cases q : r.1 = 0
        · exact q
        · exact absurd (e0.mpr q) (by assumption)
      rw [if_pos hz] at *
      have hl := (a3 hz).2
      have hvs := (Iv_iff.mp h0).1.vs (r := x) (by omega) (by omega)
      refine x_weak (P' := PM G b m (ur (ur ρ 3 rd) 5 (sc ρ r.2.1 r.1 nu))) (fun H h => h) ?_
      refine x_aload_n B dX7_recipe_22 rfl ?_
      refine x_get B fgX7_7 dX7_recipe_23 (fun _ h => ⟨_, PM.o h, rfl⟩) ?_
      refine x_bipush B dX7_recipe_26 (by decide) ?_
      refine x_iload_n B dX7_recipe_28 rfl ?_
      refine x_iadd B dX7_recipe_29 ?_
      refine x_ialdR B dX7_recipe_30 (by omega) (by decide) PM.am (fun r30 => ?_)
      refine x_bipush B dX7_recipe_31 (by decide) ?_
      refine x_icmp_ne (tgt := 39) B dX7_recipe_33 (by decide) (by omega) (by omega) (fun c33 => ?_) (fun c33 => ?_)
      · refine x_aload_n B dX7_recipe_39 rfl ?_
        refine x_mN B mvX7_44 (fun l => c_X7_keep (by show 0 ≤ ρ 5 0 ∧ ρ 5 0 ≤ 4; exact hr)) dX7_recipe_40 rfl rfl (by decide) (by decide) (Nat.le_of_ble_eq_true rfl) PM.rv ?_
        refine x_bipush B dX7_recipe_43 (by decide) ?_
        refine x_iload_n B dX7_recipe_45 rfl ?_
        refine x_imul B dX7_recipe_46 ?_
        refine x_aload_n B dX7_recipe_47 rfl ?_
        refine x_get B fgX7_7 dX7_recipe_48 (fun _ h => ⟨_, PM.o h, rfl⟩) ?_
        refine x_bipush B dX7_recipe_51 (by decide) ?_
        refine x_iload_n B dX7_recipe_53 rfl ?_
        refine x_iadd B dX7_recipe_54 ?_
        refine x_ialdR B dX7_recipe_55 (by omega) (by decide) PM.am (fun r55 => ?_)
        refine x_iadd B dX7_recipe_56 ?_
        refine x_istore_n B dX7_recipe_57 (by decide) ?_
        refine x_aload_n B dX7_recipe_58 rfl ?_
        refine x_get B fgX7_7 dX7_recipe_59 (fun _ h => ⟨_, PM.o h, rfl⟩) ?_
        refine x_bipush B dX7_recipe_62 (by decide) ?_
        refine x_iload_n B dX7_recipe_64 rfl ?_
        refine x_iadd B dX7_recipe_65 ?_
        refine x_iload_n B dX7_recipe_66 rfl ?_
        refine x_iast B dX7_recipe_67 (by omega) (by decide) (by unfold AM; omega) (PM.sm (by omega)) ?_
        refine x_iconst B dX7_recipe_68 ?_
        refine x_istore B dX7_recipe_69 (by decide) ?_
        exact loop 10 0 _ (s_keep m (ur (ur ρ 3 rd) 5 (sc ρ r.2.1 r.1 nu))) (by omega) (by omega) hl (by rw [hO, if_neg (by omega), if_neg (by omega), if_neg (by omega)]) (keep_eqR ⟨rfl, rfl, rfl, rfl⟩) (by rw [keep_3]; exact hrd) (by omega) (by omega) (by omega) (by
          funext j
          rw [if_neg (by omega)])
      · refine x_bipush B dX7_recipe_36 (by decide) ?_
        exact x_retX (ρ'' := ρ) B R dX7_recipe_38 (by rw [hO, if_neg (by omega), if_neg (by omega), if_pos (by omega)]) (by omega) ⟨rfl, rfl, rfl, rfl⟩
    · refine x_bipush B dX7_recipe_19 (by decide) ?_
      exact x_retX (ρ'' := ρ) B R dX7_recipe_21 (by rw [hO, if_neg (by omega), if_pos (e0.mp (by omega))]) (by omega) ⟨rfl, rfl, rfl, rfl⟩
  · refine x_iconst B dX7_recipe_7 ?_
    exact x_retX B R dX7_recipe_8 (by rw [hO, if_pos (by assumption)]) (by omega) eqR.rf

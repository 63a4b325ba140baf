/-! ===== the class's State, walked: work, a tick, abort ===== -/
/-- what a tick's work leaves, ahead of the phase's end -/
def w3a (m : Int → Int) (b p : Int) : Int → Int :=
  let m1 := if (p / 512 % 4 - 1) = -1 then m else up m (53 + (p / 512 % 4 - 1)) b
  let m2 := up m1 (548 + 10 * b + 7) (m1 (548 + 10 * b + 7) + 1)
  up m2 (5 + 6 * m2 (548 + 10 * b + 8) + 5) (m2 (5 + 6 * m2 (548 + 10 * b + 8) + 5) + 1)
theorem s_w3_eq (m : Int → Int) (b p : Int) : s_w3 m b p = if phB (w3a m b p) b ((w3a m b p) (548 + 10 * b + 6)) / 4 % 128 - (w3a m b p) (548 + 10 * b + 7) = 0 then s_ends (w3a m b p) b (phB (w3a m b p) b ((w3a m b p) (548 + 10 * b + 6))) else w3a m b p := rfl
theorem w3a_E {m : Int → Int} {W x : Int} (k0 : Iv0 m W) (hW : 0 ≤ W ∧ W ≤ 100000000) (hA1 : okB1 m x) (hx : 0 ≤ x ∧ x < m 3) (h5 : m (548 + 10 * x + 5) = 1 ∨ m (548 + 10 * x + 5) = 3) (h8 : m (548 + 10 * x + 8) ≠ -1) : Iv0 (w3a m x (phB m x (m (548 + 10 * x + 6)))) (W + 1) ∧ (w3a m x (phB m x (m (548 + 10 * x + 6)))) 3 = m 3 ∧ (w3a m x (phB m x (m (548 + 10 * x + 6)))) (548 + 10 * x + 6) = m (548 + 10 * x + 6) ∧ lnB (w3a m x (phB m x (m (548 + 10 * x + 6)))) x = lnB m x ∧ phB (w3a m x (phB m x (m (548 + 10 * x + 6)))) x ((w3a m x (phB m x (m (548 + 10 * x + 6)))) (548 + 10 * x + 6)) = phB m x (m (548 + 10 * x + 6)) ∧ (w3a m x (phB m x (m (548 + 10 * x + 6)))) (548 + 10 * x + 7) = m (548 + 10 * x + 7) + 1 ∧ m (548 + 10 * x + 6) < lnB m x ∧ m (548 + 10 * x + 7) < phB m x (m (548 + 10 * x + 6)) / 4 % 128 := by
  have hn := k0.n
  have hb := k0.b hx.1 hx.2
  obtain ⟨hp, hl, hph⟩ := k0.page hx.1 hx.2
  unfold okB0 at hb
  have hv := k0.vs (r := m (548 + 10 * x + 0)) (by omega) (by omega)
  obtain ⟨h1d, h1s⟩ := hA1
  obtain ⟨q6, q7⟩ := h1s (by omega)
  have hpk := hph _ hb.2.2.2.2.2.2.1.1 q6
  have hpk' := hpk
  unfold okP at hpk'
  unfold w3a
  dsimp only
  generalize hm1 : (if (phB m x (m (548 + 10 * x + 6)) / 512 % 4 - 1) = -1 then m else up m (53 + (phB m x (m (548 + 10 * x + 6)) / 512 % 4 - 1)) x) = m1
  have k1 : Iv0 m1 W := by
    rw [← hm1]
    split
    · exact k0
    · exact k0.upS (by omega) (by omega) (by omega)
  have e1 : ∀ k, (k < 53 ∨ 56 ≤ k) → m1 k = m k := fun k hk => by
    rw [← hm1]
    split
    · rfl
    · exact up_ne (by omega)
  have e17 : m1 (548 + 10 * x + 7) = m (548 + 10 * x + 7) := e1 _ (by omega)
  have e13 : m1 3 = m 3 := e1 _ (by omega)
  have k2 := k1.okx (w := 7) (v := m1 (548 + 10 * x + 7) + 1) hx.1 (by omega) (by omega) (by omega) (by omega) (by omega) (fun _ => by omega) (by omega) (by omega)
  have e2 : ∀ k, (k < 53 ∨ 56 ≤ k) → k ≠ 548 + 10 * x + 7 → up m1 (548 + 10 * x + 7) (m1 (548 + 10 * x + 7) + 1) k = m k := fun k hk hk7 => by rw [up_ne hk7, e1 k hk]
  have e27 : up m1 (548 + 10 * x + 7) (m1 (548 + 10 * x + 7) + 1) (548 + 10 * x + 7) = m (548 + 10 * x + 7) + 1 := by rw [up_eq rfl, e17]
  generalize hm2 : up m1 (548 + 10 * x + 7) (m1 (548 + 10 * x + 7) + 1) = m2 at k2 e2 e27 ⊢
  have u8 : m2 (548 + 10 * x + 8) = m (548 + 10 * x + 8) := e2 _ (by omega) (by omega)
  have e22 : m2 2 = m 2 := e2 _ (by omega) (by omega)
  have e23 : m2 3 = m 3 := e2 _ (by omega) (by omega)
  have hu := k2.u (u := m2 (548 + 10 * x + 8)) (by omega) (by omega)
  unfold okU at hu
  have k3 := k2.upU (W' := W + 1) (x := m2 (548 + 10 * x + 8)) (w := 5) (v := m2 (5 + 6 * m2 (548 + 10 * x + 8) + 5) + 1) (by omega) (by omega) (by omega) (by omega) (by omega) (by omega) (fun _ => by omega) (by omega)
  have e3 : ∀ k, (k < 5 ∨ 56 ≤ k) → k ≠ 548 + 10 * x + 7 → up m2 (5 + 6 * m2 (548 + 10 * x + 8) + 5) (m2 (5 + 6 * m2 (548 + 10 * x + 8) + 5) + 1) k = m k := fun k hk hk7 => by rw [up_ne (by omega), e2 k (by omega) hk7]
  have e33 : up m2 (5 + 6 * m2 (548 + 10 * x + 8) + 5) (m2 (5 + 6 * m2 (548 + 10 * x + 8) + 5) + 1) 3 = m 3 := by rw [up_ne (by omega), e23]
  have e37 : up m2 (5 + 6 * m2 (548 + 10 * x + 8) + 5) (m2 (5 + 6 * m2 (548 + 10 * x + 8) + 5) + 1) (548 + 10 * x + 7) = m (548 + 10 * x + 7) + 1 := by rw [up_ne (by omega), e27]
  obtain ⟨pg3, ln3, ph3⟩ := page_fr (m' := up m2 (5 + 6 * m2 (548 + 10 * x + 8) + 5) (m2 (5 + 6 * m2 (548 + 10 * x + 8) + 5) + 1)) hp (e3 _ (by omega) (by omega)) (e3 _ (by omega) (by omega)) (fun k k0 k1 => e3 _ (by omega) (by omega))
  generalize hm3 : up m2 (5 + 6 * m2 (548 + 10 * x + 8) + 5) (m2 (5 + 6 * m2 (548 + 10 * x + 8) + 5) + 1) = m3 at k3 e3 e33 e37 pg3 ln3 ph3 ⊢
  have e36 : m3 (548 + 10 * x + 6) = m (548 + 10 * x + 6) := e3 _ (by omega) (by omega)
  exact ⟨k3, e33, e36, ln3, by rw [e36, ph3 _ (by omega) (by omega)], e37, q6, by omega⟩
theorem c_X3_work {G : xG} {l : Launch} {a κ : Nat} {β : Nat → Int → Int} {m od : Int → Int} {oc W x : Int} (k0 : Iv0 m W) (hW : 0 ≤ W ∧ W ≤ 100000000) (hA1 : okB1 m x) (hx : 0 ≤ x ∧ x < m 3) (h5 : m (548 + 10 * x + 5) = 1 ∨ m (548 + 10 * x + 5) = 3) (h8 : m (548 + 10 * x + 8) ≠ -1) : CT G l yX3_work cX3_work 4 (some .boolean) ({ frames := 2, cells := 0, slots := 0, locals := 45 } : Room) 0 0 [.ref a, vi x] (PS G a κ β m od oc) (pZ (phB m x (m (548 + 10 * x + 6)) / 4 % 128 - (m (548 + 10 * x + 7) + 1) = 0) (PS G a κ β (w3a m x (phB m x (m (548 + 10 * x + 6)))) od oc)) (AS a) := by
  refine x_met1 (own := RX3) (nm := "work") (L := [(0, .ref a), (1, vi x)]) (by decide) rfl rfl (fun _ => rfl) (Nat.le_of_ble_eq_true rfl) rfl rfl ?_
  intro Γ B R
  have hn := k0.n
  have hb := k0.b hx.1 hx.2
  obtain ⟨hp, hl, hph⟩ := k0.page hx.1 hx.2
  unfold okB0 at hb
  have hv := k0.vs (r := m (548 + 10 * x + 0)) (by omega) (by omega)
  obtain ⟨g3, g33, g36, g3l, g3p, g37, q6, q7⟩ := w3a_E k0 hW hA1 hx h5 h8
  have hpk := hph _ hb.2.2.2.2.2.2.1.1 q6
  have hpk' := hpk
  unfold okP at hpk'
  have hrd := k0.rdC hx.1 hx.2 q6
  have hrd3 : rdC (w3a m x (phB m x (m (548 + 10 * x + 6)))) x := g3.rdC hx.1 (by omega) (by rw [g36, g3l]; exact q6)
  have tail : ∀ (m1 : Int → Int) (L : List (Nat × Value)), m1 = (if (phB m x (m (548 + 10 * x + 6)) / 512 % 4 - 1) = -1 then m else up m (53 + (phB m x (m (548 + 10 * x + 6)) / 512 % 4 - 1)) x) → (∀ q ∈ [(0, Value.ref a), (1, vi x), (2, .ref (bA a x))], lget L q.1 = some q.2) → XJ Γ 0 0 (PS G a κ β m1 od oc) 41 L [] := by
    intro m1 L hm1 hL
    refine x_locs hL ?_
    have e1 : ∀ k, (k < 53 ∨ 56 ≤ k) → m1 k = m k := fun k hk => by
      rw [hm1]
      split
      · rfl
      · exact up_ne (by omega)
    have e17 : m1 (548 + 10 * x + 7) = m (548 + 10 * x + 7) := e1 _ (by omega)
    have e13 : m1 3 = m 3 := e1 _ (by omega)
    have e2 : ∀ k, (k < 53 ∨ 56 ≤ k) → k ≠ 548 + 10 * x + 7 → up m1 (548 + 10 * x + 7) (m1 (548 + 10 * x + 7) + 1) k = m k := fun k hk hk7 => by rw [up_ne hk7, e1 k hk]
    have e3w : w3a m x (phB m x (m (548 + 10 * x + 6))) = (let m2 := up m1 (548 + 10 * x + 7) (m1 (548 + 10 * x + 7) + 1)
        up m2 (5 + 6 * m2 (548 + 10 * x + 8) + 5) (m2 (5 + 6 * m2 (548 + 10 * x + 8) + 5) + 1)) := by
      unfold w3a
      try dsimp only
      rw [← hm1]
    dsimp only at e3w
    generalize hm2 : up m1 (548 + 10 * x + 7) (m1 (548 + 10 * x + 7) + 1) = m2 at e2 e3w
    have u8 : m2 (548 + 10 * x + 8) = m (548 + 10 * x + 8) := e2 _ (by omega) (by omega)
    have e22 : m2 2 = m 2 := e2 _ (by omega) (by omega)
    have e23 : m2 3 = m 3 := e2 _ (by omega) (by omega)
    have e25 : m2 (5 + 6 * m2 (548 + 10 * x + 8) + 5) = m (5 + 6 * m (548 + 10 * x + 8) + 5) := by rw [u8]; exact e2 _ (by omega) (by omega)
    have hu := k0.u (u := m (548 + 10 * x + 8)) (by omega) (by omega)
    unfold okU at hu
    generalize hm3 : w3a m x (phB m x (m (548 + 10 * x + 6))) = m3 at *
    refine x_aload_n B dX3_work_41 rfl ?_
    refine x_dup B dX3_work_42 rfl ?_
    refine x_getI B fgX3_130 dX3_work_43 (PS.gb7 (by omega)) (fun r43 => ?_)
    refine x_iconst B dX3_work_46 ?_
    refine x_iadd B dX3_work_47 ?_
    refine x_put B fpX3_130 dX3_work_48 rfl rfl (by unfold AS bA; omega) (PS.pb7 (by omega) (by omega)) ?_
    rw [hm2]
    refine x_aload_n B dX3_work_51 rfl ?_
    refine x_get B fgX3_11 dX3_work_52 (fun _ h => ⟨_, PS.o h, rfl⟩) ?_
    refine x_aload_n B dX3_work_55 rfl ?_
    refine x_getI B fgX3_117 dX3_work_56 (PS.gb8 (by omega)) (fun r56 => ?_)
    refine x_aald (j := 3) B dX3_work_59 rfl (by omega) (by decide) (PS.au (by omega)) ?_
    refine x_dup B dX3_work_60 rfl ?_
    refine x_getI B fgX3_101 dX3_work_61 (PS.gu4 (by omega)) (fun r61 => ?_)
    refine x_iconst B dX3_work_64 ?_
    refine x_iadd B dX3_work_65 ?_
    refine x_put B fpX3_101 dX3_work_66 rfl rfl (by unfold AS uA; omega) (PS.pu4 (by omega) (by omega)) ?_
    rw [← e3w]
    refine x_aload_n B dX3_work_69 rfl ?_
    refine x_getI B fgX3_130 dX3_work_70 (PS.gb7 (by omega)) (fun r70 => ?_)
    refine x_aload_n B dX3_work_73 rfl ?_
    refine x_aload_n B dX3_work_74 rfl ?_
    refine x_iconst B dX3_work_75 ?_
    refine x_mV B mvX3_104 (fun l => c_X3_valueOf hrd3 (by omega)) dX3_work_76 rfl rfl (by decide) (by decide) (Nat.le_of_ble_eq_true rfl) PS.rv (fun r76 => ?_)
    refine x_top (show pt (phB m3 x (m3 (548 + 10 * x + 6))) 1 = phB m x (m (548 + 10 * x + 6)) / 4 % 128 by rw [g3p]; rfl) ?_
    refine x_icmp_lt (tgt := 86) B dX3_work_79 (by decide) (by omega) (by omega) (fun c79 => ?_) (fun c79 => ?_)
    · refine x_iconst B dX3_work_86 ?_
      exact x_retZ B R dX3_work_87 ((bz_f (by omega)).symm) (fun H h => by exact h)
    · refine x_iconst B dX3_work_82 ?_
      refine x_goto (tgt := 87) B dX3_work_83 (by decide) ?_
      exact x_retZ B R dX3_work_87 ((bz_t (by omega)).symm) (fun H h => by exact h)
  refine x_aload_n B dX3_work_0 rfl ?_
  refine x_get B fgX3_19 dX3_work_1 (fun _ h => ⟨_, PS.o h, rfl⟩) ?_
  refine x_iload_n B dX3_work_4 rfl ?_
  refine x_aald (j := 4) B dX3_work_5 rfl (by omega) (by decide) (PS.ab (by omega)) ?_
  refine x_astore_n B dX3_work_6 (by decide) ?_
  refine x_aload_n B dX3_work_7 rfl ?_
  refine x_aload_n B dX3_work_8 rfl ?_
  refine x_getI B fgX3_117 dX3_work_9 (PS.gb8 (by omega)) (fun r9 => ?_)
  refine x_mZ B mvX3_120 (fun l => c_X3_hasUnit (by omega)) dX3_work_12 rfl rfl (by decide) (by decide) (Nat.le_of_ble_eq_true rfl) PS.rv ?_
  refine x_ifz_ne (tgt := 20) B dX3_work_15 (by decide) (fun c15 => ?_) (fun c15 => ?_)
  · refine x_aload_n B dX3_work_20 rfl ?_
    refine x_aload_n B dX3_work_21 rfl ?_
    refine x_iconst B dX3_work_22 ?_
    refine x_mV B mvX3_104 (fun l => c_X3_valueOf hrd (by omega)) dX3_work_23 rfl rfl (by decide) (by decide) (Nat.le_of_ble_eq_true rfl) PS.rv (fun r23 => ?_)
    refine x_top (show pt (phB m x (m (548 + 10 * x + 6))) 2 = (phB m x (m (548 + 10 * x + 6)) / 512 % 4 - 1) from rfl) ?_
    refine x_istore_n B dX3_work_26 (by decide) ?_
    refine x_iload_n B dX3_work_27 rfl ?_
    refine x_snZ B mnX3_195 nestX3_195 (fun l => c_X6_isPiece (by omega)) dX3_work_28 rfl rfl (by decide) (by decide) (Nat.le_of_ble_eq_true rfl) ?_
    refine x_ifz_eq (tgt := 41) B dX3_work_31 (by decide) (fun c31 => ?_) (fun c31 => ?_)
    · exact tail _ _ (by first | rw [if_pos (by omega)] | rw [if_neg (by omega)]) (xl_cons rfl (xl_cons rfl (xl_cons rfl xl_nil)))
    · refine x_aload_n B dX3_work_34 rfl ?_
      refine x_get B fgX3_23 dX3_work_35 (fun _ h => ⟨_, PS.o h, rfl⟩) ?_
      refine x_iload_n B dX3_work_38 rfl ?_
      refine x_iload_n B dX3_work_39 rfl ?_
      refine x_iast B dX3_work_40 (by omega) (by decide) (by unfold AS; omega) (PS.sh (by omega) (by omega)) ?_
      exact tail _ _ (by first | rw [if_pos (by omega)] | rw [if_neg (by omega)]) (xl_cons rfl (xl_cons rfl (xl_cons rfl xl_nil)))
  · refine x_iconst B dX3_work_18 ?_
    exfalso; omega
/-- whether a batch's tick changes anything -/
def mvd (m : Int → Int) (x : Int) : Prop := ¬ (m (548 + 10 * x + 6) = 0 ∧ m (548 + 10 * x + 7) = 0 ∧ m (548 + 10 * x + 4) ≠ -1 ∧ m (548 + 10 * m (548 + 10 * x + 4) + 5) ≠ 6) ∧ ¬ (m (548 + 10 * x + 8) = -1 ∧ s_uFor m 0 x ((phB m x (m (548 + 10 * x + 6))) % 4) = -1) ∧ (m (548 + 10 * x + 8) = -1 ∨ ¬ ((phB m x (m (548 + 10 * x + 6)) / 512 % 4 - 1) ≠ -1 ∧ m (53 + (phB m x (m (548 + 10 * x + 6)) / 512 % 4 - 1)) ≠ -1 ∧ m (53 + (phB m x (m (548 + 10 * x + 6)) / 512 % 4 - 1)) ≠ x))
def mvdZ (m : Int → Int) (x : Int) : Int := if (m (548 + 10 * x + 6) = 0 ∧ m (548 + 10 * x + 7) = 0 ∧ m (548 + 10 * x + 4) ≠ -1 ∧ m (548 + 10 * m (548 + 10 * x + 4) + 5) ≠ 6) then 0 else if m (548 + 10 * x + 8) = -1 ∧ s_uFor m 0 x ((phB m x (m (548 + 10 * x + 6))) % 4) = -1 then 0 else if m (548 + 10 * x + 8) = -1 then 1 else if ((phB m x (m (548 + 10 * x + 6)) / 512 % 4 - 1) ≠ -1 ∧ m (53 + (phB m x (m (548 + 10 * x + 6)) / 512 % 4 - 1)) ≠ -1 ∧ m (53 + (phB m x (m (548 + 10 * x + 6)) / 512 % 4 - 1)) ≠ x) then 0 else 1
theorem mvdZ_rg (m : Int → Int) (x : Int) : mvdZ m x = 0 ∨ mvdZ m x = 1 := by
  unfold mvdZ
  (repeat' split) <;> omega
theorem mvdZ_0 {m : Int → Int} {x : Int} (h : mvdZ m x = 0) : s_work m x = m := by
  unfold mvdZ at h
  unfold s_work
  try dsimp only
  split at h
  · next h1 => rw [if_pos h1]
  · next h1 =>
    rw [if_neg h1]
    split at h
    · next h2 => rw [if_pos h2.1, if_pos h2.2]
    · next h2 =>
      split at h
      · omega
      · next h3 =>
        rw [if_neg h3]
        split at h
        · next h4 => unfold s_w2; rw [if_pos h4]
        · omega
theorem c_X3_moveOn {G : xG} {l : Launch} {a κ : Nat} {β : Nat → Int → Int} {m od : Int → Int} {oc W x : Int} (hI : Iv m W) (hW : 0 ≤ W ∧ W ≤ 100000000) (hx : 0 ≤ x ∧ x < m 3) (h5 : m (548 + 10 * x + 5) = 1 ∨ m (548 + 10 * x + 5) = 3) : CT G l yX3_moveOn cX3_moveOn 4 (some .boolean) ({ frames := 4, cells := 0, slots := 0, locals := 94 } : Room) 0 0 [.ref a, vi x] (PS G a κ β m od oc) (pZ (mvdZ m x = 1) (PS G a κ β (s_work m x) od oc)) (AS a) := by
  refine x_met1 (own := RX3) (nm := "moveOn") (L := [(0, .ref a), (1, vi x)]) (by decide) rfl rfl (fun _ => rfl) (Nat.le_of_ble_eq_true rfl) rfl rfl ?_
  intro Γ B R
  obtain ⟨h0, hI1, hI2⟩ := Iv_iff.mp hI
  have hn := h0.n
  have hb := h0.b hx.1 hx.2
  obtain ⟨hp, hl, hph⟩ := h0.page hx.1 hx.2
  have hb1 := hI1 x hx.1 hx.2
  have q6 := (hb1.2 (by omega)).1
  have hrd := h0.rdC hx.1 hx.2 q6
  have hb' := hb
  unfold okB0 at hb
  have hR : s_reason m 0 x = if (m (548 + 10 * x + 6) = 0 ∧ m (548 + 10 * x + 7) = 0 ∧ m (548 + 10 * x + 4) ≠ -1 ∧ m (548 + 10 * m (548 + 10 * x + 4) + 5) ≠ 6) then 1 else if m (548 + 10 * x + 8) = -1 ∧ s_uFor m 0 x ((phB m x (m (548 + 10 * x + 6))) % 4) = -1 then 2 else if ((phB m x (m (548 + 10 * x + 6)) / 512 % 4 - 1) ≠ -1 ∧ m (53 + (phB m x (m (548 + 10 * x + 6)) / 512 % 4 - 1)) ≠ -1 ∧ m (53 + (phB m x (m (548 + 10 * x + 6)) / 512 % 4 - 1)) ≠ x) then 3 else 0 := rfl
  have hM : mvdZ m x = if (m (548 + 10 * x + 6) = 0 ∧ m (548 + 10 * x + 7) = 0 ∧ m (548 + 10 * x + 4) ≠ -1 ∧ m (548 + 10 * m (548 + 10 * x + 4) + 5) ≠ 6) then 0 else if m (548 + 10 * x + 8) = -1 ∧ s_uFor m 0 x ((phB m x (m (548 + 10 * x + 6))) % 4) = -1 then 0 else if m (548 + 10 * x + 8) = -1 then 1 else if ((phB m x (m (548 + 10 * x + 6)) / 512 % 4 - 1) ≠ -1 ∧ m (53 + (phB m x (m (548 + 10 * x + 6)) / 512 % 4 - 1)) ≠ -1 ∧ m (53 + (phB m x (m (548 + 10 * x + 6)) / 512 % 4 - 1)) ≠ x) then 0 else 1 := rfl
  have hS : s_work m x = if (m (548 + 10 * x + 6) = 0 ∧ m (548 + 10 * x + 7) = 0 ∧ m (548 + 10 * x + 4) ≠ -1 ∧ m (548 + 10 * m (548 + 10 * x + 4) + 5) ≠ 6) then m else if m (548 + 10 * x + 8) = -1 then (if s_uFor m 0 x ((phB m x (m (548 + 10 * x + 6))) % 4) = -1 then m else s_w2 (s_take m x (s_uFor m 0 x ((phB m x (m (548 + 10 * x + 6))) % 4))) x (phB m x (m (548 + 10 * x + 6)))) else s_w2 m x (phB m x (m (548 + 10 * x + 6))) := rfl
  have hr := lowU_rg (fun u => ((m (5 + 6 * u + 2) = -1 ∧ m (5 + 6 * u + 3) = 0 ∧ m (5 + 6 * u + 4) ≤ 0) ∧ m (5 + 6 * u + 0) = ((phB m x (m (548 + 10 * x + 6))) % 4) ∧ (m (548 + 10 * x + 2)) ≤ m (5 + 6 * u + 1))) (m 2).toNat 0 (by omega)
  have hr' : s_uFor m 0 x ((phB m x (m (548 + 10 * x + 6))) % 4) = -1 ∨ (0 ≤ s_uFor m 0 x ((phB m x (m (548 + 10 * x + 6))) % 4) ∧ s_uFor m 0 x ((phB m x (m (548 + 10 * x + 6))) % 4) < m 2) := by
    unfold s_uFor
    rcases hr with hr | ⟨r1, r2, -⟩
    · exact Or.inl hr
    · right; omega
  have hmv : s_reason m 0 x = 1 ∨ s_reason m 0 x = 2 → mvdZ m x = 0 := by
    intro q
    rw [hR] at q
    rw [hM]
    split at q
    · next h1 => rw [if_pos h1]
    · next h1 =>
      rw [if_neg h1]
      split at q
      · next h2 => rw [if_pos h2]
      · split at q <;> omega
  have hno : ¬ (s_reason m 0 x = 1 ∨ s_reason m 0 x = 2) → ¬ (m (548 + 10 * x + 6) = 0 ∧ m (548 + 10 * x + 7) = 0 ∧ m (548 + 10 * x + 4) ≠ -1 ∧ m (548 + 10 * m (548 + 10 * x + 4) + 5) ≠ 6) ∧ ¬ (m (548 + 10 * x + 8) = -1 ∧ s_uFor m 0 x ((phB m x (m (548 + 10 * x + 6))) % 4) = -1) ∧ (s_reason m 0 x = 3 ↔ ((phB m x (m (548 + 10 * x + 6)) / 512 % 4 - 1) ≠ -1 ∧ m (53 + (phB m x (m (548 + 10 * x + 6)) / 512 % 4 - 1)) ≠ -1 ∧ m (53 + (phB m x (m (548 + 10 * x + 6)) / 512 % 4 - 1)) ≠ x)) ∧ mvdZ m x = (if m (548 + 10 * x + 8) = -1 then 1 else if ((phB m x (m (548 + 10 * x + 6)) / 512 % 4 - 1) ≠ -1 ∧ m (53 + (phB m x (m (548 + 10 * x + 6)) / 512 % 4 - 1)) ≠ -1 ∧ m (53 + (phB m x (m (548 + 10 * x + 6)) / 512 % 4 - 1)) ≠ x) then 0 else 1) ∧ s_work m x = s_w2 (if m (548 + 10 * x + 8) = -1 ∧ s_uFor m 0 x ((phB m x (m (548 + 10 * x + 6))) % 4) ≠ -1 then s_take m x (s_uFor m 0 x ((phB m x (m (548 + 10 * x + 6))) % 4)) else m) x (phB m x (m (548 + 10 * x + 6))) := by
    intro q
    rw [hR] at q
    by_cases w1 : (m (548 + 10 * x + 6) = 0 ∧ m (548 + 10 * x + 7) = 0 ∧ m (548 + 10 * x + 4) ≠ -1 ∧ m (548 + 10 * m (548 + 10 * x + 4) + 5) ≠ 6)
    · rw [if_pos w1] at q; exact absurd (Or.inl rfl) q
    · rw [if_neg w1] at q
      by_cases w2 : m (548 + 10 * x + 8) = -1 ∧ s_uFor m 0 x ((phB m x (m (548 + 10 * x + 6))) % 4) = -1
      · rw [if_pos w2] at q; exact absurd (Or.inr rfl) q
      · refine ⟨w1, w2, ?_, ?_, ?_⟩
        · rw [hR, if_neg w1, if_neg w2]
          constructor
          · intro z
            by_cases w3 : ((phB m x (m (548 + 10 * x + 6)) / 512 % 4 - 1) ≠ -1 ∧ m (53 + (phB m x (m (548 + 10 * x + 6)) / 512 % 4 - 1)) ≠ -1 ∧ m (53 + (phB m x (m (548 + 10 * x + 6)) / 512 % 4 - 1)) ≠ x)
            · exact w3
            · rw [if_neg w3] at z; omega
          · intro z; rw [if_pos z]
        · rw [hM, if_neg w1, if_neg w2]
        · rw [hS, if_neg w1]
          by_cases w8 : m (548 + 10 * x + 8) = -1
          · rw [if_pos w8, if_neg (fun z => w2 ⟨w8, z⟩), if_pos ⟨w8, fun z => w2 ⟨w8, z⟩⟩]
          · rw [if_neg w8, if_neg (fun z => w8 z.1)]
  have tail : ¬ (s_reason m 0 x = 1 ∨ s_reason m 0 x = 2) → XJ Γ 0 0 (PS G a κ β m od oc) 19 [(0, .ref a), (1, vi x), (2, vi (s_reason m 0 x))] [] := by
    intro q
    obtain ⟨w1, w2, w3, wM, wS⟩ := hno q
    have hrr : 0 ≤ s_reason m 0 x ∧ s_reason m 0 x ≤ 3 := by rw [hR]; (repeat' split) <;> omega
    refine x_aload_n B dX3_moveOn_19 rfl ?_
    refine x_iload_n B dX3_moveOn_20 rfl ?_
    refine x_mZ B mvX3_201 (fun l => c_X3_takeUnit (by omega) hrd) dX3_moveOn_21 rfl rfl (by decide) (by decide) (Nat.le_of_ble_eq_true rfl) PS.rv ?_
    have hmA : ∃ mA, mA = (if m (548 + 10 * x + 8) = -1 ∧ s_uFor m 0 x ((phB m x (m (548 + 10 * x + 6))) % 4) ≠ -1 then s_take m x (s_uFor m 0 x ((phB m x (m (548 + 10 * x + 6))) % 4)) else m) := ⟨_, rfl⟩
    obtain ⟨mA, hmA⟩ := hmA
    rw [← hmA] at wS ⊢
    have hA : (∀ k, (k < 4 ∨ 53 ≤ k) → (k < 668 ∨ 788 ≤ k) → k ≠ 548 + 10 * x + 8 → mA k = m k) ∧ Iv0 mA W ∧ mA (548 + 10 * x + 8) ≠ -1 := by
      rw [hmA]
      split
      · next hc =>
        refine ⟨fun k a c d => take_ne (by omega) a c d, take_Iv0 h0 hx.1 hx.2 (by omega) (by omega), ?_⟩
        rw [take_8 (by omega) (by omega)]; omega
      · next hc => exact ⟨fun _ _ _ _ => rfl, h0, by omega⟩
    obtain ⟨eA, kA, hA8⟩ := hA
    obtain ⟨pgA, lnA, phA⟩ := page_fr (m' := mA) hp (eA _ (by omega) (by omega) (by omega)) (eA _ (by omega) (by omega) (by omega)) (fun k k0 k1 => eA _ (by omega) (by omega) (by omega))
    have epA : phB mA x (mA (548 + 10 * x + 6)) = phB m x (m (548 + 10 * x + 6)) := by rw [eA (548 + 10 * x + 6) (by omega) (by omega) (by omega), phA _ (by omega) (by omega)]
    have h53 : ∀ j, 0 ≤ j → j < 3 → mA (53 + j) = m (53 + j) := fun j j0 j1 => eA _ (by omega) (by omega) (by omega)
    have hph' := hph _ hb.2.2.2.2.2.2.1.1 q6
    unfold okP at hph'
    have hsh : ((phB mA x (mA (548 + 10 * x + 6)) / 512 % 4 - 1) ≠ -1 ∧ mA (53 + (phB mA x (mA (548 + 10 * x + 6)) / 512 % 4 - 1)) ≠ -1 ∧ mA (53 + (phB mA x (mA (548 + 10 * x + 6)) / 512 % 4 - 1)) ≠ x) ↔ ((phB m x (m (548 + 10 * x + 6)) / 512 % 4 - 1) ≠ -1 ∧ m (53 + (phB m x (m (548 + 10 * x + 6)) / 512 % 4 - 1)) ≠ -1 ∧ m (53 + (phB m x (m (548 + 10 * x + 6)) / 512 % 4 - 1)) ≠ x) := wShr_eq epA (fun z => h53 _ (by omega) (by omega))
    have hA1 : okB1 mA x := hb1.fr hb' ⟨hp, hl⟩ (eA _ (by omega) (by omega) (by omega)) (eA _ (by omega) (by omega) (by omega)) (fun z => by rw [← eA _ (by omega) (by omega) (by omega)]; exact z) (eA _ (by omega) (by omega) (by omega)) (by rw [eA _ (by omega) (by omega) (by omega)]; omega) (fun k k0 k1 => eA _ (by omega) (by omega) (by omega))
    have hS2 : s_w2 mA x (phB m x (m (548 + 10 * x + 6))) = if ((phB mA x (mA (548 + 10 * x + 6)) / 512 % 4 - 1) ≠ -1 ∧ mA (53 + (phB mA x (mA (548 + 10 * x + 6)) / 512 % 4 - 1)) ≠ -1 ∧ mA (53 + (phB mA x (mA (548 + 10 * x + 6)) / 512 % 4 - 1)) ≠ x) then mA else s_w3 mA x (phB m x (m (548 + 10 * x + 6))) := rfl
    have eA3 : mA 3 = m 3 := eA _ (by omega) (by omega) (by omega)
    have eA5 : mA (548 + 10 * x + 5) = m (548 + 10 * x + 5) := eA _ (by omega) (by omega) (by omega)
    refine x_istore_n B dX3_moveOn_24 (by decide) ?_
    refine x_iload_n B dX3_moveOn_25 rfl ?_
    refine x_iconst B dX3_moveOn_26 ?_
    refine x_icmp_ne (tgt := 32) B dX3_moveOn_27 (by decide) (by omega) (by omega) (fun c27 => ?_) (fun c27 => ?_)
    · refine x_aload_n B dX3_moveOn_32 rfl ?_
      refine x_iload_n B dX3_moveOn_33 rfl ?_
      refine x_mZ B mvX3_204 (fun l => c_X3_work kA hW hA1 ⟨hx.1, by rw [eA3]; exact hx.2⟩ (by rw [eA5]; exact h5) hA8) dX3_moveOn_34 rfl rfl (by decide) (by decide) (Nat.le_of_ble_eq_true rfl) PS.rv ?_
      obtain ⟨g3, g33, g36, g3l, g3p, g37, g66, g77⟩ := w3a_E kA hW hA1 ⟨hx.1, by rw [eA3]; exact hx.2⟩ (by rw [eA5]; exact h5) hA8
      have hS3 := s_w3_eq mA x (phB mA x (mA (548 + 10 * x + 6)))
      refine x_ifz_eq (tgt := 45) B dX3_moveOn_37 (by decide) (fun c37 => ?_) (fun c37 => ?_)
      · refine x_iconst B dX3_moveOn_45 ?_
        have hnsh : ¬ ((phB m x (m (548 + 10 * x + 6)) / 512 % 4 - 1) ≠ -1 ∧ m (53 + (phB m x (m (548 + 10 * x + 6)) / 512 % 4 - 1)) ≠ -1 ∧ m (53 + (phB m x (m (548 + 10 * x + 6)) / 512 % 4 - 1)) ≠ x) := fun z => by have := w3.mpr z; omega
        refine x_retZ B R dX3_moveOn_46 (bz_t ?_).symm (fun H h => ?_)
        · rw [wM, if_neg hnsh]; split <;> rfl
        · rw [wS, hS2, if_neg (fun z => hnsh (hsh.mp z)), ← epA, hS3]
          first
            | (rw [if_pos (by omega)]; exact h)
            | (rw [if_neg (by omega)]; exact h)
      · refine x_aload_n B dX3_moveOn_40 rfl ?_
        refine x_iload_n B dX3_moveOn_41 rfl ?_
        refine x_mN B mvX3_207 (fun l => c_X3_endPhase g3 ⟨hx.1, by omega⟩ (by rw [g36, g3l]; exact g66)) dX3_moveOn_42 rfl rfl (by decide) (by decide) (Nat.le_of_ble_eq_true rfl) PS.rv ?_
        refine x_iconst B dX3_moveOn_45 ?_
        have hnsh : ¬ ((phB m x (m (548 + 10 * x + 6)) / 512 % 4 - 1) ≠ -1 ∧ m (53 + (phB m x (m (548 + 10 * x + 6)) / 512 % 4 - 1)) ≠ -1 ∧ m (53 + (phB m x (m (548 + 10 * x + 6)) / 512 % 4 - 1)) ≠ x) := fun z => by have := w3.mpr z; omega
        refine x_retZ B R dX3_moveOn_46 (bz_t ?_).symm (fun H h => ?_)
        · rw [wM, if_neg hnsh]; split <;> rfl
        · rw [wS, hS2, if_neg (fun z => hnsh (hsh.mp z)), ← epA, hS3]
          first
            | (rw [if_pos (by omega)]; exact h)
            | (rw [if_neg (by omega)]; exact h)
    · refine x_iload_n B dX3_moveOn_30 rfl ?_
      refine x_retZ B R dX3_moveOn_31 (bz_cg ⟨fun z => ?_, fun z => ?_⟩) (fun H h => ?_)
      · rw [wM, if_pos z.1]
      · rw [wM] at z
        by_cases w8 : m (548 + 10 * x + 8) = -1
        · exact ⟨w8, fun y => w2 ⟨w8, y⟩⟩
        · rw [if_neg w8, if_pos (w3.mp (by omega))] at z; omega
      · rw [wS, hS2, if_pos (hsh.mpr (w3.mp (by omega)))]; exact h
  refine x_aload_n B dX3_moveOn_0 rfl ?_
  refine x_iload_n B dX3_moveOn_1 rfl ?_
  refine x_iconst B dX3_moveOn_2 ?_
  refine x_mV B mvX3_198 (fun l => c_X3_reasonToWait (by omega) hrd (by omega) (by omega) (by omega)) dX3_moveOn_3 rfl rfl (by decide) (by decide) (Nat.le_of_ble_eq_true rfl) PS.rv (fun r3 => ?_)
  refine x_istore_n B dX3_moveOn_6 (by decide) ?_
  refine x_iload_n B dX3_moveOn_7 rfl ?_
  refine x_iconst B dX3_moveOn_8 ?_
  refine x_icmp_eq (tgt := 17) B dX3_moveOn_9 (by decide) (by omega) (by omega) (fun c9 => ?_) (fun c9 => ?_)
  · refine x_iconst B dX3_moveOn_17 ?_
    have h0' := hmv (by omega)
    exact x_retZ B R dX3_moveOn_18 (bz_f (by omega)).symm (fun H h => by rw [mvdZ_0 h0']; exact h)
  · refine x_iload_n B dX3_moveOn_12 rfl ?_
    refine x_iconst B dX3_moveOn_13 ?_
    refine x_icmp_ne (tgt := 19) B dX3_moveOn_14 (by decide) (by omega) (by omega) (fun c14 => ?_) (fun c14 => ?_)
    · exact x_locs (xl_cons rfl (xl_cons rfl (xl_cons rfl xl_nil))) (tail (by omega))
    · refine x_iconst B dX3_moveOn_17 ?_
      have h0' := hmv (by omega)
      exact x_retZ B R dX3_moveOn_18 (bz_f (by omega)).symm (fun H h => by rw [mvdZ_0 h0']; exact h)

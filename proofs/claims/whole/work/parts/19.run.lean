/-! ===== the reference: run, ticksTo, batch, batchInfo ===== -/
def eqR (ρ ρ' : Nat → Int → Int) : Prop := ρ' 1 = ρ 1 ∧ ρ' 2 = ρ 2 ∧ ρ' 5 0 = ρ 5 0 ∧ ρ' 5 1 = ρ 5 1
/-- the reference's cells, what a call leaves behind of its own notes left open -/
def PMx (G : xG) (b : Nat) (m : Int → Int) (ρ : Nat → Int → Int) (H : Heap) : Prop := ∃ ρ', eqR ρ ρ' ∧ PM G b m ρ' H
theorem PM.x {G : xG} {b : Nat} {m : Int → Int} {ρ ρ' : Nat → Int → Int} {H : Heap} (h : PM G b m ρ' H) (e : eqR ρ ρ') : PMx G b m ρ H := ⟨ρ', e, h⟩
theorem eqR.rf {ρ : Nat → Int → Int} : eqR ρ ρ := ⟨rfl, rfl, rfl, rfl⟩
theorem x_retX {Γ : xE} {G : xG} {cc : ByteArray} {own : String} {nL : Nat} {rm : Room} {A : Nat → Prop} {kc ks pc b : Nat} {L : List (Nat × Value)} {nm : String} {o : Int × (Int → Int) × (Nat → Int → Int)} {z : Int} {m' : Int → Int} {ρ' ρ'' : Nat → Int → Int} (B : XB Γ G cc own nL rm A) (R : XR Γ nm (some .int) kc ks (xQ (pI o.1 (PMx G b o.2.1 o.2.2)) A)) (d : decode cc pc = .ok (.ireturn, 1)) (he : o = (z, m', ρ'')) (hz : -2147483648 ≤ z ∧ z < 2147483648) (hr : eqR ρ'' ρ') : XJ Γ kc ks (PM G b m' ρ') pc L [vi z] := by
  subst he
  exact x_retI B R d rfl hz (fun H h => ⟨ρ', hr, h⟩)
theorem ticks_E {m : Int → Int} {W : Int} (h : Iv m W) : ∀ n : Nat, m 1 + n ≤ 60000 → Iv (s_ticks n m) (W + 12 * n) ∧ s_ticks n m 1 = m 1 + n ∧ (∀ k, (k = 0 ∨ k = 2 ∨ k = 3 ∨ (56 ≤ k ∧ k < 548)) → s_ticks n m k = m k) ∧ (∀ y w, 0 ≤ y → y < m 3 → 0 ≤ w → w < 5 → s_ticks n m (548 + 10 * y + w) = m (548 + 10 * y + w)) ∧ (∀ y w, 0 ≤ y → y < m 3 → ¬ s_actv m y → 0 ≤ w → w < 10 → s_ticks n m (548 + 10 * y + w) = m (548 + 10 * y + w)) ∧
    ∀ y, 0 ≤ y → y < m 3 → (s_ticks n m) (548 + 10 * y + 5) = m (548 + 10 * y + 5) ∨ ((m (548 + 10 * y + 5) = 1 ∨ m (548 + 10 * y + 5) = 3) ∧ ((s_ticks n m) (548 + 10 * y + 5) = 4 ∨ (s_ticks n m) (548 + 10 * y + 5) = 6))
  | 0, _ => ⟨by simpa [s_ticks] using h, by simp [s_ticks], fun _ _ => rfl, fun _ _ _ _ _ _ => rfl, fun _ _ _ _ _ _ _ => rfl, fun _ _ _ => Or.inl rfl⟩
  | n + 1, hn => by
    obtain ⟨g0, g1, g2, g3, g4, g5⟩ := ticks_E h n (by omega)
    obtain ⟨t0, t1, t2, t3, t4, t5⟩ := tick_E g0 (by omega)
    have e3 := g2 3 (by omega)
    have eW : W + 12 * ((n + 1 : Nat) : Int) = W + 12 * (n : Int) + 12 := by omega
    refine ⟨by rw [eW]; exact t0, ?_, fun k hk => ?_, fun y w y0 y1 w0 w1 => ?_, fun y w y0 y1 ha w0 w1 => ?_, fun y y0 y1 => ?_⟩
    · show s_tick (s_ticks n m) 1 = _
      rw [t1, g1]
      omega
    · show s_tick (s_ticks n m) k = _
      rw [t2 k hk, g2 k hk]
    · show s_tick (s_ticks n m) _ = _
      rw [t3 y w y0 (by omega) w0 w1, g3 y w y0 y1 w0 w1]
    · show s_tick (s_ticks n m) _ = _
      rw [t4 y w y0 (by omega) (by unfold s_actv at ha ⊢; rw [g4 y 5 y0 y1 ha (by omega) (by omega)]; exact ha) w0 w1, g4 y w y0 y1 ha w0 w1]
    · have q1 := t5 y y0 (by omega)
      have q2 := g5 y y0 y1
      show (s_tick (s_ticks n m)) (548 + 10 * y + 5) = _ ∨ (_ ∧ ((s_tick (s_ticks n m)) (548 + 10 * y + 5) = 4 ∨ (s_tick (s_ticks n m)) (548 + 10 * y + 5) = 6))
      omega
def o_run (m : Int → Int) (ρ : Nat → Int → Int) (t : Int) : xO :=
  if ¬ (1 ≤ t ∧ t ≤ 500) then (-1, m, ρ) else if 50000 < m 1 + t then (-3, m, ρ) else
  (cntB (s_ticks t.toNat m) 6 (s_ticks t.toNat m 3).toNat - cntB m 6 (m 3).toNat, s_ticks t.toNat m, s_keep m ρ)
theorem c_X7_run {G : xG} {l : Launch} {b : Nat} {m : Int → Int} {ρ : Nat → Int → Int} {W x : Int} (h1 : Iv m W) (h2 : Ir ρ) (hW : 0 ≤ W ∧ W ≤ 80000000) (ht : m 1 ≤ 50000) (h3 : -2147483648 ≤ x ∧ x < 2147483648) : CT G l yX7_run cX7_run 4 (some .int) ({ frames := 6, cells := 0, slots := 0, locals := 137 } : Room) 0 0 [.ref b, vi x] (PM G b m ρ) (pI (o_run m ρ x).1 (PMx G b (o_run m ρ x).2.1 (o_run m ρ x).2.2)) (AM b) := by
  refine x_met1 (own := RX7) (nm := "run") (L := [(0, .ref b), (1, vi x)]) (by decide) rfl rfl (fun _ => rfl) (Nat.le_of_ble_eq_true rfl) rfl rfl ?_
  intro Γ B R
  have hn := h1.n
  have hr := h2.1
  have loop : ∀ (r : Nat) (k : Nat) (ρ' : Nat → Int → Int), (1 ≤ x ∧ x ≤ 500) → m 1 + x ≤ 50000 → (k : Int) + r = x → eqR (s_keep m ρ) ρ' → XJ Γ 0 0 (PM G b (s_ticks k m) ρ') 42 [(0, .ref b), (1, vi x), (2, vi (cntB m 6 (m 3).toNat)), (3, vi (k : Int))] [] := by
    intro r
    induction r with
    | zero =>
      intro k ρ' hx ht hk he
      obtain ⟨g0, g1, g2, g3, g4, g5⟩ := ticks_E h1 k (by omega)
      have e3 := g2 3 (by omega)
      have hc1 := cntB_rg m 6 (m 3).toNat
      have hc2 := cntB_rg (s_ticks k m) 6 (s_ticks k m 3).toNat
      have ek : x.toNat = k := by omega
      refine x_iload_n B dX7_run_42 rfl ?_
      refine x_iload_n B dX7_run_43 rfl ?_
      refine x_icmp_ge (tgt := 57) B dX7_run_44 (by decide) (by omega) (by omega) (fun c44 => ?_) (fun c44 => ?_)
      · refine x_aload_n B dX7_run_57 rfl ?_
        refine x_bipush B dX7_run_58 (by decide) ?_
        refine x_mV B mvX7_161 (fun l => c_X7_many (by omega) (by omega)) dX7_run_60 rfl rfl (by decide) (by decide) (Nat.le_of_ble_eq_true rfl) PM.rv (fun r60 => ?_)
        refine x_iload_n B dX7_run_63 rfl ?_
        refine x_isub B dX7_run_64 ?_
        exact x_retX B R dX7_run_65 (by unfold o_run; rw [if_neg (by omega), if_neg (by omega), ek]) (by omega) he
      · omega
    | succ r ih =>
      intro k ρ' hx ht hk he
      obtain ⟨g0, g1, g2, g3, g4, g5⟩ := ticks_E h1 k (by omega)
      refine x_iload_n B dX7_run_42 rfl ?_
      refine x_iload_n B dX7_run_43 rfl ?_
      refine x_icmp_ge (tgt := 57) B dX7_run_44 (by decide) (by omega) (by omega) (fun c44 => ?_) (fun c44 => ?_)
      · omega
      · refine x_aload_n B dX7_run_47 rfl ?_
        refine x_mN B mvX7_206 (fun l => c_X7_tick g0 (by omega) (by omega)) dX7_run_48 rfl rfl (by decide) (by decide) (Nat.le_of_ble_eq_true rfl) PM.rv ?_
        refine x_ex (fun H h => h) (fun o => ?_)
        refine x_iinc B dX7_run_51 rfl (by decide) ?_
        refine x_goto (tgt := 42) B dX7_run_54 (by decide) ?_
        exact ih (k + 1) _ hx ht (by omega) ⟨he.1, he.2.1, he.2.2.1, he.2.2.2⟩
  refine x_iload_n B dX7_run_0 rfl ?_
  refine x_iconst B dX7_run_1 ?_
  refine x_sipush B dX7_run_2 (by decide) ?_
  refine x_sZ B msX7_36 (fun l => c_X7_in (by omega) (by omega) (by omega)) dX7_run_5 rfl rfl (by decide) (by decide) (Nat.le_of_ble_eq_true rfl) ?_
  refine x_ifz_ne (tgt := 13) B dX7_run_8 (by decide) (fun c8 => ?_) (fun c8 => ?_)
  · refine x_aload_n B dX7_run_13 rfl ?_
    refine x_get B fgX7_7 dX7_run_14 (fun _ h => ⟨_, PM.o h, rfl⟩) ?_
    refine x_iconst B dX7_run_17 ?_
    refine x_ialdR B dX7_run_18 (by omega) (by decide) PM.am (fun r18 => ?_)
    refine x_iload_n B dX7_run_19 rfl ?_
    refine x_iadd B dX7_run_20 ?_
    refine x_ldc (n := 50000) B dX7_run_21 ckX7_205 rfl ?_
    refine x_icmp_le (tgt := 29) B dX7_run_23 (by decide) (by omega) (by omega) (fun c23 => ?_) (fun c23 => ?_)
    · refine x_aload_n B dX7_run_29 rfl ?_
      refine x_mN B mvX7_44 (fun l => c_X7_keep (by omega)) dX7_run_30 rfl rfl (by decide) (by decide) (Nat.le_of_ble_eq_true rfl) PM.rv ?_
      refine x_aload_n B dX7_run_33 rfl ?_
      refine x_bipush B dX7_run_34 (by decide) ?_
      refine x_mV B mvX7_161 (fun l => c_X7_many (by omega) (by omega)) dX7_run_36 rfl rfl (by decide) (by decide) (Nat.le_of_ble_eq_true rfl) PM.rv (fun r36 => ?_)
      refine x_istore_n B dX7_run_39 (by decide) ?_
      refine x_iconst B dX7_run_40 ?_
      refine x_istore_n B dX7_run_41 (by decide) ?_
      exact loop x.toNat 0 _ c8 (by omega) (by omega) eqR.rf
    · refine x_bipush B dX7_run_26 (by decide) ?_
      exact x_retX B R dX7_run_28 (by unfold o_run; rw [if_neg (by omega), if_pos (by omega)]) (by omega) eqR.rf
  · refine x_iconst B dX7_run_11 ?_
    exact x_retX B R dX7_run_12 (by unfold o_run; rw [if_pos c8]) (by omega) eqR.rf
/-- after how many ticks a batch is complete: the first that will do, from n on -/
def s_to (m : Int → Int) (b : Int) : Nat → Nat → Int
  | 0, n => if (s_ticks n m) (548 + 10 * b + 5) = 6 then n else -4
  | f + 1, n => if (s_ticks n m) (548 + 10 * b + 5) = 6 then n else s_to m b f (n + 1)
def o_ticksTo (m : Int → Int) (ρ : Nat → Int → Int) (b : Int) : xO := if ¬ (0 ≤ b ∧ b ≤ m 3 - 1) then (-1, m, ρ) else (s_to m b 2000 0, m, ρ)
theorem c_X7_ticksTo {G : xG} {l : Launch} {b : Nat} {m : Int → Int} {ρ : Nat → Int → Int} {W x : Int} (h1 : Iv m W) (hW : 0 ≤ W ∧ W ≤ 80000000) (ht : m 1 ≤ 50000) (h3 : -2147483648 ≤ x ∧ x < 2147483648) : CT G l yX7_ticksTo cX7_ticksTo 4 (some .int) ({ frames := 6, cells := 0, slots := 0, locals := 137 } : Room) 0 0 [.ref b, vi x] (PM G b m ρ) (pI (o_ticksTo m ρ x).1 (PMx G b (o_ticksTo m ρ x).2.1 (o_ticksTo m ρ x).2.2)) (AM b) := by
  refine x_met1 (own := RX7) (nm := "ticksTo") (L := [(0, .ref b), (1, vi x)]) (by decide) rfl rfl (fun _ => rfl) (Nat.le_of_ble_eq_true rfl) rfl rfl ?_
  intro Γ B R
  have hn := h1.n
  have hmr : ∀ H, PM G b m ρ H → ∀ k, -2147483648 ≤ m k ∧ m k < 2147483648 := fun H h => h.2.2.2.2.2.2.2.1
  refine x_fact hmr (fun hmr => ?_)
  have tail : ∀ (n : Nat) (ρ' : Nat → Int → Int), (0 ≤ x ∧ x ≤ m 3 - 1) → n ≤ 2000 → eqR ρ ρ' → ρ' 0 = cpyN m (ρ 0) 0 0 788 → s_to m x 2000 0 = (if (s_ticks n m) (548 + 10 * x + 5) = 6 then (n : Int) else -4) → XJ Γ 0 0 (PM G b (s_ticks n m) ρ') 53 [(0, .ref b), (1, vi x), (2, vi (n : Int))] [] := by
    intro n ρ' hx hn2 he h0 hs
    refine x_aload_n B dX7_ticksTo_53 rfl ?_
    refine x_iload_n B dX7_ticksTo_54 rfl ?_
    refine x_iconst B dX7_ticksTo_55 ?_
    refine x_mV B mvX7_40 (fun l => c_X7_of (by omega)) dX7_ticksTo_56 rfl rfl (by decide) (by decide) (Nat.le_of_ble_eq_true rfl) PM.rv (fun r56 => ?_)
    refine x_bipush B dX7_ticksTo_59 (by decide) ?_
    refine x_icmp_ne (tgt := 68) B dX7_ticksTo_61 (by decide) (by omega) (by omega) (fun c61 => ?_) (fun c61 => ?_)
    · refine x_iconst B dX7_ticksTo_68 ?_
      refine x_istore_n B dX7_ticksTo_69 (by decide) ?_
      refine x_aload_n B dX7_ticksTo_70 rfl ?_
      refine x_get B fgX7_13 dX7_ticksTo_71 (fun _ h => ⟨_, PM.o h, rfl⟩) ?_
      refine x_iconst B dX7_ticksTo_74 ?_
      refine x_aload_n B dX7_ticksTo_75 rfl ?_
      refine x_get B fgX7_7 dX7_ticksTo_76 (fun _ h => ⟨_, PM.o h, rfl⟩) ?_
      refine x_iconst B dX7_ticksTo_79 ?_
      refine x_sN B msX7_32 (fun l => c_X7_bring (Pg := fun g => PM G b g ρ') (nf := 788) (nt := 788) (fun g H h => PM.a0 H h) (fun g z v hv => PM.sm hv) (by unfold AM; omega) (by omega) (by omega) ) dX7_ticksTo_80 rfl rfl (by decide) (by decide) (Nat.le_of_ble_eq_true rfl) ?_
      refine x_weak (fun H h => PM.congr (m' := m) h (fun k a c => by rw [h0]; exact cpy_back a c) hmr) ?_
      refine x_iload_n B dX7_ticksTo_83 rfl ?_
      refine x_if_eq (tgt := 91) B dX7_ticksTo_84 (by decide) (by omega) (fun _ => ?_) (fun c84 => by exfalso; revert c84; decide)
      refine x_bipush B dX7_ticksTo_91 (by decide) ?_
      exact x_retX B R dX7_ticksTo_93 (by unfold o_ticksTo; rw [if_neg (by omega), hs]; first | rw [if_pos (by omega)] | rw [if_neg (by omega)]) (by omega) he
    · refine x_iconst B dX7_ticksTo_64 ?_
      refine x_goto (tgt := 69) B dX7_ticksTo_65 (by decide) ?_
      refine x_istore_n B dX7_ticksTo_69 (by decide) ?_
      refine x_aload_n B dX7_ticksTo_70 rfl ?_
      refine x_get B fgX7_13 dX7_ticksTo_71 (fun _ h => ⟨_, PM.o h, rfl⟩) ?_
      refine x_iconst B dX7_ticksTo_74 ?_
      refine x_aload_n B dX7_ticksTo_75 rfl ?_
      refine x_get B fgX7_7 dX7_ticksTo_76 (fun _ h => ⟨_, PM.o h, rfl⟩) ?_
      refine x_iconst B dX7_ticksTo_79 ?_
      refine x_sN B msX7_32 (fun l => c_X7_bring (Pg := fun g => PM G b g ρ') (nf := 788) (nt := 788) (fun g H h => PM.a0 H h) (fun g z v hv => PM.sm hv) (by unfold AM; omega) (by omega) (by omega) ) dX7_ticksTo_80 rfl rfl (by decide) (by decide) (Nat.le_of_ble_eq_true rfl) ?_
      refine x_weak (fun H h => PM.congr (m' := m) h (fun k a c => by rw [h0]; exact cpy_back a c) hmr) ?_
      refine x_iload_n B dX7_ticksTo_83 rfl ?_
      refine x_if_eq (tgt := 91) B dX7_ticksTo_84 (by decide) (by omega) (fun c84 => by exfalso; revert c84; decide) (fun _ => ?_)
      refine x_iload_n B dX7_ticksTo_87 rfl ?_
      refine x_goto (tgt := 93) B dX7_ticksTo_88 (by decide) ?_
      exact x_retX B R dX7_ticksTo_93 (by unfold o_ticksTo; rw [if_neg (by omega), hs]; first | rw [if_pos (by omega)] | rw [if_neg (by omega)]) (by omega) he
  have loop : ∀ (f : Nat) (n : Nat) (ρ' : Nat → Int → Int), (0 ≤ x ∧ x ≤ m 3 - 1) → n + f = 2000 → eqR ρ ρ' → ρ' 0 = cpyN m (ρ 0) 0 0 788 → s_to m x 2000 0 = s_to m x f n → XJ Γ 0 0 (PM G b (s_ticks n m) ρ') 25 [(0, .ref b), (1, vi x), (2, vi (n : Int))] [] := by
    intro f
    induction f with
    | zero =>
      intro n ρ' hx hn2 he h0 hs
      refine x_iload_n B dX7_ticksTo_25 rfl ?_
      refine x_sipush B dX7_ticksTo_26 (by decide) ?_
      refine x_icmp_ge (tgt := 53) B dX7_ticksTo_29 (by decide) (by omega) (by omega) (fun c29 => ?_) (fun c29 => ?_)
      · exact tail n ρ' hx (by omega) he h0 hs
      · omega
    | succ f ih =>
      intro n ρ' hx hn2 he h0 hs
      obtain ⟨g0, g1, g2, g3, g4, g5⟩ := ticks_E h1 n (by omega)
      refine x_iload_n B dX7_ticksTo_25 rfl ?_
      refine x_sipush B dX7_ticksTo_26 (by decide) ?_
      refine x_icmp_ge (tgt := 53) B dX7_ticksTo_29 (by decide) (by omega) (by omega) (fun c29 => ?_) (fun c29 => ?_)
      · first
          | omega
          | exact tail n ρ' hx (by omega) he h0 (by rw [hs, s_to, if_pos (by assumption), if_pos (by assumption)])
      · refine x_aload_n B dX7_ticksTo_32 rfl ?_
        refine x_iload_n B dX7_ticksTo_33 rfl ?_
        refine x_iconst B dX7_ticksTo_34 ?_
        refine x_mV B mvX7_40 (fun l => c_X7_of (by omega)) dX7_ticksTo_35 rfl rfl (by decide) (by decide) (Nat.le_of_ble_eq_true rfl) PM.rv (fun r35 => ?_)
        refine x_bipush B dX7_ticksTo_38 (by decide) ?_
        refine x_icmp_eq (tgt := 53) B dX7_ticksTo_40 (by decide) (by omega) (by omega) (fun c40 => ?_) (fun c40 => ?_)
        · first
            | omega
            | exact tail n ρ' hx (by omega) he h0 (by rw [hs, s_to, if_pos (by assumption), if_pos (by assumption)])
        · refine x_aload_n B dX7_ticksTo_43 rfl ?_
          refine x_mN B mvX7_206 (fun l => c_X7_tick g0 (by omega) (by omega)) dX7_ticksTo_44 rfl rfl (by decide) (by decide) (Nat.le_of_ble_eq_true rfl) PM.rv ?_
          refine x_ex (fun H h => h) (fun o => ?_)
          refine x_iinc B dX7_ticksTo_47 rfl (by decide) ?_
          refine x_goto (tgt := 25) B dX7_ticksTo_50 (by decide) ?_
          exact ih (n + 1) _ hx (by omega) ⟨he.1, he.2.1, he.2.2.1, he.2.2.2⟩ h0 (by rw [hs, s_to, if_neg (by assumption)])
  refine x_aload_n B dX7_ticksTo_0 rfl ?_
  refine x_iload_n B dX7_ticksTo_1 rfl ?_
  refine x_mZ B mvX7_152 (fun l => c_X7_isBatch (by omega) (by omega)) dX7_ticksTo_2 rfl rfl (by decide) (by decide) (Nat.le_of_ble_eq_true rfl) PM.rv ?_
  refine x_ifz_ne (tgt := 10) B dX7_ticksTo_5 (by decide) (fun c5 => ?_) (fun c5 => ?_)
  · refine x_us 0 ?_
    refine x_aload_n B dX7_ticksTo_10 rfl ?_
    refine x_get B fgX7_7 dX7_ticksTo_11 (fun _ h => ⟨_, PM.o h, rfl⟩) ?_
    refine x_iconst B dX7_ticksTo_14 ?_
    refine x_aload_n B dX7_ticksTo_15 rfl ?_
    refine x_get B fgX7_13 dX7_ticksTo_16 (fun _ h => ⟨_, PM.o h, rfl⟩) ?_
    refine x_iconst B dX7_ticksTo_19 ?_
    refine x_sN B msX7_32 (fun l => c_X7_bring (Pg := fun g => PM G b m (ur ρ 0 g)) (nf := 788) (nt := 788) (fun g H h => PM.am H h) (fun g z v hv => PM.t0 hv) (by unfold AM; omega) (by omega) (by omega) ) dX7_ticksTo_20 rfl rfl (by decide) (by decide) (Nat.le_of_ble_eq_true rfl) ?_
    refine x_iconst B dX7_ticksTo_23 ?_
    refine x_istore_n B dX7_ticksTo_24 (by decide) ?_
    exact loop 2000 0 _ c5 (by omega) ⟨rfl, rfl, rfl, rfl⟩ rfl rfl
  · refine x_iconst B dX7_ticksTo_8 ?_
    exact x_retX B R dX7_ticksTo_9 (by unfold o_ticksTo; rw [if_pos c5]) (by omega) eqR.rf
/-- a size as a float -/
theorem f_size {n : Int} (hn : 1 ≤ n ∧ n ≤ 10000) : okF 0 (fI (FP.i2f (Int32.ofInt n))) ∧ (FP.i2f (Int32.ofInt n)).toNat < 2139095040 := by
  have e : (Int32.ofInt n).toInt = n := Int32.toInt_ofInt_of_le (by omega) (by omega)
  have hv : FP.Core.val32 (FP.i2f (Int32.ofInt n)) = FP.Core.roundRatio FP.Core.b32 false n.toNat 1 0 := by
    rw [show FP.i2f (Int32.ofInt n) = FP.Core.i2f (Int32.ofInt n) from rfl, FP.Core.val32_i2f, e]
    unfold FP.Core.ofInt FP.Core.round
    rw [decide_eq_false (by omega), show n.natAbs = n.toNat by omega]
  have hq : FP.Core.b32.qmin = -149 := by decide
  have hin : FP.Core.inUnits n.toNat 0 (-149) = n.toNat * 2 ^ 149 := rfl
  have h1 : FP.Core.mag FP.Core.b32 (FP.i2f (Int32.ofInt n)).toNat ≤ 1176256512 := by
    refine FP.Core.mag_le FP.Core.good_b32 (e0 := -149) hv (by decide) (by rw [hq]; omega) (by omega) ?_
    rw [hin, f_units (by omega), hq, show ((-149 : Int) - -149).toNat = 0 by decide]
    have : n.toNat * 2 ^ 149 ≤ 10000 * 2 ^ 149 := Nat.mul_le_mul_right _ (by omega)
    refine Nat.le_trans this ?_
    decide
  have h2 : 1065353216 ≤ FP.Core.mag FP.Core.b32 (FP.i2f (Int32.ofInt n)).toNat := by
    refine FP.Core.mag_ge FP.Core.good_b32 (e0 := -149) hv (by decide) (by rw [hq]; omega) (by omega) (by rw [FP.Core.infBits_b32]; omega) ?_
    rw [hin, f_units (by omega), hq, show ((-149 : Int) - -149).toNat = 0 by decide]
    have : 1 * 2 ^ 149 ≤ n.toNat * 2 ^ 149 := Nat.mul_le_mul_right _ (by omega)
    refine Nat.le_trans ?_ this
    decide
  rw [FP.Core.mag_toNat32] at h1 h2
  have h5 := f_pos hv (by omega)
  refine ⟨?_, by omega⟩
  unfold okF
  rw [fI_nat h5]
  omega
def s_batch (m : Int → Int) (r sz pr bf : Int) : Int → Int :=
  let b := m 3
  let m1 := up m 3 (m 3 + 1)
  up (up (up (up (up (up (up (up (up (up (m1) (548 + 10 * b + 0) r) (548 + 10 * b + 1) (up m1 (548 + 10 * b + 0) r (56 + r))) (548 + 10 * b + 2) sz) (548 + 10 * b + 3) pr) (548 + 10 * b + 4) bf) (548 + 10 * b + 5) 0) (548 + 10 * b + 6) 0) (548 + 10 * b + 7) 0) (548 + 10 * b + 8) (-1)) (548 + 10 * b + 9) (fI (FP.i2f (Int32.ofInt sz)))
def o_batch (m : Int → Int) (ρ : Nat → Int → Int) (r sz pr bf : Int) : xO :=
  if ¬ ((0 ≤ r ∧ r ≤ 5) ∧ (1 ≤ sz ∧ sz ≤ 10000) ∧ (0 ≤ pr ∧ pr ≤ 9) ∧ (bf = -1 ∨ (0 ≤ bf ∧ bf ≤ m 3 - 1))) then (-1, m, ρ) else
  if m (56 + r) = 0 ∨ (bf ≠ -1 ∧ (m (548 + 10 * bf + 5) = 4 ∨ m (548 + 10 * bf + 5) = 5)) then (-2, m, ρ) else if m 3 = 12 then (-3, m, ρ) else
  (m 3, s_batch m r sz pr bf, s_keep m ρ)
theorem c_X7_batch {G : xG} {l : Launch} {b : Nat} {m : Int → Int} {ρ : Nat → Int → Int} {W r sz pr bf : Int} (h1 : Iv m W) (h2 : Ir ρ) (h3 : -2147483648 ≤ r ∧ r < 2147483648) (h4 : -2147483648 ≤ sz ∧ sz < 2147483648) (h5 : -2147483648 ≤ pr ∧ pr < 2147483648) (h6 : -2147483648 ≤ bf ∧ bf < 2147483648) : CT G l yX7_batch cX7_batch 7 (some .int) ({ frames := 2, cells := 0, slots := 0, locals := 52 } : Room) 0 0 [.ref b, vi r, vi sz, vi pr, vi bf] (PM G b m ρ) (pI (o_batch m ρ r sz pr bf).1 (PM G b (o_batch m ρ r sz pr bf).2.1 (o_batch m ρ r sz pr bf).2.2)) (AM b) := by
  refine x_met1 (own := RX7) (nm := "batch") (L := [(0, .ref b), (1, vi r), (2, vi sz), (3, vi pr), (4, vi bf)]) (by decide) rfl rfl (fun _ => rfl) (Nat.le_of_ble_eq_true rfl) rfl rfl ?_
  intro Γ B R
  have hn := h1.n
  have hr := h2.1
  have tail : (0 ≤ r ∧ r ≤ 5) → (1 ≤ sz ∧ sz ≤ 10000) → m 3 ≠ 12 → o_batch m ρ r sz pr bf = (m 3, s_batch m r sz pr bf, s_keep m ρ) → XJ Γ 0 0 (PM G b m ρ) 114 [(0, .ref b), (1, vi r), (2, vi sz), (3, vi pr), (4, vi bf)] [] := by
    intro q1 q2 q3 q5
    obtain ⟨-, hfl⟩ := f_size q2
    refine x_aload_n B dX7_batch_114 rfl ?_
    refine x_mN B mvX7_44 (fun l => c_X7_keep (by omega)) dX7_batch_115 rfl rfl (by decide) (by decide) (Nat.le_of_ble_eq_true rfl) PM.rv ?_
    refine x_aload_n B dX7_batch_118 rfl ?_
    refine x_get B fgX7_7 dX7_batch_119 (fun _ h => ⟨_, PM.o h, rfl⟩) ?_
    refine x_iconst B dX7_batch_122 ?_
    refine x_ialdR B dX7_batch_123 (by omega) (by decide) PM.am (fun r123 => ?_)
    refine x_istore B dX7_batch_124 (by decide) ?_
    refine x_aload_n B dX7_batch_126 rfl ?_
    refine x_get B fgX7_7 dX7_batch_127 (fun _ h => ⟨_, PM.o h, rfl⟩) ?_
    refine x_iconst B dX7_batch_130 ?_
    refine x_dup2 B dX7_batch_131 rfl rfl ?_
    refine x_ialdR B dX7_batch_132 (by omega) (by decide) PM.am (fun r132 => ?_)
    refine x_iconst B dX7_batch_133 ?_
    refine x_iadd B dX7_batch_134 ?_
    refine x_iast B dX7_batch_135 (by omega) (by decide) (by unfold AM; omega) (PM.sm (by omega)) ?_
    refine x_aload_n B dX7_batch_136 rfl ?_
    refine x_iload B dX7_batch_137 rfl ?_
    refine x_iconst B dX7_batch_139 ?_
    refine x_iload_n B dX7_batch_140 rfl ?_
    refine x_mN B mvX7_54 (fun l => c_X7_put (by omega) (by omega)) dX7_batch_141 rfl rfl (by decide) (by decide) (Nat.le_of_ble_eq_true rfl) PM.rv ?_
    refine x_aload_n B dX7_batch_144 rfl ?_
    refine x_iload B dX7_batch_145 rfl ?_
    refine x_iconst B dX7_batch_147 ?_
    refine x_aload_n B dX7_batch_148 rfl ?_
    refine x_get B fgX7_7 dX7_batch_149 (fun _ h => ⟨_, PM.o h, rfl⟩) ?_
    refine x_bipush B dX7_batch_152 (by decide) ?_
    refine x_iload_n B dX7_batch_154 rfl ?_
    refine x_iadd B dX7_batch_155 ?_
    refine x_ialdR B dX7_batch_156 (by omega) (by decide) PM.am (fun r156 => ?_)
    refine x_mN B mvX7_54 (fun l => c_X7_put (by omega) (by omega)) dX7_batch_157 rfl rfl (by decide) (by decide) (Nat.le_of_ble_eq_true rfl) PM.rv ?_
    refine x_aload_n B dX7_batch_160 rfl ?_
    refine x_iload B dX7_batch_161 rfl ?_
    refine x_iconst B dX7_batch_163 ?_
    refine x_iload_n B dX7_batch_164 rfl ?_
    refine x_mN B mvX7_54 (fun l => c_X7_put (by omega) (by omega)) dX7_batch_165 rfl rfl (by decide) (by decide) (Nat.le_of_ble_eq_true rfl) PM.rv ?_
    refine x_aload_n B dX7_batch_168 rfl ?_
    refine x_iload B dX7_batch_169 rfl ?_
    refine x_iconst B dX7_batch_171 ?_
    refine x_iload_n B dX7_batch_172 rfl ?_
    refine x_mN B mvX7_54 (fun l => c_X7_put (by omega) (by omega)) dX7_batch_173 rfl rfl (by decide) (by decide) (Nat.le_of_ble_eq_true rfl) PM.rv ?_
    refine x_aload_n B dX7_batch_176 rfl ?_
    refine x_iload B dX7_batch_177 rfl ?_
    refine x_iconst B dX7_batch_179 ?_
    refine x_iload B dX7_batch_180 rfl ?_
    refine x_mN B mvX7_54 (fun l => c_X7_put (by omega) (by omega)) dX7_batch_182 rfl rfl (by decide) (by decide) (Nat.le_of_ble_eq_true rfl) PM.rv ?_
    refine x_aload_n B dX7_batch_185 rfl ?_
    refine x_iload B dX7_batch_186 rfl ?_
    refine x_iconst B dX7_batch_188 ?_
    refine x_iconst B dX7_batch_189 ?_
    refine x_mN B mvX7_54 (fun l => c_X7_put (by omega) (by omega)) dX7_batch_190 rfl rfl (by decide) (by decide) (Nat.le_of_ble_eq_true rfl) PM.rv ?_
    refine x_aload_n B dX7_batch_193 rfl ?_
    refine x_iload B dX7_batch_194 rfl ?_
    refine x_bipush B dX7_batch_196 (by decide) ?_
    refine x_iconst B dX7_batch_198 ?_
    refine x_mN B mvX7_54 (fun l => c_X7_put (by omega) (by omega)) dX7_batch_199 rfl rfl (by decide) (by decide) (Nat.le_of_ble_eq_true rfl) PM.rv ?_
    refine x_aload_n B dX7_batch_202 rfl ?_
    refine x_iload B dX7_batch_203 rfl ?_
    refine x_bipush B dX7_batch_205 (by decide) ?_
    refine x_iconst B dX7_batch_207 ?_
    refine x_mN B mvX7_54 (fun l => c_X7_put (by omega) (by omega)) dX7_batch_208 rfl rfl (by decide) (by decide) (Nat.le_of_ble_eq_true rfl) PM.rv ?_
    refine x_aload_n B dX7_batch_211 rfl ?_
    refine x_iload B dX7_batch_212 rfl ?_
    refine x_bipush B dX7_batch_214 (by decide) ?_
    refine x_iconst B dX7_batch_216 ?_
    refine x_mN B mvX7_54 (fun l => c_X7_put (by omega) (by omega)) dX7_batch_217 rfl rfl (by decide) (by decide) (Nat.le_of_ble_eq_true rfl) PM.rv ?_
    refine x_aload_n B dX7_batch_220 rfl ?_
    refine x_iload B dX7_batch_221 rfl ?_
    refine x_bipush B dX7_batch_223 (by decide) ?_
    refine x_iload_n B dX7_batch_225 rfl ?_
    refine x_i2f B dX7_batch_226 ?_
    refine x_sV B msX7_155 (fun l => c_J_bits hfl) dX7_batch_227 rfl rfl (by decide) (by decide) (Nat.le_of_ble_eq_true rfl) (fun r227 => ?_)
    refine x_mN B mvX7_54 (fun l => c_X7_put (by omega) (by omega)) dX7_batch_230 rfl rfl (by decide) (by decide) (Nat.le_of_ble_eq_true rfl) PM.rv ?_
    refine x_iload B dX7_batch_233 rfl ?_
    exact x_retO B R dX7_batch_235 q5 (by omega)
  have tail45 : (0 ≤ r ∧ r ≤ 5) → (1 ≤ sz ∧ sz ≤ 10000) → (0 ≤ pr ∧ pr ≤ 9) → (bf = -1 ∨ (0 ≤ bf ∧ bf ≤ m 3 - 1)) → XJ Γ 0 0 (PM G b m ρ) 45 [(0, .ref b), (1, vi r), (2, vi sz), (3, vi pr), (4, vi bf)] [] := by
    intro q1 q2 q3 q4
    refine x_iload B dX7_batch_45 rfl ?_
    refine x_iconst B dX7_batch_47 ?_
    refine x_icmp_eq (tgt := 77) B dX7_batch_48 (by decide) (by omega) (by omega) (fun c48 => ?_) (fun c48 => ?_)
    · refine x_iconst B dX7_batch_77 ?_
      refine x_istore B dX7_batch_78 (by decide) ?_
      refine x_aload_n B dX7_batch_80 rfl ?_
      refine x_get B fgX7_7 dX7_batch_81 (fun _ h => ⟨_, PM.o h, rfl⟩) ?_
      refine x_bipush B dX7_batch_84 (by decide) ?_
      refine x_iload_n B dX7_batch_86 rfl ?_
      refine x_iadd B dX7_batch_87 ?_
      refine x_ialdR B dX7_batch_88 (by omega) (by decide) PM.am (fun r88 => ?_)
      refine x_if_eq (tgt := 97) B dX7_batch_89 (by decide) (by omega) (fun c89 => ?_) (fun c89 => ?_)
      · refine x_bipush B dX7_batch_97 (by decide) ?_
        exact x_retO B R dX7_batch_99 (by simp only [o_batch]; (repeat (first | rfl | rw [if_pos (by omega)] | rw [if_neg (by omega)])); try (exfalso; omega)) (by omega)
      · refine x_iload B dX7_batch_92 rfl ?_
        refine x_if_eq (tgt := 100) B dX7_batch_94 (by decide) (by omega) (fun _ => ?_) (fun c94 => by exfalso; revert c94; decide)
        refine x_aload_n B dX7_batch_100 rfl ?_
        refine x_get B fgX7_7 dX7_batch_101 (fun _ h => ⟨_, PM.o h, rfl⟩) ?_
        refine x_iconst B dX7_batch_104 ?_
        refine x_ialdR B dX7_batch_105 (by omega) (by decide) PM.am (fun r105 => ?_)
        refine x_bipush B dX7_batch_106 (by decide) ?_
        refine x_icmp_ne (tgt := 114) B dX7_batch_108 (by decide) (by omega) (by omega) (fun c108 => ?_) (fun c108 => ?_)
        · exact x_locs (xl_cons rfl (xl_cons rfl (xl_cons rfl (xl_cons rfl (xl_cons rfl xl_nil))))) (tail q1 q2 (by omega) (by unfold o_batch; rw [if_neg (by omega), if_neg (by omega), if_neg (by omega)]))
        · refine x_bipush B dX7_batch_111 (by decide) ?_
          exact x_retO B R dX7_batch_113 (by simp only [o_batch]; (repeat (first | rfl | rw [if_pos (by omega)] | rw [if_neg (by omega)])); try (exfalso; omega)) (by omega)
    · refine x_aload_n B dX7_batch_51 rfl ?_
      refine x_iload B dX7_batch_52 rfl ?_
      refine x_iconst B dX7_batch_54 ?_
      refine x_mV B mvX7_40 (fun l => c_X7_of (by omega)) dX7_batch_55 rfl rfl (by decide) (by decide) (Nat.le_of_ble_eq_true rfl) PM.rv (fun r55 => ?_)
      refine x_iconst B dX7_batch_58 ?_
      refine x_icmp_eq (tgt := 73) B dX7_batch_59 (by decide) (by omega) (by omega) (fun c59 => ?_) (fun c59 => ?_)
      · refine x_iconst B dX7_batch_73 ?_
        refine x_goto (tgt := 78) B dX7_batch_74 (by decide) ?_
        refine x_istore B dX7_batch_78 (by decide) ?_
        refine x_aload_n B dX7_batch_80 rfl ?_
        refine x_get B fgX7_7 dX7_batch_81 (fun _ h => ⟨_, PM.o h, rfl⟩) ?_
        refine x_bipush B dX7_batch_84 (by decide) ?_
        refine x_iload_n B dX7_batch_86 rfl ?_
        refine x_iadd B dX7_batch_87 ?_
        refine x_ialdR B dX7_batch_88 (by omega) (by decide) PM.am (fun r88 => ?_)
        refine x_if_eq (tgt := 97) B dX7_batch_89 (by decide) (by omega) (fun c89 => ?_) (fun c89 => ?_)
        · refine x_bipush B dX7_batch_97 (by decide) ?_
          exact x_retO B R dX7_batch_99 (by simp only [o_batch]; (repeat (first | rfl | rw [if_pos (by omega)] | rw [if_neg (by omega)])); try (exfalso; omega)) (by omega)
        · refine x_iload B dX7_batch_92 rfl ?_
          refine x_if_eq (tgt := 100) B dX7_batch_94 (by decide) (by omega) (fun c94 => by exfalso; revert c94; decide) (fun _ => ?_)
          refine x_bipush B dX7_batch_97 (by decide) ?_
          exact x_retO B R dX7_batch_99 (by simp only [o_batch]; (repeat (first | rfl | rw [if_pos (by omega)] | rw [if_neg (by omega)])); try (exfalso; omega)) (by omega)
      · refine x_aload_n B dX7_batch_62 rfl ?_
        refine x_iload B dX7_batch_63 rfl ?_
        refine x_iconst B dX7_batch_65 ?_
        refine x_mV B mvX7_40 (fun l => c_X7_of (by omega)) dX7_batch_66 rfl rfl (by decide) (by decide) (Nat.le_of_ble_eq_true rfl) PM.rv (fun r66 => ?_)
        refine x_iconst B dX7_batch_69 ?_
        refine x_icmp_ne (tgt := 77) B dX7_batch_70 (by decide) (by omega) (by omega) (fun c70 => ?_) (fun c70 => ?_)
        · refine x_iconst B dX7_batch_77 ?_
          refine x_istore B dX7_batch_78 (by decide) ?_
          refine x_aload_n B dX7_batch_80 rfl ?_
          refine x_get B fgX7_7 dX7_batch_81 (fun _ h => ⟨_, PM.o h, rfl⟩) ?_
          refine x_bipush B dX7_batch_84 (by decide) ?_
          refine x_iload_n B dX7_batch_86 rfl ?_
          refine x_iadd B dX7_batch_87 ?_
          refine x_ialdR B dX7_batch_88 (by omega) (by decide) PM.am (fun r88 => ?_)
          refine x_if_eq (tgt := 97) B dX7_batch_89 (by decide) (by omega) (fun c89 => ?_) (fun c89 => ?_)
          · refine x_bipush B dX7_batch_97 (by decide) ?_
            exact x_retO B R dX7_batch_99 (by simp only [o_batch]; (repeat (first | rfl | rw [if_pos (by omega)] | rw [if_neg (by omega)])); try (exfalso; omega)) (by omega)
          · refine x_iload B dX7_batch_92 rfl ?_
            refine x_if_eq (tgt := 100) B dX7_batch_94 (by decide) (by omega) (fun _ => ?_) (fun c94 => by exfalso; revert c94; decide)
            refine x_aload_n B dX7_batch_100 rfl ?_
            refine x_get B fgX7_7 dX7_batch_101 (fun _ h => ⟨_, PM.o h, rfl⟩) ?_
            refine x_iconst B dX7_batch_104 ?_
            refine x_ialdR B dX7_batch_105 (by omega) (by decide) PM.am (fun r105 => ?_)
            refine x_bipush B dX7_batch_106 (by decide) ?_
            refine x_icmp_ne (tgt := 114) B dX7_batch_108 (by decide) (by omega) (by omega) (fun c108 => ?_) (fun c108 => ?_)
            · exact x_locs (xl_cons rfl (xl_cons rfl (xl_cons rfl (xl_cons rfl (xl_cons rfl xl_nil))))) (tail q1 q2 (by omega) (by unfold o_batch; rw [if_neg (by omega), if_neg (by omega), if_neg (by omega)]))
            · refine x_bipush B dX7_batch_111 (by decide) ?_
              exact x_retO B R dX7_batch_113 (by simp only [o_batch]; (repeat (first | rfl | rw [if_pos (by omega)] | rw [if_neg (by omega)])); try (exfalso; omega)) (by omega)
        · refine x_iconst B dX7_batch_73 ?_
          refine x_goto (tgt := 78) B dX7_batch_74 (by decide) ?_
          refine x_istore B dX7_batch_78 (by decide) ?_
          refine x_aload_n B dX7_batch_80 rfl ?_
          refine x_get B fgX7_7 dX7_batch_81 (fun _ h => ⟨_, PM.o h, rfl⟩) ?_
          refine x_bipush B dX7_batch_84 (by decide) ?_
          refine x_iload_n B dX7_batch_86 rfl ?_
          refine x_iadd B dX7_batch_87 ?_
          refine x_ialdR B dX7_batch_88 (by omega) (by decide) PM.am (fun r88 => ?_)
          refine x_if_eq (tgt := 97) B dX7_batch_89 (by decide) (by omega) (fun c89 => ?_) (fun c89 => ?_)
          · refine x_bipush B dX7_batch_97 (by decide) ?_
            exact x_retO B R dX7_batch_99 (by simp only [o_batch]; (repeat (first | rfl | rw [if_pos (by omega)] | rw [if_neg (by omega)])); try (exfalso; omega)) (by omega)
          · refine x_iload B dX7_batch_92 rfl ?_
            refine x_if_eq (tgt := 100) B dX7_batch_94 (by decide) (by omega) (fun c94 => by exfalso; revert c94; decide) (fun _ => ?_)
            refine x_bipush B dX7_batch_97 (by decide) ?_
            exact x_retO B R dX7_batch_99 (by simp only [o_batch]; (repeat (first | rfl | rw [if_pos (by omega)] | rw [if_neg (by omega)])); try (exfalso; omega)) (by omega)
  refine x_iload_n B dX7_batch_0 rfl ?_
  refine x_sZ B msX7_125 (fun l => c_X7_isRecipe (by omega)) dX7_batch_1 rfl rfl (by decide) (by decide) (Nat.le_of_ble_eq_true rfl) ?_
  refine x_ifz_eq (tgt := 43) B dX7_batch_4 (by decide) (fun c4 => ?_) (fun c4 => ?_)
  · refine x_iconst B dX7_batch_43 ?_
    exact x_retO B R dX7_batch_44 (by simp only [o_batch]; (repeat (first | rfl | rw [if_pos (by omega)] | rw [if_neg (by omega)])); try (exfalso; omega)) (by omega)
  · refine x_iload_n B dX7_batch_7 rfl ?_
    refine x_iconst B dX7_batch_8 ?_
    refine x_sipush B dX7_batch_9 (by decide) ?_
    refine x_sZ B msX7_36 (fun l => c_X7_in (by omega) (by omega) (by omega)) dX7_batch_12 rfl rfl (by decide) (by decide) (Nat.le_of_ble_eq_true rfl) ?_
    refine x_ifz_eq (tgt := 43) B dX7_batch_15 (by decide) (fun c15 => ?_) (fun c15 => ?_)
    · refine x_iconst B dX7_batch_43 ?_
      exact x_retO B R dX7_batch_44 (by simp only [o_batch]; (repeat (first | rfl | rw [if_pos (by omega)] | rw [if_neg (by omega)])); try (exfalso; omega)) (by omega)
    · refine x_iload_n B dX7_batch_18 rfl ?_
      refine x_iconst B dX7_batch_19 ?_
      refine x_bipush B dX7_batch_20 (by decide) ?_
      refine x_sZ B msX7_36 (fun l => c_X7_in (by omega) (by omega) (by omega)) dX7_batch_22 rfl rfl (by decide) (by decide) (Nat.le_of_ble_eq_true rfl) ?_
      refine x_ifz_eq (tgt := 43) B dX7_batch_25 (by decide) (fun c25 => ?_) (fun c25 => ?_)
      · refine x_iconst B dX7_batch_43 ?_
        exact x_retO B R dX7_batch_44 (by simp only [o_batch]; (repeat (first | rfl | rw [if_pos (by omega)] | rw [if_neg (by omega)])); try (exfalso; omega)) (by omega)
      · refine x_iload B dX7_batch_28 rfl ?_
        refine x_iconst B dX7_batch_30 ?_
        refine x_icmp_eq (tgt := 45) B dX7_batch_31 (by decide) (by omega) (by omega) (fun c31 => ?_) (fun c31 => ?_)
        · exact tail45 (by omega) (by omega) (by omega) (by omega)
        · refine x_aload_n B dX7_batch_34 rfl ?_
          refine x_iload B dX7_batch_35 rfl ?_
          refine x_mZ B mvX7_152 (fun l => c_X7_isBatch (by omega) (by omega)) dX7_batch_37 rfl rfl (by decide) (by decide) (Nat.le_of_ble_eq_true rfl) PM.rv ?_
          refine x_ifz_ne (tgt := 45) B dX7_batch_40 (by decide) (fun c40 => ?_) (fun c40 => ?_)
          · exact tail45 (by omega) (by omega) (by omega) (by omega)
          · refine x_iconst B dX7_batch_43 ?_
            exact x_retO B R dX7_batch_44 (by simp only [o_batch]; (repeat (first | rfl | rw [if_pos (by omega)] | rw [if_neg (by omega)])); try (exfalso; omega)) (by omega)
def o_batchInfo (m : Int → Int) (ρ : Nat → Int → Int) (b w : Int) : xO :=
  if ¬ ((0 ≤ b ∧ b ≤ m 3 - 1) ∧ (0 ≤ w ∧ w ≤ 11)) then (-1, m, ρ) else
  (if w = 4 then (if m (548 + 10 * b + 4) = -1 then -4 else m (548 + 10 * b + 4)) else if w = 6 then (if m (548 + 10 * b + 5) = 6 then -4 else m (548 + 10 * b + 6)) else if w = 7 then (if m (548 + 10 * b + 5) = 6 then -4 else phB m b (m (548 + 10 * b + 6)) / 4 % 128 - m (548 + 10 * b + 7)) else if w = 8 then (if m (548 + 10 * b + 8) = -1 then -4 else m (548 + 10 * b + 8)) else if w = 9 then (if 0 < m (548 + 10 * b + 7) then 1 else 0) else if w = 10 then m (548 + 10 * b + 9) else if w = 11 then (FP.f2i (fB (m (548 + 10 * b + 9)))).toInt else m (548 + 10 * b + w), m, ρ)
theorem i32_rg (z : Int32) : -2147483648 ≤ z.toInt ∧ z.toInt < 2147483648 := by
  have h1 := z.toInt_lt
  have h2 := z.le_toInt
  omega
def s_bOf (m : Int → Int) (b w : Int) : Int := if w = 4 then (if m (548 + 10 * b + 4) = -1 then -4 else m (548 + 10 * b + 4)) else if w = 6 then (if m (548 + 10 * b + 5) = 6 then -4 else m (548 + 10 * b + 6)) else if w = 7 then (if m (548 + 10 * b + 5) = 6 then -4 else phB m b (m (548 + 10 * b + 6)) / 4 % 128 - m (548 + 10 * b + 7)) else if w = 8 then (if m (548 + 10 * b + 8) = -1 then -4 else m (548 + 10 * b + 8)) else if w = 9 then (if 0 < m (548 + 10 * b + 7) then 1 else 0) else if w = 10 then m (548 + 10 * b + 9) else if w = 11 then (FP.f2i (fB (m (548 + 10 * b + 9)))).toInt else m (548 + 10 * b + w)
theorem c_X7_batchOf {G : xG} {l : Launch} {b : Nat} {m : Int → Int} {ρ : Nat → Int → Int} {W x w : Int} (h1 : Iv m W) (h2 : 0 ≤ x ∧ x < m 3) (h3 : 0 ≤ w ∧ w ≤ 11) : CT G l yX7_batchOf cX7_batchOf 3 (some .int) ({ frames := 4, cells := 0, slots := 0, locals := 87 } : Room) 0 0 [.ref b, vi x, vi w] (PM G b m ρ) (pI (s_bOf m x w) (PM G b m ρ)) (AM b) := by
  refine x_met1 (own := RX7) (nm := "batchOf") (L := [(0, .ref b), (1, vi x), (2, vi w)]) (by decide) rfl rfl (fun _ => rfl) (Nat.le_of_ble_eq_true rfl) rfl rfl ?_
  intro Γ B R
  have hI := Iv_iff.mp h1
  obtain ⟨h0, hI1, hI2⟩ := hI
  have hn := h0.n
  have hb := h0.b h2.1 h2.2
  obtain ⟨hp, hl, hph⟩ := h0.page h2.1 h2.2
  have hb1 := hI1 x h2.1 h2.2
  obtain ⟨h1d, h1s⟩ := hb1
  unfold okB0 at hb
  have hv := h0.vs (r := m (548 + 10 * x + 0)) (by omega) (by omega)
  have hpk : m (548 + 10 * x + 5) ≠ 6 → okP (phB m x (m (548 + 10 * x + 6))) := fun q => hph _ hb.2.2.2.2.2.2.1.1 (h1s q).1
  unfold okP at hpk
  have hFB : 0 ≤ m (548 + 10 * x + 9) ∧ m (548 + 10 * x + 9) < 2139095040 := by have hF := hb.2.2.2.2.2.2.2.2.2; unfold okF at hF; omega
  have r11 := i32_rg (FP.f2i (fB (m (548 + 10 * x + 9))))
  refine x_iload_n B dX7_batchOf_0 rfl ?_
  refine x_tsw (tgt := 176) (tgs := [48, 176, 70, 94, 116, 140, 156, 164]) (n := 8) B dX7_batchOf_1 (by decide) (by decide) rfl (by decide) (by omega) (fun s1 => ?_) (fun i1 l1 s1 => ?_)
  · refine x_aload_n B dX7_batchOf_176 rfl ?_
    refine x_iload_n B dX7_batchOf_177 rfl ?_
    refine x_iload_n B dX7_batchOf_178 rfl ?_
    refine x_mV B mvX7_40 (fun l => c_X7_of (by omega)) dX7_batchOf_179 rfl rfl (by decide) (by decide) (Nat.le_of_ble_eq_true rfl) PM.rv (fun r179 => ?_)
    exact x_retI B R dX7_batchOf_182 (by unfold s_bOf; (repeat (first | rfl | rw [if_pos (by omega)] | rw [if_neg (by omega)])); try (exfalso; omega)) (by unfold s_bOf; (repeat (first | rw [if_pos (by omega)] | rw [if_neg (by omega)])); omega) (fun H h => by exact h)
  · obtain rfl | rfl | rfl | rfl | rfl | rfl | rfl | rfl := (show i1 = 0 ∨ i1 = 1 ∨ i1 = 2 ∨ i1 = 3 ∨ i1 = 4 ∨ i1 = 5 ∨ i1 = 6 ∨ i1 = 7 by omega)
    · refine x_aload_n B dX7_batchOf_48 rfl ?_
      refine x_iload_n B dX7_batchOf_49 rfl ?_
      refine x_iconst B dX7_batchOf_50 ?_
      refine x_mV B mvX7_40 (fun l => c_X7_of (by omega)) dX7_batchOf_51 rfl rfl (by decide) (by decide) (Nat.le_of_ble_eq_true rfl) PM.rv (fun r51 => ?_)
      refine x_iconst B dX7_batchOf_54 ?_
      refine x_icmp_ne (tgt := 63) B dX7_batchOf_55 (by decide) (by omega) (by omega) (fun c55 => ?_) (fun c55 => ?_)
      · refine x_aload_n B dX7_batchOf_63 rfl ?_
        refine x_iload_n B dX7_batchOf_64 rfl ?_
        refine x_iconst B dX7_batchOf_65 ?_
        refine x_mV B mvX7_40 (fun l => c_X7_of (by omega)) dX7_batchOf_66 rfl rfl (by decide) (by decide) (Nat.le_of_ble_eq_true rfl) PM.rv (fun r66 => ?_)
        exact x_retI B R dX7_batchOf_69 (by unfold s_bOf; (repeat (first | rfl | rw [if_pos (by omega)] | rw [if_neg (by omega)])); try (exfalso; omega)) (by unfold s_bOf; (repeat (first | rw [if_pos (by omega)] | rw [if_neg (by omega)])); omega) (fun H h => by exact h)
      · refine x_bipush B dX7_batchOf_58 (by decide) ?_
        refine x_goto (tgt := 69) B dX7_batchOf_60 (by decide) ?_
        exact x_retI B R dX7_batchOf_69 (by unfold s_bOf; (repeat (first | rfl | rw [if_pos (by omega)] | rw [if_neg (by omega)])); try (exfalso; omega)) (by unfold s_bOf; (repeat (first | rw [if_pos (by omega)] | rw [if_neg (by omega)])); omega) (fun H h => by exact h)
    · refine x_aload_n B dX7_batchOf_176 rfl ?_
      refine x_iload_n B dX7_batchOf_177 rfl ?_
      refine x_iload_n B dX7_batchOf_178 rfl ?_
      refine x_mV B mvX7_40 (fun l => c_X7_of (by omega)) dX7_batchOf_179 rfl rfl (by decide) (by decide) (Nat.le_of_ble_eq_true rfl) PM.rv (fun r179 => ?_)
      exact x_retI B R dX7_batchOf_182 (by unfold s_bOf; (repeat (first | rfl | rw [if_pos (by omega)] | rw [if_neg (by omega)])); try (exfalso; omega)) (by unfold s_bOf; (repeat (first | rw [if_pos (by omega)] | rw [if_neg (by omega)])); omega) (fun H h => by exact h)
    · refine x_aload_n B dX7_batchOf_70 rfl ?_
      refine x_iload_n B dX7_batchOf_71 rfl ?_
      refine x_iconst B dX7_batchOf_72 ?_
      refine x_mV B mvX7_40 (fun l => c_X7_of (by omega)) dX7_batchOf_73 rfl rfl (by decide) (by decide) (Nat.le_of_ble_eq_true rfl) PM.rv (fun r73 => ?_)
      refine x_bipush B dX7_batchOf_76 (by decide) ?_
      refine x_icmp_ne (tgt := 86) B dX7_batchOf_78 (by decide) (by omega) (by omega) (fun c78 => ?_) (fun c78 => ?_)
      · refine x_aload_n B dX7_batchOf_86 rfl ?_
        refine x_iload_n B dX7_batchOf_87 rfl ?_
        refine x_bipush B dX7_batchOf_88 (by decide) ?_
        refine x_mV B mvX7_40 (fun l => c_X7_of (by omega)) dX7_batchOf_90 rfl rfl (by decide) (by decide) (Nat.le_of_ble_eq_true rfl) PM.rv (fun r90 => ?_)
        exact x_retI B R dX7_batchOf_93 (by unfold s_bOf; (repeat (first | rfl | rw [if_pos (by omega)] | rw [if_neg (by omega)])); try (exfalso; omega)) (by unfold s_bOf; (repeat (first | rw [if_pos (by omega)] | rw [if_neg (by omega)])); omega) (fun H h => by exact h)
      · refine x_bipush B dX7_batchOf_81 (by decide) ?_
        refine x_goto (tgt := 93) B dX7_batchOf_83 (by decide) ?_
        exact x_retI B R dX7_batchOf_93 (by unfold s_bOf; (repeat (first | rfl | rw [if_pos (by omega)] | rw [if_neg (by omega)])); try (exfalso; omega)) (by unfold s_bOf; (repeat (first | rw [if_pos (by omega)] | rw [if_neg (by omega)])); omega) (fun H h => by exact h)
    · refine x_aload_n B dX7_batchOf_94 rfl ?_
      refine x_iload_n B dX7_batchOf_95 rfl ?_
      refine x_iconst B dX7_batchOf_96 ?_
      refine x_mV B mvX7_40 (fun l => c_X7_of (by omega)) dX7_batchOf_97 rfl rfl (by decide) (by decide) (Nat.le_of_ble_eq_true rfl) PM.rv (fun r97 => ?_)
      refine x_bipush B dX7_batchOf_100 (by decide) ?_
      refine x_icmp_ne (tgt := 110) B dX7_batchOf_102 (by decide) (by omega) (by omega) (fun c102 => ?_) (fun c102 => ?_)
      · have h1s' := h1s c102
        refine x_aload_n B dX7_batchOf_110 rfl ?_
        refine x_iload_n B dX7_batchOf_111 rfl ?_
        refine x_mV B mvX7_167 (fun l => c_X7_left (by omega) (by omega) (by omega) (by omega) (by omega) (by omega)) dX7_batchOf_112 rfl rfl (by decide) (by decide) (Nat.le_of_ble_eq_true rfl) PM.rv (fun r112 => ?_)
        exact x_retI B R dX7_batchOf_115 (by unfold s_bOf; (repeat (first | rfl | rw [if_pos (by omega)] | rw [if_neg (by omega)])); try (exfalso; omega)) (by unfold s_bOf; (repeat (first | rw [if_pos (by omega)] | rw [if_neg (by omega)])); omega) (fun H h => by exact h)
      · skip
        refine x_bipush B dX7_batchOf_105 (by decide) ?_
        refine x_goto (tgt := 115) B dX7_batchOf_107 (by decide) ?_
        exact x_retI B R dX7_batchOf_115 (by unfold s_bOf; (repeat (first | rfl | rw [if_pos (by omega)] | rw [if_neg (by omega)])); try (exfalso; omega)) (by unfold s_bOf; (repeat (first | rw [if_pos (by omega)] | rw [if_neg (by omega)])); omega) (fun H h => by exact h)
    · refine x_aload_n B dX7_batchOf_116 rfl ?_
      refine x_iload_n B dX7_batchOf_117 rfl ?_
      refine x_bipush B dX7_batchOf_118 (by decide) ?_
      refine x_mV B mvX7_40 (fun l => c_X7_of (by omega)) dX7_batchOf_120 rfl rfl (by decide) (by decide) (Nat.le_of_ble_eq_true rfl) PM.rv (fun r120 => ?_)
      refine x_iconst B dX7_batchOf_123 ?_
      refine x_icmp_ne (tgt := 132) B dX7_batchOf_124 (by decide) (by omega) (by omega) (fun c124 => ?_) (fun c124 => ?_)
      · refine x_aload_n B dX7_batchOf_132 rfl ?_
        refine x_iload_n B dX7_batchOf_133 rfl ?_
        refine x_bipush B dX7_batchOf_134 (by decide) ?_
        refine x_mV B mvX7_40 (fun l => c_X7_of (by omega)) dX7_batchOf_136 rfl rfl (by decide) (by decide) (Nat.le_of_ble_eq_true rfl) PM.rv (fun r136 => ?_)
        exact x_retI B R dX7_batchOf_139 (by unfold s_bOf; (repeat (first | rfl | rw [if_pos (by omega)] | rw [if_neg (by omega)])); try (exfalso; omega)) (by unfold s_bOf; (repeat (first | rw [if_pos (by omega)] | rw [if_neg (by omega)])); omega) (fun H h => by exact h)
      · refine x_bipush B dX7_batchOf_127 (by decide) ?_
        refine x_goto (tgt := 139) B dX7_batchOf_129 (by decide) ?_
        exact x_retI B R dX7_batchOf_139 (by unfold s_bOf; (repeat (first | rfl | rw [if_pos (by omega)] | rw [if_neg (by omega)])); try (exfalso; omega)) (by unfold s_bOf; (repeat (first | rw [if_pos (by omega)] | rw [if_neg (by omega)])); omega) (fun H h => by exact h)
    · refine x_aload_n B dX7_batchOf_140 rfl ?_
      refine x_iload_n B dX7_batchOf_141 rfl ?_
      refine x_bipush B dX7_batchOf_142 (by decide) ?_
      refine x_mV B mvX7_40 (fun l => c_X7_of (by omega)) dX7_batchOf_144 rfl rfl (by decide) (by decide) (Nat.le_of_ble_eq_true rfl) PM.rv (fun r144 => ?_)
      refine x_if_le (tgt := 154) B dX7_batchOf_147 (by decide) (by omega) (fun c147 => ?_) (fun c147 => ?_)
      · refine x_iconst B dX7_batchOf_154 ?_
        exact x_retI B R dX7_batchOf_155 (by unfold s_bOf; (repeat (first | rfl | rw [if_pos (by omega)] | rw [if_neg (by omega)])); try (exfalso; omega)) (by unfold s_bOf; (repeat (first | rw [if_pos (by omega)] | rw [if_neg (by omega)])); omega) (fun H h => by exact h)
      · refine x_iconst B dX7_batchOf_150 ?_
        refine x_goto (tgt := 155) B dX7_batchOf_151 (by decide) ?_
        exact x_retI B R dX7_batchOf_155 (by unfold s_bOf; (repeat (first | rfl | rw [if_pos (by omega)] | rw [if_neg (by omega)])); try (exfalso; omega)) (by unfold s_bOf; (repeat (first | rw [if_pos (by omega)] | rw [if_neg (by omega)])); omega) (fun H h => by exact h)
    · refine x_aload_n B dX7_batchOf_156 rfl ?_
      refine x_iload_n B dX7_batchOf_157 rfl ?_
      refine x_bipush B dX7_batchOf_158 (by decide) ?_
      refine x_mV B mvX7_40 (fun l => c_X7_of (by omega)) dX7_batchOf_160 rfl rfl (by decide) (by decide) (Nat.le_of_ble_eq_true rfl) PM.rv (fun r160 => ?_)
      exact x_retI B R dX7_batchOf_163 (by unfold s_bOf; (repeat (first | rfl | rw [if_pos (by omega)] | rw [if_neg (by omega)])); try (exfalso; omega)) (by unfold s_bOf; (repeat (first | rw [if_pos (by omega)] | rw [if_neg (by omega)])); omega) (fun H h => by exact h)
    · refine x_aload_n B dX7_batchOf_164 rfl ?_
      refine x_iload_n B dX7_batchOf_165 rfl ?_
      refine x_bipush B dX7_batchOf_166 (by decide) ?_
      refine x_mV B mvX7_40 (fun l => c_X7_of (by omega)) dX7_batchOf_168 rfl rfl (by decide) (by decide) (Nat.le_of_ble_eq_true rfl) PM.rv (fun r168 => ?_)
      refine x_i2fb B xnX7_173 (f_sn hFB) (Nat.le_of_ble_eq_true rfl) (by decide) dX7_batchOf_171 ?_
      refine x_f2i (z := (FP.f2i (fB (m (548 + 10 * x + 9)))).toInt) B dX7_batchOf_174 ((Int32.ofInt_toInt _).symm) ?_
      exact x_retI B R dX7_batchOf_175 (by unfold s_bOf; (repeat (first | rfl | rw [if_pos (by omega)] | rw [if_neg (by omega)])); try (exfalso; omega)) (by unfold s_bOf; (repeat (first | rw [if_pos (by omega)] | rw [if_neg (by omega)])); omega) (fun H h => by exact h)
theorem c_X7_batchInfo {G : xG} {l : Launch} {b : Nat} {m : Int → Int} {ρ : Nat → Int → Int} {W x y : Int} (h1 : Iv m W) (h3 : -2147483648 ≤ x ∧ x < 2147483648) (h4 : -2147483648 ≤ y ∧ y < 2147483648) : CT G l yX7_batchInfo cX7_batchInfo 3 (some .int) ({ frames := 5, cells := 0, slots := 0, locals := 109 } : Room) 0 0 [.ref b, vi x, vi y] (PM G b m ρ) (pI (o_batchInfo m ρ x y).1 (PM G b (o_batchInfo m ρ x y).2.1 (o_batchInfo m ρ x y).2.2)) (AM b) := by
  refine x_met1 (own := RX7) (nm := "batchInfo") (L := [(0, .ref b), (1, vi x), (2, vi y)]) (by decide) rfl rfl (fun _ => rfl) (Nat.le_of_ble_eq_true rfl) rfl rfl ?_
  intro Γ B R
  have hn := h1.n
  refine x_aload_n B dX7_batchInfo_0 rfl ?_
  refine x_iload_n B dX7_batchInfo_1 rfl ?_
  refine x_mZ B mvX7_152 (fun l => c_X7_isBatch (by omega) (by omega)) dX7_batchInfo_2 rfl rfl (by decide) (by decide) (Nat.le_of_ble_eq_true rfl) PM.rv ?_
  refine x_ifz_eq (tgt := 27) B dX7_batchInfo_5 (by decide) (fun c5 => ?_) (fun c5 => ?_)
  · refine x_iconst B dX7_batchInfo_27 ?_
    exact x_retO B R dX7_batchInfo_28 (by simp only [o_batchInfo]; first | rfl | (rw [if_neg (by omega)]; rfl) | (rw [if_pos (by omega)])) (by omega)
  · refine x_iload_n B dX7_batchInfo_8 rfl ?_
    refine x_iconst B dX7_batchInfo_9 ?_
    refine x_bipush B dX7_batchInfo_10 (by decide) ?_
    refine x_sZ B msX7_36 (fun l => c_X7_in (by omega) (by omega) (by omega)) dX7_batchInfo_12 rfl rfl (by decide) (by decide) (Nat.le_of_ble_eq_true rfl) ?_
    refine x_ifz_eq (tgt := 27) B dX7_batchInfo_15 (by decide) (fun c15 => ?_) (fun c15 => ?_)
    · refine x_iconst B dX7_batchInfo_27 ?_
      exact x_retO B R dX7_batchInfo_28 (by simp only [o_batchInfo]; first | rfl | (rw [if_neg (by omega)]; rfl) | (rw [if_pos (by omega)])) (by omega)
    · refine x_aload_n B dX7_batchInfo_18 rfl ?_
      refine x_iload_n B dX7_batchInfo_19 rfl ?_
      refine x_iload_n B dX7_batchInfo_20 rfl ?_
      refine x_mV B mvX7_177 (fun l => c_X7_batchOf h1 (by omega) (by omega)) dX7_batchInfo_21 rfl rfl (by decide) (by decide) (Nat.le_of_ble_eq_true rfl) PM.rv (fun r21 => ?_)
      refine x_goto (tgt := 28) B dX7_batchInfo_24 (by decide) ?_
      exact x_retO B R dX7_batchInfo_28 (by simp only [o_batchInfo]; first | rfl | (rw [if_neg (by omega)]; rfl) | (rw [if_pos (by omega)])) (by omega)

/-! ===== constructor: BatchExecutive ===== -/
def K6 (G : xG) (e : Nat) (F : Nat → Option Nat) (k : Nat) (H : Heap) : Prop := H.size = e + 78 + 30 * k ∧ oat G e 6 [.ref (e + 1), .ref (e + 9), .ref (e + 17), .ref (e + 47), .ref (e + 77), vi 0] H ∧ bkH G (e + 1) (fun _ => z0) H ∧ TX G (e + 9) z0 0 0 0 0 0 (fun _ => z0) H ∧ SP G (e + 17) (e + 1) (n0 3) z0 0 H ∧ SP G (e + 47) (e + 1) (n0 3) z0 0 H ∧ rat G 5 (e + 77) 4 F H ∧ ∀ s : Nat, s < k → SP G (e + 78 + 30 * s) (e + 1) (n0 3) z0 0 H
theorem K6.more {G : xG} {e k : Nat} {F F' : Nat → Option Nat} {H H1 H2 : Heap} (h : K6 G e F k H) (h1 : SP G (e + 78 + 30 * k) (e + 1) (n0 3) z0 0 H1) (hz : H1.size = e + 78 + 30 * k + 30) (o : ∀ q : Nat, q < e + 78 + 30 * k → H1[q]? = H[q]?) (h2 : rat G 5 (e + 77) 4 F' H2) (hz2 : H2.size = H1.size) (o2 : ∀ q : Nat, q ≠ e + 77 → H2[q]? = H1[q]?) : K6 G e F' (k + 1) H2 := by
  obtain ⟨g0, g1, g2, g3, g4, g5, g6, g7⟩ := h
  have oo : ∀ q : Nat, q < e + 78 + 30 * k → q ≠ e + 77 → H2[q]? = H[q]? := fun q q0 q1 => (o2 q q1).trans (o q q0)
  refine ⟨by omega, g1.kept (oo _ (by omega) (by omega)), g2.kept (fun q a b => oo q (by omega) (by omega)), g3.kept (fun q a b => oo q (by omega) (by omega)), g4.kept (fun q a b => oo q (by omega) (by omega)), g5.kept (fun q a b => oo q (by omega) (by omega)), h2, fun s hs => ?_⟩
  by_cases c : s = k
  · subst c
    exact h1.kept (fun q a b => o2 q (by omega))
  · exact (g7 s (by omega)).kept (fun q a b => oo q (by omega) (by omega))
theorem SP.js {G : xG} {a κ : Nat} {m od : Int → Int} {oc : Int} {H : Heap} (h : SP G a κ m od oc H) : JS G a κ H := by
  obtain ⟨⟨h0, hu, hb, hh, hv, ⟨nx, j0, j1, j2, hj, -⟩, ho, hU, hB⟩, hm, hod⟩ := h
  exact JS.of (hf := fun k => m (53 + k)) (vf := fun k => m (56 + k)) ⟨h0, hu, hb, hh, hv, hj, ho, hU, hB⟩ hod.1 hod.2
theorem K6.done {G : xG} {e : Nat} {F : Nat → Option Nat} {H : Heap} (h : K6 G e F 4 H) (hF : ∀ j : Nat, j < 4 → F j = some (e + 78 + 30 * j)) : H.size = e + 198 ∧ PE G e (n0 3) (fun _ => z0) H := by
  obtain ⟨g0, g1, g2, g3, g4, g5, g6, g7⟩ := h
  refine ⟨by omega, PE.of (β := fun _ => z0) (q := 0) (S := fun _ => z0) ⟨g1, ⟨g4, g2, fun r v r0 r1 v0 v9 v1 => ?_, by omega⟩, g3, g5.js, g6, fun s hs => (g7 s hs).js, fun i hi => by omega, by omega⟩ rfl rfl ⟨fun k hk => ?_, rfl, fun i i0 i1 => ?_⟩⟩
  · have : n0 3 (56 + r) = 0 := by unfold n0; rw [if_neg (by omega), if_neg (by omega)]
    omega
  · rw [hF k hk]
    congr 1
    unfold pA
    omega
  · have i2 : i < 0 := i1
    omega
theorem c_X6_init {G : xG} {l : Launch} {e : Nat} : CT G l yX6_init cX6_init 2 none { frames := 5, locals := 200, cells := 197, slots := 4453 } 197 4453 [.ref e] (fun H => H.size = e + 1 ∧ oat G e 6 [.null, .null, .null, .null, .null, vi 0] H) (pV (fun H => H.size = e + 198 ∧ PE G e (n0 3) (fun _ => z0) H)) (fun q => e ≤ q) := by
  refine x_met1 (own := RX6) (nm := "<init>") (L := [(0, .ref e)]) (by decide) rfl rfl (fun _ => rfl) (Nat.le_of_ble_eq_true rfl) rfl rfl ?_
  intro Γ B R
  have hA : (fun q => e ≤ q) e := Nat.le_refl _
  have loop : ∀ (f k kc ks : Nat) (F : Nat → Option Nat) (L : List (Nat × Value)), kc = 77 + 30 * k → ks = 3069 + 346 * k → k + f = 4 → (∀ j : Nat, j < k → F j = some (e + 78 + 30 * j)) → (∀ p2 ∈ [(0, Value.ref e), (1, vi (k : Int))], lget L p2.1 = some p2.2) → XJ Γ kc ks (K6 G e F k) 66 L [] := by
    intro f
    induction f with
    | zero =>
      intro k kc ks F L hkc hks hk hF hL
      refine x_locs hL ?_
      have h4 : k = 4 := by omega
      subst h4
      subst hkc
      subst hks
      refine x_iload_n B dX6_init_66 rfl ?_
      refine x_iconst B dX6_init_67 ?_
      refine x_icmp_ge (tgt := 94) B dX6_init_68 (by decide) (by omega) (by omega) (fun c68 => ?_) (fun c68 => ?_)
      · exact x_retV B R dX6_init_94 (fun H h => by exact h.done hF)
      · omega
    | succ f ih =>
      intro k kc ks F L hkc hks hk hF hL
      refine x_locs hL ?_
      refine x_iload_n B dX6_init_66 rfl ?_
      refine x_iconst B dX6_init_67 ?_
      refine x_icmp_ge (tgt := 94) B dX6_init_68 (by decide) (by omega) (by omega) (fun c68 => ?_) (fun c68 => ?_)
      · omega
      · refine x_aload_n B dX6_init_71 rfl ?_
        refine x_get B fgX6_35 dX6_init_72 (fun H h => ⟨_, h.2.1, rfl⟩) ?_
        refine x_iload_n B dX6_init_75 rfl ?_
        refine x_new (a := e + 78 + 30 * k) (N := 12) (P' := fun H1 => ∃ H, K6 G e F k H ∧ oat G (e + 78 + 30 * k) 3 [.null, .null, .null, .null, .null, .null, .null, vi 0, vi 0, vi 0, vi 0, vi 0] H1 ∧ H1.size = e + 78 + 30 * k + 1 ∧ ∀ q : Nat, q < e + 78 + 30 * k → H1[q]? = H[q]?) B cnX6_23 dX6_init_76 df_3 ⟨by show kc + 1 ≤ 197; omega, by show ks + 12 ≤ 4453; omega⟩ (fun H h => ⟨h.1, fun H1 e1 z1 o => ⟨H, h, e1, z1, o⟩⟩) ?_
        refine x_dup B dX6_init_79 rfl ?_
        refine x_aload_n B dX6_init_80 rfl ?_
        refine x_get B fgX6_10 dX6_init_81 (fun H1 h => (by obtain ⟨H, h0, -, -, o⟩ := h; exact ⟨_, h0.2.1.kept (o _ (by omega)), rfl⟩)) ?_
        refine x_callIg (As := [.ref (e + 1)]) (P' := fun H1 => ∃ H, K6 G e F k H ∧ SP G (e + 78 + 30 * k) (e + 1) (n0 3) z0 0 H1 ∧ H1.size = e + 78 + 30 * k + 30 ∧ ∀ q : Nat, q < e + 78 + 30 * k → H1[q]? = H[q]?) B miX3_init mlX6_25 (fun l => c_X3_init (κ := e + 1)) dX6_init_84 rfl rfl ⟨rfl, rfl, by decide, by decide⟩ ⟨by show kc + 1 + 29 ≤ 197; omega, by show ks + 12 + 334 ≤ 4453; omega⟩ (Nat.le_of_ble_eq_true rfl) (fun q h => by have h' : e + 78 + 30 * k ≤ q := h; show e ≤ q; omega) (fun H1 h => (by obtain ⟨H, h0, h1, hz, o⟩ := h; exact ⟨hz, h1⟩)) (fun v' H1 H2 h hp hs hq => (by obtain ⟨H, h0, h1, hz, o⟩ := h; exact ⟨hp.1, H, h0, hp.2.2, hp.2.1, fun q q0 => (hq q (by omega) (by show ¬ e + 78 + 30 * k ≤ q; omega)).trans (o q q0)⟩)) ?_
        refine x_aast (j := 5) (ci := 3) (n := 4) (r := ("BatchExecutive$State", _, _)) (P' := K6 G e (va_up F (k : Int).toNat (some (e + 78 + 30 * k))) (k + 1)) B dX6_init_87 rfl rfl (by omega) (by decide) (by show e ≤ _; omega) (fun H1 h => (by
            obtain ⟨H, h0, h1, hz, o⟩ := h
            exact ⟨h0.2.2.2.2.2.2.1.kept (o _ (by omega)), ⟨_, h1.1.1⟩, fun H2 e2 z2 o2 => h0.more h1 hz o e2 z2 o2⟩)) ?_
        refine x_iinc B dX6_init_88 rfl (by decide) ?_
        refine x_goto (tgt := 66) B dX6_init_91 (by decide) ?_
        exact ih (k + 1) _ _ _ _ (by omega) (by omega) (by omega) (fun j hj => by
          unfold va_up
          by_cases c : j = (k : Int).toNat
          · rw [if_pos c]; congr 1; omega
          · rw [if_neg c]; exact hF j (by omega)) (xl_cons rfl (xl_cons rfl xl_nil))
  refine x_aload_n B dX6_init_0 rfl ?_
  refine x_oi B moX6_1 dX6_init_1 (by decide) ?_
  refine x_aload_n B dX6_init_4 rfl ?_
  refine x_new (a := e + 1) (N := 2) (P' := (fun H => H.size = e + 2 ∧ oat G e 6 [.null, .null, .null, .null, .null, vi 0] H ∧ oat G (e + 1) 1 [.null, .null] H)) B cnX6_7 dX6_init_5 df_1 (by decide) (fun H h => ⟨h.1, fun H1 e1 z1 o => ⟨z1, h.2.kept (o _ (by omega)), e1⟩⟩) ?_
  refine x_dup B dX6_init_8 rfl ?_
  refine x_callINg (As := []) (P' := (fun H => H.size = e + 9 ∧ oat G e 6 [.null, .null, .null, .null, .null, vi 0] H ∧ bkH G (e + 1) (fun _ => z0) H)) B miX1_init (fun s h => h.1.1) (fun l => c_X1_init) dX6_init_9 rfl rfl ⟨rfl, rfl, by decide, by decide⟩ (by decide) (Nat.le_of_ble_eq_true rfl) (fun q h => by have h' : e + 1 ≤ q := h; show e ≤ q; omega) (fun H h => ⟨h.1, h.2.2⟩) (fun v' H H1 h hp hs hq => ⟨hp.1, (fun o => ⟨hp.2.1, h.2.1.kept (o _ (by omega) (by show ¬ e + 1 ≤ _; omega)), hp.2.2⟩ : (∀ q : Nat, q < H.size → ¬ e + 1 ≤ q → H1[q]? = H[q]?) → _) hq⟩) ?_
  refine x_putF (P' := (fun H => H.size = e + 9 ∧ oat G e 6 [.ref (e + 1), .null, .null, .null, .null, vi 0] H ∧ bkH G (e + 1) (fun _ => z0) H)) B R rfl fpX6_10 (fun C T N h => by cases h; rfl) dX6_init_12 rfl rfl hA (fun H h => ⟨_, h.2.1, Nat.le_of_ble_eq_true rfl, fun H1 e1 z1 o => ⟨z1.trans h.1, e1, h.2.2.kept (fun q a b => o q (by omega))⟩⟩) ?_
  refine x_aload_n B dX6_init_15 rfl ?_
  refine x_new (a := e + 9) (N := 7) (P' := (fun H => H.size = e + 10 ∧ oat G e 6 [.ref (e + 1), .null, .null, .null, .null, vi 0] H ∧ bkH G (e + 1) (fun _ => z0) H ∧ oat G (e + 9) 4 [.null, .null, vi 0, vi 0, vi 0, vi 0, vi 0] H)) B cnX6_16 dX6_init_16 df_4 (by decide) (fun H h => ⟨h.1, fun H1 e1 z1 o => ⟨z1, h.2.1.kept (o _ (by omega)), h.2.2.kept (fun q a b => o q (by omega)), e1⟩⟩) ?_
  refine x_dup B dX6_init_19 rfl ?_
  refine x_callINg (As := []) (P' := (fun H => H.size = e + 17 ∧ oat G e 6 [.ref (e + 1), .null, .null, .null, .null, vi 0] H ∧ bkH G (e + 1) (fun _ => z0) H ∧ TX G (e + 9) z0 0 0 0 0 0 (fun _ => z0) H)) B miX4_init (fun s h => h.1.2.1) (fun l => c_X4_init) dX6_init_20 rfl rfl ⟨rfl, rfl, by decide, by decide⟩ (by decide) (Nat.le_of_ble_eq_true rfl) (fun q h => by have h' : e + 9 ≤ q := h; show e ≤ q; omega) (fun H h => ⟨h.1, h.2.2.2⟩) (fun v' H H1 h hp hs hq => ⟨hp.1, (fun o => ⟨hp.2.1, h.2.1.kept (o _ (by omega) (by show ¬ e + 9 ≤ _; omega)), h.2.2.1.kept (fun q a b => o q (by omega) (by show ¬ e + 9 ≤ _; omega)), hp.2.2⟩ : (∀ q : Nat, q < H.size → ¬ e + 9 ≤ q → H1[q]? = H[q]?) → _) hq⟩) ?_
  refine x_putF (P' := (fun H => H.size = e + 17 ∧ oat G e 6 [.ref (e + 1), .ref (e + 9), .null, .null, .null, vi 0] H ∧ bkH G (e + 1) (fun _ => z0) H ∧ TX G (e + 9) z0 0 0 0 0 0 (fun _ => z0) H)) B R rfl fpX6_19 (fun C T N h => by cases h; rfl) dX6_init_23 rfl rfl hA (fun H h => ⟨_, h.2.1, Nat.le_of_ble_eq_true rfl, fun H1 e1 z1 o => ⟨z1.trans h.1, e1, h.2.2.1.kept (fun q a b => o q (by omega)), h.2.2.2.kept (fun q a b => o q (by omega))⟩⟩) ?_
  refine x_aload_n B dX6_init_26 rfl ?_
  refine x_new (a := e + 17) (N := 12) (P' := (fun H => H.size = e + 18 ∧ oat G e 6 [.ref (e + 1), .ref (e + 9), .null, .null, .null, vi 0] H ∧ bkH G (e + 1) (fun _ => z0) H ∧ TX G (e + 9) z0 0 0 0 0 0 (fun _ => z0) H ∧ oat G (e + 17) 3 [.null, .null, .null, .null, .null, .null, .null, vi 0, vi 0, vi 0, vi 0, vi 0] H)) B cnX6_23 dX6_init_27 df_3 (by decide) (fun H h => ⟨h.1, fun H1 e1 z1 o => ⟨z1, h.2.1.kept (o _ (by omega)), h.2.2.1.kept (fun q a b => o q (by omega)), h.2.2.2.kept (fun q a b => o q (by omega)), e1⟩⟩) ?_
  refine x_dup B dX6_init_30 rfl ?_
  refine x_aload_n B dX6_init_31 rfl ?_
  refine x_get B fgX6_10 dX6_init_32 (fun _ h => ⟨_, h.2.1, rfl⟩) ?_
  refine x_callIg (As := [.ref (e + 1)]) (P' := (fun H => H.size = e + 47 ∧ oat G e 6 [.ref (e + 1), .ref (e + 9), .null, .null, .null, vi 0] H ∧ bkH G (e + 1) (fun _ => z0) H ∧ TX G (e + 9) z0 0 0 0 0 0 (fun _ => z0) H ∧ SP G (e + 17) (e + 1) (n0 3) z0 0 H)) B miX3_init mlX6_25 (fun l => c_X3_init (κ := e + 1)) dX6_init_35 rfl rfl ⟨rfl, rfl, by decide, by decide⟩ (by decide) (Nat.le_of_ble_eq_true rfl) (fun q h => by have h' : e + 17 ≤ q := h; show e ≤ q; omega) (fun H h => ⟨h.1, h.2.2.2.2⟩) (fun v' H H1 h hp hs hq => ⟨hp.1, (fun o => ⟨hp.2.1, h.2.1.kept (o _ (by omega) (by show ¬ e + 17 ≤ _; omega)), h.2.2.1.kept (fun q a b => o q (by omega) (by show ¬ e + 17 ≤ _; omega)), h.2.2.2.1.kept (fun q a b => o q (by omega) (by show ¬ e + 17 ≤ _; omega)), hp.2.2⟩ : (∀ q : Nat, q < H.size → ¬ e + 17 ≤ q → H1[q]? = H[q]?) → _) hq⟩) ?_
  refine x_putF (P' := (fun H => H.size = e + 47 ∧ oat G e 6 [.ref (e + 1), .ref (e + 9), .ref (e + 17), .null, .null, vi 0] H ∧ bkH G (e + 1) (fun _ => z0) H ∧ TX G (e + 9) z0 0 0 0 0 0 (fun _ => z0) H ∧ SP G (e + 17) (e + 1) (n0 3) z0 0 H)) B R rfl fpX6_28 (fun C T N h => by cases h; rfl) dX6_init_38 rfl rfl hA (fun H h => ⟨_, h.2.1, Nat.le_of_ble_eq_true rfl, fun H1 e1 z1 o => ⟨z1.trans h.1, e1, h.2.2.1.kept (fun q a b => o q (by omega)), h.2.2.2.1.kept (fun q a b => o q (by omega)), h.2.2.2.2.kept (fun q a b => o q (by omega))⟩⟩) ?_
  refine x_aload_n B dX6_init_41 rfl ?_
  refine x_new (a := e + 47) (N := 12) (P' := (fun H => H.size = e + 48 ∧ oat G e 6 [.ref (e + 1), .ref (e + 9), .ref (e + 17), .null, .null, vi 0] H ∧ bkH G (e + 1) (fun _ => z0) H ∧ TX G (e + 9) z0 0 0 0 0 0 (fun _ => z0) H ∧ SP G (e + 17) (e + 1) (n0 3) z0 0 H ∧ oat G (e + 47) 3 [.null, .null, .null, .null, .null, .null, .null, vi 0, vi 0, vi 0, vi 0, vi 0] H)) B cnX6_23 dX6_init_42 df_3 (by decide) (fun H h => ⟨h.1, fun H1 e1 z1 o => ⟨z1, h.2.1.kept (o _ (by omega)), h.2.2.1.kept (fun q a b => o q (by omega)), h.2.2.2.1.kept (fun q a b => o q (by omega)), h.2.2.2.2.kept (fun q a b => o q (by omega)), e1⟩⟩) ?_
  refine x_dup B dX6_init_45 rfl ?_
  refine x_aload_n B dX6_init_46 rfl ?_
  refine x_get B fgX6_10 dX6_init_47 (fun _ h => ⟨_, h.2.1, rfl⟩) ?_
  refine x_callIg (As := [.ref (e + 1)]) (P' := (fun H => H.size = e + 77 ∧ oat G e 6 [.ref (e + 1), .ref (e + 9), .ref (e + 17), .null, .null, vi 0] H ∧ bkH G (e + 1) (fun _ => z0) H ∧ TX G (e + 9) z0 0 0 0 0 0 (fun _ => z0) H ∧ SP G (e + 17) (e + 1) (n0 3) z0 0 H ∧ SP G (e + 47) (e + 1) (n0 3) z0 0 H)) B miX3_init mlX6_25 (fun l => c_X3_init (κ := e + 1)) dX6_init_50 rfl rfl ⟨rfl, rfl, by decide, by decide⟩ (by decide) (Nat.le_of_ble_eq_true rfl) (fun q h => by have h' : e + 47 ≤ q := h; show e ≤ q; omega) (fun H h => ⟨h.1, h.2.2.2.2.2⟩) (fun v' H H1 h hp hs hq => ⟨hp.1, (fun o => ⟨hp.2.1, h.2.1.kept (o _ (by omega) (by show ¬ e + 47 ≤ _; omega)), h.2.2.1.kept (fun q a b => o q (by omega) (by show ¬ e + 47 ≤ _; omega)), h.2.2.2.1.kept (fun q a b => o q (by omega) (by show ¬ e + 47 ≤ _; omega)), h.2.2.2.2.1.kept (fun q a b => o q (by omega) (by show ¬ e + 47 ≤ _; omega)), hp.2.2⟩ : (∀ q : Nat, q < H.size → ¬ e + 47 ≤ q → H1[q]? = H[q]?) → _) hq⟩) ?_
  refine x_putF (P' := (fun H => H.size = e + 77 ∧ oat G e 6 [.ref (e + 1), .ref (e + 9), .ref (e + 17), .ref (e + 47), .null, vi 0] H ∧ bkH G (e + 1) (fun _ => z0) H ∧ TX G (e + 9) z0 0 0 0 0 0 (fun _ => z0) H ∧ SP G (e + 17) (e + 1) (n0 3) z0 0 H ∧ SP G (e + 47) (e + 1) (n0 3) z0 0 H)) B R rfl fpX6_32 (fun C T N h => by cases h; rfl) dX6_init_53 rfl rfl hA (fun H h => ⟨_, h.2.1, Nat.le_of_ble_eq_true rfl, fun H1 e1 z1 o => ⟨z1.trans h.1, e1, h.2.2.1.kept (fun q a b => o q (by omega)), h.2.2.2.1.kept (fun q a b => o q (by omega)), h.2.2.2.2.1.kept (fun q a b => o q (by omega)), h.2.2.2.2.2.kept (fun q a b => o q (by omega))⟩⟩) ?_
  refine x_aload_n B dX6_init_56 rfl ?_
  refine x_iconst B dX6_init_57 ?_
  refine x_anewa (C := "BatchExecutive$State") (j := 5) (a := e + 77) (N := 4) (P' := (fun H => H.size = e + 78 ∧ oat G e 6 [.ref (e + 1), .ref (e + 9), .ref (e + 17), .ref (e + 47), .null, vi 0] H ∧ bkH G (e + 1) (fun _ => z0) H ∧ TX G (e + 9) z0 0 0 0 0 0 (fun _ => z0) H ∧ SP G (e + 17) (e + 1) (n0 3) z0 0 H ∧ SP G (e + 47) (e + 1) (n0 3) z0 0 H ∧ rat G 5 (e + 77) 4 (fun _ => none) H)) B rfl dX6_init_58 cqX6_23 (fun s h => h.2.2.2.1) (by omega) (by decide) (fun H h => ⟨h.1, fun H1 e1 z1 o => ⟨z1, h.2.1.kept (o _ (by omega)), h.2.2.1.kept (fun q a b => o q (by omega)), h.2.2.2.1.kept (fun q a b => o q (by omega)), h.2.2.2.2.1.kept (fun q a b => o q (by omega)), h.2.2.2.2.2.kept (fun q a b => o q (by omega)), e1⟩⟩) ?_
  refine x_putF (P' := (fun H => H.size = e + 78 ∧ oat G e 6 [.ref (e + 1), .ref (e + 9), .ref (e + 17), .ref (e + 47), .ref (e + 77), vi 0] H ∧ bkH G (e + 1) (fun _ => z0) H ∧ TX G (e + 9) z0 0 0 0 0 0 (fun _ => z0) H ∧ SP G (e + 17) (e + 1) (n0 3) z0 0 H ∧ SP G (e + 47) (e + 1) (n0 3) z0 0 H ∧ rat G 5 (e + 77) 4 (fun _ => none) H)) B R rfl fpX6_35 (fun C T N h => by cases h; rfl) dX6_init_61 rfl rfl hA (fun H h => ⟨_, h.2.1, Nat.le_of_ble_eq_true rfl, fun H1 e1 z1 o => ⟨z1.trans h.1, e1, h.2.2.1.kept (fun q a b => o q (by omega)), h.2.2.2.1.kept (fun q a b => o q (by omega)), h.2.2.2.2.1.kept (fun q a b => o q (by omega)), h.2.2.2.2.2.1.kept (fun q a b => o q (by omega)), h.2.2.2.2.2.2.kept (o _ (by omega))⟩⟩) ?_
  refine x_weak (P' := K6 G e (fun _ => none) 0) (fun H h => ⟨h.1, h.2.1, h.2.2.1, h.2.2.2.1, h.2.2.2.2.1, h.2.2.2.2.2.1, h.2.2.2.2.2.2, fun s hs => by omega⟩) ?_
  refine x_iconst B dX6_init_64 ?_
  refine x_istore_n B dX6_init_65 (by decide) ?_
  exact loop 4 0 _ _ (fun _ => none) _ rfl rfl (by omega) (fun j hj => by omega) (xl_cons rfl (xl_cons rfl xl_nil))

/-! ===== constructor: State ===== -/
theorem rat.congr {G : xG} {j a n : Nat} {f g : Nat → Option Nat} {H : Heap} (h : rat G j a n f H) (e : ∀ k : Nat, k < n → f k = g k) : rat G j a n g H := by
  have h1 : H[a]? = some (vp_cell (G.2 j) (n, .inr (.inr (.inr (.inr f))))) := h
  show H[a]? = some (vp_cell (G.2 j) (n, .inr (.inr (.inr (.inr g)))))
  rw [h1, vp_cell_q, vp_cell_q]
  unfold arrV
  congr 2
  congr 1
  funext k
  show va_rf (f k.val) = va_rf (g k.val)
  rw [e k.val k.isLt]
def K3 (G : xG) (a κ : Nat) (Fu Fb : Nat → Option Nat) (hf : Int → Int) (iu ib : Nat) (H : Heap) : Prop := H.size = a + 10 + iu + ib ∧ oat G a 3 (hdS κ a 0 0 0 0 2) H ∧ rat G 3 (a + 1) 8 Fu H ∧ rat G 4 (a + 2) 12 Fb H ∧ aat G 0 (a + 3) 3 hf H ∧ aat G 0 (a + 4) 6 z0 H ∧ JR G (a + 5) 0 0 z0 z0 z0 H ∧ aat G 0 (a + 9) 12 z0 H ∧ (∀ u : Nat, u < iu → ∃ fs, oat G (a + 10 + u) 5 fs H ∧ fs.length = 6) ∧ ∀ x : Nat, x < ib → ∃ fs, oat G (a + 18 + x) 0 fs H ∧ fs.length = 10
theorem K3.unit {G : xG} {a κ : Nat} {Fu Fb Fu' : Nat → Option Nat} {hf : Int → Int} {iu : Nat} {H H1 H2 : Heap} {fs : List Value} (h : K3 G a κ Fu Fb hf iu 0 H) (h1 : oat G (a + 10 + iu) 5 fs H1) (hl : fs.length = 6) (hz : H1.size = a + 10 + iu + 1) (o : ∀ q : Nat, q < a + 10 + iu → H1[q]? = H[q]?) (h2 : rat G 3 (a + 1) 8 Fu' H2) (hz2 : H2.size = H1.size) (o2 : ∀ q : Nat, q ≠ a + 1 → H2[q]? = H1[q]?) : K3 G a κ Fu' Fb hf (iu + 1) 0 H2 := by
  obtain ⟨g0, g1, g2, g3, g4, g5, g6, g7, g8, g9⟩ := h
  have oo : ∀ q : Nat, q < a + 10 + iu → q ≠ a + 1 → H2[q]? = H[q]? := fun q q0 q1 => (o2 q q1).trans (o q q0)
  refine ⟨by omega, g1.kept (oo _ (by omega) (by omega)), h2, g3.kept (oo _ (by omega) (by omega)), g4.kept (oo _ (by omega) (by omega)), g5.kept (oo _ (by omega) (by omega)), g6.kept (fun q q0 q1 => oo q (by omega) (by omega)), g7.kept (oo _ (by omega) (by omega)), fun u hu => ?_, fun x hx => by omega⟩
  by_cases c : u = iu
  · subst c
    exact ⟨fs, h1.kept (o2 _ (by omega)), hl⟩
  · obtain ⟨fs', e1, e2⟩ := g8 u (by omega)
    exact ⟨fs', e1.kept (oo _ (by omega) (by omega)), e2⟩
theorem K3.batch {G : xG} {a κ : Nat} {Fu Fb Fb' : Nat → Option Nat} {hf : Int → Int} {ib : Nat} {H H1 H2 : Heap} {fs : List Value} (h : K3 G a κ Fu Fb hf 8 ib H) (h1 : oat G (a + 18 + ib) 0 fs H1) (hl : fs.length = 10) (hz : H1.size = a + 18 + ib + 1) (o : ∀ q : Nat, q < a + 18 + ib → H1[q]? = H[q]?) (h2 : rat G 4 (a + 2) 12 Fb' H2) (hz2 : H2.size = H1.size) (o2 : ∀ q : Nat, q ≠ a + 2 → H2[q]? = H1[q]?) : K3 G a κ Fu Fb' hf 8 (ib + 1) H2 := by
  obtain ⟨g0, g1, g2, g3, g4, g5, g6, g7, g8, g9⟩ := h
  have oo : ∀ q : Nat, q < a + 18 + ib → q ≠ a + 2 → H2[q]? = H[q]? := fun q q0 q1 => (o2 q q1).trans (o q q0)
  refine ⟨by omega, g1.kept (oo _ (by omega) (by omega)), g2.kept (oo _ (by omega) (by omega)), h2, g4.kept (oo _ (by omega) (by omega)), g5.kept (oo _ (by omega) (by omega)), g6.kept (fun q q0 q1 => oo q (by omega) (by omega)), g7.kept (oo _ (by omega) (by omega)), fun u hu => ?_, fun x hx => ?_⟩
  · obtain ⟨fs', e1, e2⟩ := g8 u hu
    exact ⟨fs', e1.kept (oo _ (by omega) (by omega)), e2⟩
  · by_cases c : x = ib
    · subst c
      exact ⟨fs, h1.kept (o2 _ (by omega)), hl⟩
    · obtain ⟨fs', e1, e2⟩ := g9 x (by omega)
      exact ⟨fs', e1.kept (oo _ (by omega) (by omega)), e2⟩
theorem K3.hf {G : xG} {a κ : Nat} {Fu Fb : Nat → Option Nat} {hf hf' : Int → Int} {H H1 : Heap} (h : K3 G a κ Fu Fb hf 8 12 H) (h1 : aat G 0 (a + 3) 3 hf' H1) (hz : H1.size = H.size) (o : ∀ q : Nat, q ≠ a + 3 → H1[q]? = H[q]?) : K3 G a κ Fu Fb hf' 8 12 H1 := by
  obtain ⟨g0, g1, g2, g3, g4, g5, g6, g7, g8, g9⟩ := h
  refine ⟨by omega, g1.kept (o _ (by omega)), g2.kept (o _ (by omega)), g3.kept (o _ (by omega)), h1, g5.kept (o _ (by omega)), g6.kept (fun q q0 q1 => o q (by omega)), g7.kept (o _ (by omega)), fun u hu => ?_, fun x hx => ?_⟩
  · obtain ⟨fs', e1, e2⟩ := g8 u hu
    exact ⟨fs', e1.kept (o _ (by omega)), e2⟩
  · obtain ⟨fs', e1, e2⟩ := g9 x hx
    exact ⟨fs', e1.kept (o _ (by omega)), e2⟩
theorem K3.done {G : xG} {a κ : Nat} {Fu Fb : Nat → Option Nat} {hf : Int → Int} {H : Heap} (h : K3 G a κ Fu Fb hf 8 12 H) (hu : ∀ j : Nat, j < 8 → Fu j = some (a + 10 + j)) (hb : ∀ j : Nat, j < 12 → Fb j = some (a + 18 + j)) (hh : ∀ k, 0 ≤ k → k < 3 → hf k = -1) : H.size = a + 30 ∧ SP G a κ (n0 3) z0 0 H := by
  obtain ⟨g0, g1, g2, g3, g4, g5, g6, g7, g8, g9⟩ := h
  refine ⟨by omega, ⟨g1, g2.congr hu, g3.congr hb, g4.congr (fun k k0 k1 => by rw [hh k k0 k1]; unfold n0; rw [if_neg (by omega), if_pos (by omega)]), g5.congr (fun k k0 k1 => by unfold z0 n0; rw [if_neg (by omega), if_neg (by omega)]), ⟨0, z0, z0, z0, g6, fun i i0 i1 => absurd i1 (by show ¬ i < 0; omega)⟩, g7, fun u u0 u1 => ?_, fun x x0 x1 => ?_⟩, ⟨by decide, by decide, by decide, n0_rg⟩, fun k => by unfold z0; omega, by omega⟩
  · obtain ⟨fs, e1, e2⟩ := g8 u.toNat (by omega)
    exact ⟨fs, e1, e2, fun q => absurd q (by show ¬ u < 0; omega)⟩
  · obtain ⟨fs, e1, e2⟩ := g9 x.toNat (by omega)
    exact ⟨fs, e1, e2, fun q => absurd q (by show ¬ x < 0; omega)⟩
theorem c_X3_init {G : xG} {l : Launch} {a κ : Nat} : CT G l yX3_init cX3_init 3 none { frames := 3, locals := 120, cells := 29, slots := 334 } 29 334 [.ref a, .ref κ] (fun H => H.size = a + 1 ∧ oat G a 3 [.null, .null, .null, .null, .null, .null, .null, vi 0, vi 0, vi 0, vi 0, vi 0] H) (pV (fun H => H.size = a + 30 ∧ SP G a κ (n0 3) z0 0 H)) (fun q => a ≤ q) := by
  refine x_met1 (own := RX3) (nm := "<init>") (L := [(0, .ref a), (1, .ref κ)]) (by decide) rfl rfl (fun _ => rfl) (Nat.le_of_ble_eq_true rfl) rfl rfl ?_
  intro Γ B R
  have hA : (fun q => a ≤ q) a := Nat.le_refl _
  have loopP : ∀ (f k : Nat) (Fu Fb : Nat → Option Nat) (hf : Int → Int) (L : List (Nat × Value)), k + f = 3 → (∀ j : Nat, j < 8 → Fu j = some (a + 10 + j)) → (∀ j : Nat, j < 12 → Fb j = some (a + 18 + j)) → (∀ j : Int, 0 ≤ j → j < k → hf j = -1) → (∀ p2 ∈ [(0, Value.ref a), (2, vi (k : Int))], lget L p2.1 = some p2.2) → XJ Γ 29 334 (K3 G a κ Fu Fb hf 8 12) 122 L [] := by
    intro f
    induction f with
    | zero =>
      intro k Fu Fb hf L hk hu hb2 hh hL
      refine x_locs hL ?_
      have h3 : k = 3 := by omega
      subst h3
      refine x_iload_n B dX3_init_122 rfl ?_
      refine x_iconst B dX3_init_123 ?_
      refine x_icmp_ge (tgt := 140) B dX3_init_124 (by decide) (by omega) (by omega) (fun c124 => ?_) (fun c124 => ?_)
      · exact x_retV B R dX3_init_140 (fun H h => by exact h.done hu hb2 hh)
      · omega
    | succ f ih =>
      intro k Fu Fb hf L hk hu hb2 hh hL
      refine x_locs hL ?_
      refine x_iload_n B dX3_init_122 rfl ?_
      refine x_iconst B dX3_init_123 ?_
      refine x_icmp_ge (tgt := 140) B dX3_init_124 (by decide) (by omega) (by omega) (fun c124 => ?_) (fun c124 => ?_)
      · omega
      · refine x_aload_n B dX3_init_127 rfl ?_
        refine x_get B fgX3_23 dX3_init_128 (fun H h => ⟨_, h.2.1, rfl⟩) ?_
        refine x_iload_n B dX3_init_131 rfl ?_
        refine x_iconst B dX3_init_132 ?_
        refine x_iast (P' := K3 G a κ Fu Fb (up hf (k : Int) (-1)) 8 12) B dX3_init_133 (by omega) (by decide) (by show a ≤ _; omega) (fun H h => ⟨h.2.2.2.2.1, fun H1 e1 z1 o => h.hf e1 z1 o⟩) ?_
        refine x_iinc B dX3_init_134 rfl (by decide) ?_
        refine x_goto (tgt := 122) B dX3_init_137 (by decide) ?_
        exact ih (k + 1) Fu Fb _ _ (by omega) hu hb2 (fun j j0 j1 => by
          unfold up
          by_cases c : j = (k : Int)
          · rw [if_pos c]
          · rw [if_neg c]; exact hh j j0 (by omega)) (xl_cons rfl (xl_cons rfl xl_nil))
  have loopB : ∀ (f k kc ks : Nat) (Fu Fb : Nat → Option Nat) (L : List (Nat × Value)), kc = 17 + k → ks = 214 + 10 * k → k + f = 12 → (∀ j : Nat, j < 8 → Fu j = some (a + 10 + j)) → (∀ j : Nat, j < k → Fb j = some (a + 18 + j)) → (∀ p2 ∈ [(0, Value.ref a), (2, vi (k : Int))], lget L p2.1 = some p2.2) → XJ Γ kc ks (K3 G a κ Fu Fb z0 8 k) 95 L [] := by
    intro f
    induction f with
    | zero =>
      intro k kc ks Fu Fb L hkc hks hk hu hF hL
      refine x_locs hL ?_
      have h8 : k = 12 := by omega
      subst h8
      subst hkc
      subst hks
      refine x_iload_n B dX3_init_95 rfl ?_
      refine x_bipush B dX3_init_96 (by decide) ?_
      refine x_icmp_ge (tgt := 120) B dX3_init_98 (by decide) (by omega) (by omega) (fun c98 => ?_) (fun c98 => ?_)
      · refine x_iconst B dX3_init_120 ?_
        refine x_istore_n B dX3_init_121 (by decide) ?_
        exact loopP 3 0 Fu Fb z0 _ (by omega) hu hF (fun j j0 j1 => by omega) (xl_cons rfl (xl_cons rfl xl_nil))
      · omega
    | succ f ih =>
      intro k kc ks Fu Fb L hkc hks hk hu hF hL
      refine x_locs hL ?_
      refine x_iload_n B dX3_init_95 rfl ?_
      refine x_bipush B dX3_init_96 (by decide) ?_
      refine x_icmp_ge (tgt := 120) B dX3_init_98 (by decide) (by omega) (by omega) (fun c98 => ?_) (fun c98 => ?_)
      · omega
      · refine x_aload_n B dX3_init_101 rfl ?_
        refine x_get B fgX3_19 dX3_init_102 (fun H h => ⟨_, h.2.1, rfl⟩) ?_
        refine x_iload_n B dX3_init_105 rfl ?_
        refine x_new (a := a + 18 + k) (N := 10) (P' := fun H1 => ∃ H, K3 G a κ Fu Fb z0 8 k H ∧ oat G (a + 18 + k) 0 [vi 0, vi 0, vi 0, vi 0, vi 0, vi 0, vi 0, vi 0, vi 0, .float 0] H1 ∧ H1.size = a + 18 + k + 1 ∧ ∀ q : Nat, q < a + 18 + k → H1[q]? = H[q]?) B cnX3_17 dX3_init_106 df_0 ⟨by show kc + 1 ≤ 29; omega, by show ks + 10 ≤ 334; omega⟩ (fun H h => ⟨by have := h.1; omega, fun H1 e1 z1 o => ⟨H, h, e1, z1, o⟩⟩) ?_
        refine x_dup B dX3_init_109 rfl ?_
        refine x_callINg (As := []) (P' := fun H1 => ∃ H, K3 G a κ Fu Fb z0 8 k H ∧ oat G (a + 18 + k) 0 [vi 0, vi 0, vi 0, vi 0, vi 0, vi 0, vi 0, vi 0, vi 0, .float 0] H1 ∧ H1.size = a + 18 + k + 1 ∧ ∀ q : Nat, q < a + 18 + k → H1[q]? = H[q]?) B miX0_init (fun s h => h.1.2.2.2.2.1) (fun l => c_X0_init (A := fun _ => False)) dX3_init_110 rfl rfl ⟨rfl, rfl, by decide, by decide⟩ ⟨by show kc + 1 + 0 ≤ 29; omega, by show ks + 10 + 0 ≤ 334; omega⟩ (Nat.le_of_ble_eq_true rfl) (fun q h => h.elim) (fun H h => h) (fun v' H H1 h hp hs hq => ⟨hp.1, hp.2⟩) ?_
        refine x_aast (j := 4) (ci := 0) (n := 12) (r := ("BatchExecutive$Batch", _, _)) (P' := K3 G a κ Fu (va_up Fb (k : Int).toNat (some (a + 18 + k))) z0 8 (k + 1)) B dX3_init_113 rfl rfl (by omega) (by decide) (by show a ≤ _; omega) (fun H1 h => (by
            obtain ⟨H, h0, h1, hz, o⟩ := h
            exact ⟨h0.2.2.2.1.kept (o _ (by omega)), ⟨_, h1⟩, fun H2 e2 z2 o2 => h0.batch h1 rfl hz o e2 z2 o2⟩)) ?_
        refine x_iinc B dX3_init_114 rfl (by decide) ?_
        refine x_goto (tgt := 95) B dX3_init_117 (by decide) ?_
        exact ih (k + 1) _ _ _ _ _ (by omega) (by omega) (by omega) hu (fun j hj => by
          unfold va_up
          by_cases c : j = (k : Int).toNat
          · rw [if_pos c]; congr 1; omega
          · rw [if_neg c]; exact hF j (by omega)) (xl_cons rfl (xl_cons rfl xl_nil))
  have loopU : ∀ (f k kc ks : Nat) (Fu : Nat → Option Nat) (L : List (Nat × Value)), kc = 9 + k → ks = 166 + 6 * k → k + f = 8 → (∀ j : Nat, j < k → Fu j = some (a + 10 + j)) → (∀ p2 ∈ [(0, Value.ref a), (2, vi (k : Int))], lget L p2.1 = some p2.2) → XJ Γ kc ks (K3 G a κ Fu (fun _ => none) z0 k 0) 68 L [] := by
    intro f
    induction f with
    | zero => 
      intro k kc ks Fu L hkc hks hk hF hL
      refine x_locs hL ?_
      have h8 : k = 8 := by omega
      subst h8
      subst hkc
      subst hks
      refine x_iload_n B dX3_init_68 rfl ?_
      refine x_bipush B dX3_init_69 (by decide) ?_
      refine x_icmp_ge (tgt := 93) B dX3_init_71 (by decide) (by omega) (by omega) (fun c71 => ?_) (fun c71 => ?_)
      · refine x_iconst B dX3_init_93 ?_
        refine x_istore_n B dX3_init_94 (by decide) ?_
        exact loopB 12 0 _ _ Fu (fun _ => none) _ rfl rfl (by omega) hF (fun j hj => by omega) (xl_cons rfl (xl_cons rfl xl_nil))
      · omega
    | succ f ih =>
      intro k kc ks Fu L hkc hks hk hF hL
      refine x_locs hL ?_
      refine x_iload_n B dX3_init_68 rfl ?_
      refine x_bipush B dX3_init_69 (by decide) ?_
      refine x_icmp_ge (tgt := 93) B dX3_init_71 (by decide) (by omega) (by omega) (fun c71 => ?_) (fun c71 => ?_)
      · omega
      · refine x_aload_n B dX3_init_74 rfl ?_
        refine x_get B fgX3_11 dX3_init_75 (fun H h => ⟨_, h.2.1, rfl⟩) ?_
        refine x_iload_n B dX3_init_78 rfl ?_
        refine x_new (a := a + 10 + k) (N := 6) (P' := fun H1 => ∃ H, K3 G a κ Fu (fun _ => none) z0 k 0 H ∧ oat G (a + 10 + k) 5 [vi 0, vi 0, vi 0, vi 0, vi 0, vi 0] H1 ∧ H1.size = a + 10 + k + 1 ∧ ∀ q : Nat, q < a + 10 + k → H1[q]? = H[q]?) B cnX3_9 dX3_init_79 df_5 ⟨by show kc + 1 ≤ 29; omega, by show ks + 6 ≤ 334; omega⟩ (fun H h => ⟨h.1, fun H1 e1 z1 o => ⟨H, h, e1, z1, o⟩⟩) ?_
        refine x_dup B dX3_init_82 rfl ?_
        refine x_callINg (As := []) (P' := fun H1 => ∃ H, K3 G a κ Fu (fun _ => none) z0 k 0 H ∧ oat G (a + 10 + k) 5 [vi 0, vi 0, vi 0, vi 0, vi 0, vi 0] H1 ∧ H1.size = a + 10 + k + 1 ∧ ∀ q : Nat, q < a + 10 + k → H1[q]? = H[q]?) B miX5_init (fun s h => h.1.2.2.2.1) (fun l => c_X5_init (A := fun _ => False)) dX3_init_83 rfl rfl ⟨rfl, rfl, by decide, by decide⟩ ⟨by show kc + 1 + 0 ≤ 29; omega, by show ks + 6 + 0 ≤ 334; omega⟩ (Nat.le_of_ble_eq_true rfl) (fun q h => h.elim) (fun H h => h) (fun v' H H1 h hp hs hq => ⟨hp.1, hp.2⟩) ?_
        refine x_aast (j := 3) (ci := 5) (n := 8) (r := ("BatchExecutive$Unit", _, _)) (P' := K3 G a κ (va_up Fu (k : Int).toNat (some (a + 10 + k))) (fun _ => none) z0 (k + 1) 0) B dX3_init_86 rfl rfl (by omega) (by decide) (by show a ≤ _; omega) (fun H1 h => (by
            obtain ⟨H, h0, h1, hz, o⟩ := h
            exact ⟨h0.2.2.1.kept (o _ (by omega)), ⟨_, h1⟩, fun H2 e2 z2 o2 => h0.unit h1 rfl hz o e2 z2 o2⟩)) ?_
        refine x_iinc B dX3_init_87 rfl (by decide) ?_
        refine x_goto (tgt := 68) B dX3_init_90 (by decide) ?_
        exact ih (k + 1) _ _ _ _ (by omega) (by omega) (by omega) (fun j hj => by
          unfold va_up
          by_cases c : j = (k : Int).toNat
          · rw [if_pos c]; congr 1; omega
          · rw [if_neg c]; exact hF j (by omega)) (xl_cons rfl (xl_cons rfl xl_nil))
  refine x_aload_n B dX3_init_0 rfl ?_
  refine x_oi B moX3_3 dX3_init_1 (by decide) ?_
  refine x_aload_n B dX3_init_4 rfl ?_
  refine x_bipush B dX3_init_5 (by decide) ?_
  refine x_anewa (C := "BatchExecutive$Unit") (j := 3) (a := a + 1) (N := 8) (P' := (fun H => H.size = a + 2 ∧ oat G a 3 [.null, .null, .null, .null, .null, .null, .null, vi 0, vi 0, vi 0, vi 0, vi 0] H ∧ rat G 3 (a + 1) 8 (fun _ => none) H)) B rfl dX3_init_7 cqX3_9 (fun s h => h.2.1) (by omega) (by decide) (fun H h => ⟨h.1, fun H1 e1 z1 o => ⟨z1, h.2.kept (o _ (by omega)), e1⟩⟩) ?_
  refine x_putF (P' := (fun H => H.size = a + 2 ∧ oat G a 3 [.null, .ref (a + 1), .null, .null, .null, .null, .null, vi 0, vi 0, vi 0, vi 0, vi 0] H ∧ rat G 3 (a + 1) 8 (fun _ => none) H)) B R rfl fpX3_11 (fun C T N h => by cases h; rfl) dX3_init_10 rfl rfl hA (fun H h => ⟨_, h.2.1, Nat.le_of_ble_eq_true rfl, fun H1 e1 z1 o => ⟨z1.trans h.1, e1, h.2.2.kept (o _ (by omega))⟩⟩) ?_
  refine x_aload_n B dX3_init_13 rfl ?_
  refine x_bipush B dX3_init_14 (by decide) ?_
  refine x_anewa (C := "BatchExecutive$Batch") (j := 4) (a := a + 2) (N := 12) (P' := (fun H => H.size = a + 3 ∧ oat G a 3 [.null, .ref (a + 1), .null, .null, .null, .null, .null, vi 0, vi 0, vi 0, vi 0, vi 0] H ∧ rat G 3 (a + 1) 8 (fun _ => none) H ∧ rat G 4 (a + 2) 12 (fun _ => none) H)) B rfl dX3_init_16 cqX3_17 (fun s h => h.2.2.1) (by omega) (by decide) (fun H h => ⟨h.1, fun H1 e1 z1 o => ⟨z1, h.2.1.kept (o _ (by omega)), h.2.2.kept (o _ (by omega)), e1⟩⟩) ?_
  refine x_putF (P' := (fun H => H.size = a + 3 ∧ oat G a 3 [.null, .ref (a + 1), .ref (a + 2), .null, .null, .null, .null, vi 0, vi 0, vi 0, vi 0, vi 0] H ∧ rat G 3 (a + 1) 8 (fun _ => none) H ∧ rat G 4 (a + 2) 12 (fun _ => none) H)) B R rfl fpX3_19 (fun C T N h => by cases h; rfl) dX3_init_19 rfl rfl hA (fun H h => ⟨_, h.2.1, Nat.le_of_ble_eq_true rfl, fun H1 e1 z1 o => ⟨z1.trans h.1, e1, h.2.2.1.kept (o _ (by omega)), h.2.2.2.kept (o _ (by omega))⟩⟩) ?_
  refine x_aload_n B dX3_init_22 rfl ?_
  refine x_iconst B dX3_init_23 ?_
  refine x_newa (atype := .int) (t := .int) (j := 0) (a := a + 3) (N := 3) (P' := (fun H => H.size = a + 4 ∧ oat G a 3 [.null, .ref (a + 1), .ref (a + 2), .null, .null, .null, .null, vi 0, vi 0, vi 0, vi 0, vi 0] H ∧ rat G 3 (a + 1) 8 (fun _ => none) H ∧ rat G 4 (a + 2) 12 (fun _ => none) H ∧ aat G 0 (a + 3) 3 z0 H)) B rfl (Or.inl rfl) rfl dX3_init_24 aw_int (by omega) (by decide) (fun H h => ⟨h.1, fun H1 e1 z1 o => ⟨z1, h.2.1.kept (o _ (by omega)), h.2.2.1.kept (o _ (by omega)), h.2.2.2.kept (o _ (by omega)), e1⟩⟩) ?_
  refine x_putF (P' := (fun H => H.size = a + 4 ∧ oat G a 3 [.null, .ref (a + 1), .ref (a + 2), .ref (a + 3), .null, .null, .null, vi 0, vi 0, vi 0, vi 0, vi 0] H ∧ rat G 3 (a + 1) 8 (fun _ => none) H ∧ rat G 4 (a + 2) 12 (fun _ => none) H ∧ aat G 0 (a + 3) 3 z0 H)) B R rfl fpX3_23 (fun C T N h => by cases h; rfl) dX3_init_26 rfl rfl hA (fun H h => ⟨_, h.2.1, Nat.le_of_ble_eq_true rfl, fun H1 e1 z1 o => ⟨z1.trans h.1, e1, h.2.2.1.kept (o _ (by omega)), h.2.2.2.1.kept (o _ (by omega)), h.2.2.2.2.kept (o _ (by omega))⟩⟩) ?_
  refine x_aload_n B dX3_init_29 rfl ?_
  refine x_bipush B dX3_init_30 (by decide) ?_
  refine x_newa (atype := .int) (t := .int) (j := 0) (a := a + 4) (N := 6) (P' := (fun H => H.size = a + 5 ∧ oat G a 3 [.null, .ref (a + 1), .ref (a + 2), .ref (a + 3), .null, .null, .null, vi 0, vi 0, vi 0, vi 0, vi 0] H ∧ rat G 3 (a + 1) 8 (fun _ => none) H ∧ rat G 4 (a + 2) 12 (fun _ => none) H ∧ aat G 0 (a + 3) 3 z0 H ∧ aat G 0 (a + 4) 6 z0 H)) B rfl (Or.inl rfl) rfl dX3_init_32 aw_int (by omega) (by decide) (fun H h => ⟨h.1, fun H1 e1 z1 o => ⟨z1, h.2.1.kept (o _ (by omega)), h.2.2.1.kept (o _ (by omega)), h.2.2.2.1.kept (o _ (by omega)), h.2.2.2.2.kept (o _ (by omega)), e1⟩⟩) ?_
  refine x_putF (P' := (fun H => H.size = a + 5 ∧ oat G a 3 [.null, .ref (a + 1), .ref (a + 2), .ref (a + 3), .ref (a + 4), .null, .null, vi 0, vi 0, vi 0, vi 0, vi 0] H ∧ rat G 3 (a + 1) 8 (fun _ => none) H ∧ rat G 4 (a + 2) 12 (fun _ => none) H ∧ aat G 0 (a + 3) 3 z0 H ∧ aat G 0 (a + 4) 6 z0 H)) B R rfl fpX3_27 (fun C T N h => by cases h; rfl) dX3_init_34 rfl rfl hA (fun H h => ⟨_, h.2.1, Nat.le_of_ble_eq_true rfl, fun H1 e1 z1 o => ⟨z1.trans h.1, e1, h.2.2.1.kept (o _ (by omega)), h.2.2.2.1.kept (o _ (by omega)), h.2.2.2.2.1.kept (o _ (by omega)), h.2.2.2.2.2.kept (o _ (by omega))⟩⟩) ?_
  refine x_aload_n B dX3_init_37 rfl ?_
  refine x_new (a := a + 5) (N := 5) (P' := (fun H => H.size = a + 6 ∧ oat G a 3 [.null, .ref (a + 1), .ref (a + 2), .ref (a + 3), .ref (a + 4), .null, .null, vi 0, vi 0, vi 0, vi 0, vi 0] H ∧ rat G 3 (a + 1) 8 (fun _ => none) H ∧ rat G 4 (a + 2) 12 (fun _ => none) H ∧ aat G 0 (a + 3) 3 z0 H ∧ aat G 0 (a + 4) 6 z0 H ∧ oat G (a + 5) 2 [.null, .null, .null, vi 0, vi 0] H)) B cnX3_30 dX3_init_38 df_2 (by decide) (fun H h => ⟨h.1, fun H1 e1 z1 o => ⟨z1, h.2.1.kept (o _ (by omega)), h.2.2.1.kept (o _ (by omega)), h.2.2.2.1.kept (o _ (by omega)), h.2.2.2.2.1.kept (o _ (by omega)), h.2.2.2.2.2.kept (o _ (by omega)), e1⟩⟩) ?_
  refine x_dup B dX3_init_41 rfl ?_
  refine x_callINg (As := []) (P' := (fun H => H.size = a + 9 ∧ oat G a 3 [.null, .ref (a + 1), .ref (a + 2), .ref (a + 3), .ref (a + 4), .null, .null, vi 0, vi 0, vi 0, vi 0, vi 0] H ∧ rat G 3 (a + 1) 8 (fun _ => none) H ∧ rat G 4 (a + 2) 12 (fun _ => none) H ∧ aat G 0 (a + 3) 3 z0 H ∧ aat G 0 (a + 4) 6 z0 H ∧ JR G (a + 5) 0 0 z0 z0 z0 H)) B miX2_init (fun s h => h.1.2.2.1) (fun l => c_X2_init) dX3_init_42 rfl rfl ⟨rfl, rfl, by decide, by decide⟩ (by decide) (Nat.le_of_ble_eq_true rfl) (fun q h => by have h' : a + 5 ≤ q := h; show a ≤ q; omega) (fun H h => ⟨h.1, h.2.2.2.2.2.2⟩) (fun v' H H1 h hp hs hq => ⟨hp.1, (fun o => ⟨hp.2.1, h.2.1.kept (o _ (by omega) (by show ¬ a + 5 ≤ _; omega)), h.2.2.1.kept (o _ (by omega) (by show ¬ a + 5 ≤ _; omega)), h.2.2.2.1.kept (o _ (by omega) (by show ¬ a + 5 ≤ _; omega)), h.2.2.2.2.1.kept (o _ (by omega) (by show ¬ a + 5 ≤ _; omega)), h.2.2.2.2.2.1.kept (o _ (by omega) (by show ¬ a + 5 ≤ _; omega)), hp.2.2⟩ : (∀ q : Nat, q < H.size → ¬ a + 5 ≤ q → H1[q]? = H[q]?) → _) hq⟩) ?_
  refine x_putF (P' := (fun H => H.size = a + 9 ∧ oat G a 3 [.null, .ref (a + 1), .ref (a + 2), .ref (a + 3), .ref (a + 4), .ref (a + 5), .null, vi 0, vi 0, vi 0, vi 0, vi 0] H ∧ rat G 3 (a + 1) 8 (fun _ => none) H ∧ rat G 4 (a + 2) 12 (fun _ => none) H ∧ aat G 0 (a + 3) 3 z0 H ∧ aat G 0 (a + 4) 6 z0 H ∧ JR G (a + 5) 0 0 z0 z0 z0 H)) B R rfl fpX3_33 (fun C T N h => by cases h; rfl) dX3_init_45 rfl rfl hA (fun H h => ⟨_, h.2.1, Nat.le_of_ble_eq_true rfl, fun H1 e1 z1 o => ⟨z1.trans h.1, e1, h.2.2.1.kept (o _ (by omega)), h.2.2.2.1.kept (o _ (by omega)), h.2.2.2.2.1.kept (o _ (by omega)), h.2.2.2.2.2.1.kept (o _ (by omega)), h.2.2.2.2.2.2.kept (fun q a b => o q (by omega))⟩⟩) ?_
  refine x_aload_n B dX3_init_48 rfl ?_
  refine x_bipush B dX3_init_49 (by decide) ?_
  refine x_newa (atype := .int) (t := .int) (j := 0) (a := a + 9) (N := 12) (P' := (fun H => H.size = a + 10 ∧ oat G a 3 [.null, .ref (a + 1), .ref (a + 2), .ref (a + 3), .ref (a + 4), .ref (a + 5), .null, vi 0, vi 0, vi 0, vi 0, vi 0] H ∧ rat G 3 (a + 1) 8 (fun _ => none) H ∧ rat G 4 (a + 2) 12 (fun _ => none) H ∧ aat G 0 (a + 3) 3 z0 H ∧ aat G 0 (a + 4) 6 z0 H ∧ JR G (a + 5) 0 0 z0 z0 z0 H ∧ aat G 0 (a + 9) 12 z0 H)) B rfl (Or.inl rfl) rfl dX3_init_51 aw_int (by omega) (by decide) (fun H h => ⟨h.1, fun H1 e1 z1 o => ⟨z1, h.2.1.kept (o _ (by omega)), h.2.2.1.kept (o _ (by omega)), h.2.2.2.1.kept (o _ (by omega)), h.2.2.2.2.1.kept (o _ (by omega)), h.2.2.2.2.2.1.kept (o _ (by omega)), h.2.2.2.2.2.2.kept (fun q a b => o q (by omega)), e1⟩⟩) ?_
  refine x_putF (P' := (fun H => H.size = a + 10 ∧ oat G a 3 [.null, .ref (a + 1), .ref (a + 2), .ref (a + 3), .ref (a + 4), .ref (a + 5), .ref (a + 9), vi 0, vi 0, vi 0, vi 0, vi 0] H ∧ rat G 3 (a + 1) 8 (fun _ => none) H ∧ rat G 4 (a + 2) 12 (fun _ => none) H ∧ aat G 0 (a + 3) 3 z0 H ∧ aat G 0 (a + 4) 6 z0 H ∧ JR G (a + 5) 0 0 z0 z0 z0 H ∧ aat G 0 (a + 9) 12 z0 H)) B R rfl fpX3_37 (fun C T N h => by cases h; rfl) dX3_init_53 rfl rfl hA (fun H h => ⟨_, h.2.1, Nat.le_of_ble_eq_true rfl, fun H1 e1 z1 o => ⟨z1.trans h.1, e1, h.2.2.1.kept (o _ (by omega)), h.2.2.2.1.kept (o _ (by omega)), h.2.2.2.2.1.kept (o _ (by omega)), h.2.2.2.2.2.1.kept (o _ (by omega)), h.2.2.2.2.2.2.1.kept (fun q a b => o q (by omega)), h.2.2.2.2.2.2.2.kept (o _ (by omega))⟩⟩) ?_
  refine x_aload_n B dX3_init_56 rfl ?_
  refine x_iconst B dX3_init_57 ?_
  refine x_put (P' := (fun H => H.size = a + 10 ∧ oat G a 3 [.null, .ref (a + 1), .ref (a + 2), .ref (a + 3), .ref (a + 4), .ref (a + 5), .ref (a + 9), vi 0, vi 0, vi 0, vi 0, vi 2] H ∧ rat G 3 (a + 1) 8 (fun _ => none) H ∧ rat G 4 (a + 2) 12 (fun _ => none) H ∧ aat G 0 (a + 3) 3 z0 H ∧ aat G 0 (a + 4) 6 z0 H ∧ JR G (a + 5) 0 0 z0 z0 z0 H ∧ aat G 0 (a + 9) 12 z0 H)) B fpX3_40 dX3_init_58 rfl rfl hA (fun H h => ⟨_, h.2.1, Nat.le_of_ble_eq_true rfl, fun H1 e1 z1 o => ⟨z1.trans h.1, e1, h.2.2.1.kept (o _ (by omega)), h.2.2.2.1.kept (o _ (by omega)), h.2.2.2.2.1.kept (o _ (by omega)), h.2.2.2.2.2.1.kept (o _ (by omega)), h.2.2.2.2.2.2.1.kept (fun q a b => o q (by omega)), h.2.2.2.2.2.2.2.kept (o _ (by omega))⟩⟩) ?_
  refine x_aload_n B dX3_init_61 rfl ?_
  refine x_aload_n B dX3_init_62 rfl ?_
  refine x_putF (P' := (fun H => H.size = a + 10 ∧ oat G a 3 [.ref κ, .ref (a + 1), .ref (a + 2), .ref (a + 3), .ref (a + 4), .ref (a + 5), .ref (a + 9), vi 0, vi 0, vi 0, vi 0, vi 2] H ∧ rat G 3 (a + 1) 8 (fun _ => none) H ∧ rat G 4 (a + 2) 12 (fun _ => none) H ∧ aat G 0 (a + 3) 3 z0 H ∧ aat G 0 (a + 4) 6 z0 H ∧ JR G (a + 5) 0 0 z0 z0 z0 H ∧ aat G 0 (a + 9) 12 z0 H)) B R rfl fpX3_44 (fun C T N h => by cases h; rfl) dX3_init_63 rfl rfl hA (fun H h => ⟨_, h.2.1, Nat.le_of_ble_eq_true rfl, fun H1 e1 z1 o => ⟨z1.trans h.1, e1, h.2.2.1.kept (o _ (by omega)), h.2.2.2.1.kept (o _ (by omega)), h.2.2.2.2.1.kept (o _ (by omega)), h.2.2.2.2.2.1.kept (o _ (by omega)), h.2.2.2.2.2.2.1.kept (fun q a b => o q (by omega)), h.2.2.2.2.2.2.2.kept (o _ (by omega))⟩⟩) ?_
  refine x_weak (P' := K3 G a κ (fun _ => none) (fun _ => none) z0 0 0) (fun H h => ⟨h.1, h.2.1, h.2.2.1, h.2.2.2.1, h.2.2.2.2.1, h.2.2.2.2.2.1, h.2.2.2.2.2.2.1, h.2.2.2.2.2.2.2, fun u hu => by omega, fun x hx => by omega⟩) ?_
  refine x_iconst B dX3_init_66 ?_
  refine x_istore_n B dX3_init_67 (by decide) ?_
  exact loopU 8 0 _ _ (fun _ => none) _ rfl rfl (by omega) (fun j hj => by omega) (xl_cons rfl (xl_cons rfl xl_nil))

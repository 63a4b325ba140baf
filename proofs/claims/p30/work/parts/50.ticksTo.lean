/-! ===== the executive: ticksTo ===== -/
theorem s_to_hit {m : Int → Int} {b : Int} {f n : Nat} (h : (s_ticks n m) (548 + 10 * b + 5) = 6) : s_to m b f n = n := by
  cases f with
  | zero => unfold s_to; rw [if_pos h]
  | succ f => unfold s_to; rw [if_pos h]
theorem s_to_step {m : Int → Int} {b : Int} {f n : Nat} (h : (s_ticks n m) (548 + 10 * b + 5) ≠ 6) : s_to m b (f + 1) n = s_to m b f (n + 1) := by
  rw [s_to, if_neg h]
theorem s_to_end {m : Int → Int} {b : Int} {n : Nat} (h : (s_ticks n m) (548 + 10 * b + 5) ≠ 6) : s_to m b 0 n = -4 := by
  unfold s_to
  rw [if_neg h]
section OPC6
variable {G : xG} {l : Launch} {e : Nat} {m : Int → Int} {ρ : Nat → Int → Int} {W : Int}
/-- beside the executive, what its trial State holds -/
def ET (G : xG) (e : Nat) (β : Nat → Int → Int) (m od : Int → Int) (oc : Int) (q : Nat) (F : Nat → Option Nat) (T : Int → Int) (n pc rs pl at_ : Int) (vs : Nat → Int → Int) (N : Int) (S : Int → Int → Int) (m2 od2 : Int → Int) (oc2 : Int) (H : Heap) : Prop := EX G e β m od oc q F T n pc rs pl at_ vs N S H ∧ PS G (e + 47) (e + 1) β m2 od2 oc2 H
section ETS
variable {β : Nat → Int → Int} {od m2 od2 m3 od3 : Int → Int} {oc oc2 oc3 : Int} {q : Nat} {F : Nat → Option Nat} {T : Int → Int} {n pc rs pl at_ : Int} {vs : Nat → Int → Int} {N : Int} {S : Int → Int → Int} {H H1 : Heap}
theorem EX.setJ (h : EX G e β m od oc q F T n pc rs pl at_ vs N S H) (hp : JS G (e + 47) (e + 1) H1) (hq : ∀ q' : Nat, e ≤ q' → q' < e + 198 → ¬ (e + 47 ≤ q' ∧ q' < e + 77) → H1[q']? = H[q']?) : EX G e β m od oc q F T n pc rs pl at_ vs N S H1 := by
  obtain ⟨h1, h2, h3, h4, h5, h6, h7, h8⟩ := h
  refine ⟨h1.kept (hq _ (by omega) (by omega) (by omega)), h2.kept (fun q a b => hq q (by omega) (by omega) (by omega)) (fun q a b => hq q (by omega) (by omega) (by omega)), h3.kept (fun q a b => hq q (by omega) (by omega) (by omega)), hp, h5.kept (hq _ (by omega) (by omega) (by omega)), fun s hs => (h6 s hs).kept (fun q a b => hq q (by omega) (by omega) (by omega)), fun i hi => ?_, h8⟩
  obtain ⟨od1, oc1, p⟩ := h7 i hi
  have hg := pA_rg (e := e) (q := q) (i := i)
  exact ⟨od1, oc1, p.kept (fun q a b => hq q (by omega) (by omega) (by omega)) (fun q a b => hq q (by omega) (by omega) (by omega))⟩
theorem ET.fa : ∀ q, AS (e + 47) q → AE e q := fun q h => by unfold AS at h; unfold AE; omega
theorem ET.fb : ∀ H, ET G e β m od oc q F T n pc rs pl at_ vs N S m2 od2 oc2 H → PS G (e + 47) (e + 1) β m2 od2 oc2 H ∧ ∃ fs, oat G (e + 47) 3 fs H := fun H h => ⟨h.2, PS.rv H h.2⟩
theorem ET.fc : ∀ H H1, ET G e β m od oc q F T n pc rs pl at_ vs N S m2 od2 oc2 H → PS G (e + 47) (e + 1) β m3 od3 oc3 H1 → H.size ≤ H1.size → (∀ q : Nat, q < H.size → ¬ AS (e + 47) q → H1[q]? = H[q]?) → ET G e β m od oc q F T n pc rs pl at_ vs N S m3 od3 oc3 H1 := fun H H1 h hp _ hq => ⟨h.1.setJ hp.js (fun q a b c => hq q (by have := h.1.size; omega) (by unfold AS; omega)), hp⟩
theorem ET.fk : ∀ H H1, EX G e β m od oc q F T n pc rs pl at_ vs N S H → ((∃ od oc, PS G (e + 47) (e + 1) β m od oc H1) ∧ PS G (e + 17) (e + 1) β m od oc H1) → H.size ≤ H1.size → (∀ q : Nat, q < H.size → ¬ AS (e + 47) q → H1[q]? = H[q]?) → ∃ i : (Int → Int) × Int, ET G e β m od oc q F T n pc rs pl at_ vs N S m i.1 i.2 H1 := fun H H1 h hp _ hq => by
  obtain ⟨⟨od1, oc1, p⟩, -⟩ := hp
  exact ⟨(od1, oc1), h.setJ p.js (fun q a b c => hq q (by have := h.size; omega) (by unfold AS; omega)), p⟩
end ETS
theorem c_X6_ticksTo {x : Int} (hI : IL m ρ) (h3 : -2147483648 ≤ x ∧ x < 2147483648) : CT G l yX6_ticksTo cX6_ticksTo 5 (some .int) ({ frames := 6, cells := 0, slots := 0, locals := 140 } : Room) 0 0 [.ref e, vi x] (PE G e m ρ) (pI (o_ticksTo m ρ x).1 (PE G e (o_ticksTo m ρ x).2.1 (o_ticksTo m ρ x).2.2)) (AE e) := by
  refine x_met1 (own := RX6) (nm := "ticksTo") (L := [(0, .ref e), (1, vi x)]) (by decide) rfl rfl (fun _ => rfl) (Nat.le_of_ble_eq_true rfl) rfl rfl ?_
  intro Γ B R
  obtain ⟨hV, hr, hb⟩ := hI.x
  have hn := hV.n
  have hT := hI.2.1
  have hO : o_ticksTo m ρ x = if ¬ (0 ≤ x ∧ x ≤ m 3 - 1) then (-1, m, ρ) else (s_to m x 2000 0, m, ρ) := rfl
  have loop : ∀ (f k : Nat) (L : List (Nat × Value)) (β : Nat → Int → Int) (od : Int → Int) (oc : Int) (q : Nat) (F : Nat → Option Nat) (T : Int → Int) (pc0 rs pl at_ : Int) (vs : Nat → Int → Int) (S : Int → Int → Int) (od2 : Int → Int) (oc2 : Int), okW e q F T S ρ → (0 ≤ x ∧ x < m 3) → k + f = 2000 → s_to m x 2000 0 = s_to m x f k → (s_ticks k m) (548 + 10 * x + 5) ≠ 6 → oc2 = (ordL m (m 3).toNat).length → lrep od2 (ordL m (m 3).toNat) → (∀ p2 ∈ [(0, Value.ref e), (1, vi x), (2, .ref (bA (e + 47) x)), (3, vi ((k : Int) + 1))], lget L p2.1 = some p2.2) → XJ Γ 0 0 (ET G e β m od oc q F T (ρ 5 1) pc0 rs pl at_ vs (ρ 5 0) S (s_ticks k m) od2 oc2) 59 L [] := by
    intro f
    induction f with
    | zero =>
      intro k L β od oc q F T pc0 rs pl at_ vs S od2 oc2 hw hx hkf hs h6 ho hl hL
      refine x_locs hL ?_
      refine x_weak (fun H h => h.1) ?_
      rw [s_to_end h6] at hs
      refine x_iload_n B dX6_ticksTo_59 rfl ?_
      refine x_sipush B dX6_ticksTo_60 (by decide) ?_
      refine x_icmp_gt (tgt := 107) B dX6_ticksTo_63 (by decide) (by omega) (by omega) (fun c63 => ?_) (fun c63 => ?_)
      · refine x_bipush B dX6_ticksTo_107 (by decide) ?_
        exact x_retE B R dX6_ticksTo_109 (by rw [hO, if_neg (by omega), hs]) (by decide) rfl rfl hw
      · omega
    | succ f ih =>
      intro k L β od oc q F T pc0 rs pl at_ vs S od2 oc2 hw hx hkf hs h6 ho hl hL
      refine x_locs hL ?_
      obtain ⟨g0, g1, g2, g3, g4, g5⟩ := ticks_E hV k (by omega)
      have e3 := g2 3 (by omega)
      have hlen := ordL_len (m := m) (n := (m 3).toNat)
      have hact : ∀ b, 0 ≤ b → b < s_ticks k m 3 → ((s_ticks k m) (548 + 10 * b + 5) = 1 ∨ (s_ticks k m) (548 + 10 * b + 5) = 3) → (m (548 + 10 * b + 5) = 1 ∨ m (548 + 10 * b + 5) = 3) := fun b b0 b1 ha => by have := g5 b b0 (by omega); omega
      have hpt : (passM (ordL m (m 3).toNat) (s_ticks k m)).1 = s_ticks (k + 1) m := passM_tick g0 e3 (fun b b0 b1 => g3 b 3 b0 (by omega) (by omega) (by omega)) hact
      have hidle : ¬ ((s_ticks k m) (548 + 10 * x + 5) = 1 ∨ (s_ticks k m) (548 + 10 * x + 5) = 3) → s_to m x 2000 0 = -4 := fun hn => by
        rw [hs]
        exact to_idle hV (by omega) hx.1 hx.2 hn h6
      have hstuck : (passM (ordL m (m 3).toNat) (s_ticks k m)).2 ≠ 1 → s_to m x 2000 0 = -4 := fun hn => by
        rw [hs]
        exact to_stuck hV (by omega) hx.1 (passM_stuck g0 (fun c c0 c1 ca => ordL_mem.mpr ⟨by omega, hact c c0 c1 ca⟩) hn) h6
      refine x_fact (fun H h => h.2.mok.2.2.2) (fun hmk => ?_)
      refine x_iload_n B dX6_ticksTo_59 rfl ?_
      refine x_sipush B dX6_ticksTo_60 (by decide) ?_
      refine x_icmp_gt (tgt := 107) B dX6_ticksTo_63 (by decide) (by omega) (by omega) (fun c63 => ?_) (fun c63 => ?_)
      · refine x_bipush B dX6_ticksTo_107 (by decide) ?_
        refine x_weak (fun H h => h.1) ?_
        first
          | (exfalso; omega)
          | exact x_retE B R dX6_ticksTo_109 (by rw [hO, if_neg (by omega), hidle (by assumption)]) (by decide) rfl rfl hw
      · refine x_aload_n B dX6_ticksTo_66 rfl ?_
        refine x_mZ B mvX6_160 (fun l => c_X0_isActive (fun H h => PS.ob (by omega) H h.2) hmk) dX6_ticksTo_67 rfl rfl (by decide) (by decide) (Nat.le_of_ble_eq_true rfl) (fun H h => PS.rvB (by omega) H h.2) ?_
        refine x_ifz_eq (tgt := 107) B dX6_ticksTo_70 (by decide) (fun c70 => ?_) (fun c70 => ?_)
        · refine x_bipush B dX6_ticksTo_107 (by decide) ?_
          refine x_weak (fun H h => h.1) ?_
          first
            | (exfalso; omega)
            | exact x_retE B R dX6_ticksTo_109 (by rw [hO, if_neg (by omega), hidle (by assumption)]) (by decide) rfl rfl hw
        · refine x_aload_n B dX6_ticksTo_73 rfl ?_
          refine x_get B fgX6_32 dX6_ticksTo_74 (fun H h => ⟨_, h.1.1, rfl⟩) ?_
          refine x_fZ B mvX6_234 (fun l => c_X3_passTick g0 (by omega) (by omega) ho hl (fun c hc => by have := ordL_mem.mp hc; omega) (by omega)) dX6_ticksTo_77 rfl rfl (by decide) (by decide) (Nat.le_of_ble_eq_true rfl) ET.fa ET.fb ET.fc ?_
          rw [hpt]
          have e3' : s_ticks (k + 1) m 3 = m 3 := (ticks_E hV (k + 1) (by omega)).2.2.1 3 (by omega)
          refine x_istore B dX6_ticksTo_80 (by decide) ?_
          refine x_aload_n B dX6_ticksTo_82 rfl ?_
          refine x_getI B fgX6_152 dX6_ticksTo_83 (fun H h => PS.gb5 (by omega) H h.2) (fun r83 => ?_)
          refine x_bipush B dX6_ticksTo_86 (by decide) ?_
          refine x_icmp_ne (tgt := 93) B dX6_ticksTo_88 (by decide) (by omega) (by omega) (fun c88 => ?_) (fun c88 => ?_)
          · refine x_iload B dX6_ticksTo_93 rfl ?_
            refine x_ifz_ne (tgt := 101) B dX6_ticksTo_95 (by decide) (fun c95 => ?_) (fun c95 => ?_)
            · refine x_iinc B dX6_ticksTo_101 rfl (by decide) ?_
              refine x_goto (tgt := 59) B dX6_ticksTo_104 (by decide) ?_
              exact ih (k + 1) _ β od oc q F T pc0 rs pl at_ vs S od2 oc2 hw hx (by omega) (by rw [hs, s_to_step h6]) (by assumption) ho hl (xl_cons rfl (xl_cons rfl (xl_cons rfl (xl_cons rfl xl_nil))))
            · refine x_bipush B dX6_ticksTo_98 (by decide) ?_
              refine x_weak (fun H h => h.1) ?_
              exact x_retE B R dX6_ticksTo_100 (by rw [hO, if_neg (by omega), hstuck (by assumption)]) (by decide) rfl rfl hw
          · refine x_iload_n B dX6_ticksTo_91 rfl ?_
            have hv : s_to m x 2000 0 = ((k + 1 : Nat) : Int) := by
              rw [hs, s_to_step h6]
              exact s_to_hit (by assumption)
            refine x_weak (fun H h => h.1) ?_
            exact x_retE B R dX6_ticksTo_92 (by rw [hO, if_neg (by omega), hv]; rfl) (by omega) rfl rfl hw
  refine x_PE (fun β od oc q F T pc0 rs pl at_ vs S hw hm => ?_)
  refine x_aload_n B dX6_ticksTo_0 rfl ?_
  refine x_iload_n B dX6_ticksTo_1 rfl ?_
  refine x_mZ B mvX6_135 (fun l => c_X6_isBatch (by omega) (by omega)) dX6_ticksTo_2 rfl rfl (by decide) (by decide) (Nat.le_of_ble_eq_true rfl) EX.rv ?_
  refine x_ifz_ne (tgt := 10) B dX6_ticksTo_5 (by decide) (fun c5 => ?_) (fun c5 => ?_)
  · refine x_aload_n B dX6_ticksTo_10 rfl ?_
    refine x_get B fgX6_28 dX6_ticksTo_11 (fun _ h => ⟨_, EX.o h, rfl⟩) ?_
    refine x_get B fgX6_148 dX6_ticksTo_14 (EX.lf (fun _ h => ⟨_, PS.o h, rfl⟩)) ?_
    refine x_iload_n B dX6_ticksTo_17 rfl ?_
    refine x_aald (j := 4) B dX6_ticksTo_18 rfl (by omega) (by decide) (EX.lf (PS.ab (by omega))) ?_
    refine x_getI B fgX6_152 dX6_ticksTo_19 (EX.lf (PS.gb5 (by omega))) (fun r19 => ?_)
    refine x_bipush B dX6_ticksTo_22 (by decide) ?_
    refine x_icmp_ne (tgt := 29) B dX6_ticksTo_24 (by decide) (by omega) (by omega) (fun c24 => ?_) (fun c24 => ?_)
    · refine x_aload_n B dX6_ticksTo_29 rfl ?_
      refine x_get B fgX6_32 dX6_ticksTo_30 (fun _ h => ⟨_, EX.o h, rfl⟩) ?_
      refine x_aload_n B dX6_ticksTo_33 rfl ?_
      refine x_get B fgX6_28 dX6_ticksTo_34 (fun _ h => ⟨_, EX.o h, rfl⟩) ?_
      refine x_fN B mvX6_237 (fun l => (c_X3_copyFrom (by omega) (by omega) hb) ) dX6_ticksTo_37 rfl rfl (by decide) (by decide) (Nat.le_of_ble_eq_true rfl) ET.fa (fun H h => ⟨⟨h.2.2.2.1, h.2.1⟩, h.2.2.2.1.o⟩) ET.fk ?_
      refine x_ex (fun H h => h) (fun i => ?_)
      obtain ⟨od2, oc2⟩ := i
      simp only
      refine x_aload_n B dX6_ticksTo_40 rfl ?_
      refine x_get B fgX6_32 dX6_ticksTo_41 (fun H h => ⟨_, h.1.1, rfl⟩) ?_
      refine x_fN B mvX6_221 (fun l => c_X3_arrange (by omega)) dX6_ticksTo_44 rfl rfl (by decide) (by decide) (Nat.le_of_ble_eq_true rfl) ET.fa ET.fb ET.fc ?_
      refine x_aload_n B dX6_ticksTo_47 rfl ?_
      refine x_get B fgX6_32 dX6_ticksTo_48 (fun H h => ⟨_, h.1.1, rfl⟩) ?_
      refine x_get B fgX6_148 dX6_ticksTo_51 (fun H h => ⟨_, PS.o h.2, rfl⟩) ?_
      refine x_iload_n B dX6_ticksTo_54 rfl ?_
      refine x_aald (j := 4) B dX6_ticksTo_55 rfl (by omega) (by decide) (fun H h => PS.ab (by omega) H h.2) ?_
      refine x_astore_n B dX6_ticksTo_56 (by decide) ?_
      refine x_iconst B dX6_ticksTo_57 ?_
      refine x_istore_n B dX6_ticksTo_58 (by decide) ?_
      exact loop 2000 0 _ β od oc q F T pc0 rs pl at_ vs S _ _ hw (by omega) (by omega) rfl (by assumption) (by rw [sort_rep.1]) sort_rep.2 (xl_cons rfl (xl_cons rfl (xl_cons rfl (xl_cons rfl xl_nil))))
    · refine x_iconst B dX6_ticksTo_27 ?_
      exact x_retE B R dX6_ticksTo_28 (by rw [hO, if_neg (by omega), s_to_hit (m := m) (b := x) (n := 0) (show m (548 + 10 * x + 5) = 6 by omega)]; rfl) (by decide) rfl rfl hw
  · refine x_iconst B dX6_ticksTo_8 ?_
    exact x_retE B R dX6_ticksTo_9 (by rw [hO, if_pos (by omega)]) (by decide) rfl rfl hw
end OPC6

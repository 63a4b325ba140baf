/-! ===== the class's State, walked: what looks, what releases ===== -/
theorem nestX3_195 : ∀ s, xN s → va_Nw (.methodLinkNest RX3 195 yX6_isPiece RX6) s := fun _ h => h.1.2.2.2.2.2.2
section XR11a
variable {Γ : xE} {G : xG} {cc : ByteArray} {own : String} {nL : Nat} {rm : Room} {A : Nat → Prop} {kc ks pc : Nat} {P : Heap → Prop} {L : List (Nat × Value)} {st st0 : List Value}
variable {idx : Nat} {y : MethodName} {bytes : ByteArray} {nL' : Nat} {ret : Option FieldType} {n : Nat} {rm' : Room} {As : List Value} {P' : Heap → Prop}
theorem x_snZ (B : XB Γ G cc own nL rm A) {c : Prop} [Decidable c] {host : String} (lk : LkSN y bytes nL' ret n) (hnest : ∀ s, xN s → va_Nw (.methodLinkNest own idx y host) s) (hM : ∀ l, CT G l y bytes nL' ret rm' 0 0 As P (pZ c P') A)
    (d : decode cc pc = .ok (.invokestatic idx, 3)) (hst : st0 = As.reverse ++ st) (hn : As.length = n) (hR : rm'.cells = 0 ∧ rm'.slots = 0 ∧ rm'.frames + 1 ≤ rm.frames ∧ 8 + (nL' + 11) + rm'.locals ≤ rm.locals)
    (hf : kc ≤ rm.cells ∧ ks ≤ rm.slots) (hw : (st.map fun v => v.category).sum ≤ 8)
    (kk : XJ Γ kc ks P' (pc + 3) L (vi (bz c) :: st)) : XJ Γ kc ks P pc L st0 :=
  x_callSNg B lk hnest hM d hst hn hR hf hw (fun _ h => h) (fun H h => h) (ι := Unit) (v := fun _ => some (vi (bz c))) (P' := fun _ => P') (fun v' H H1 _ h _ _ => ⟨(), h.1, h.2⟩) (fun _ => kk)
end XR11a
theorem c_X6_isWithin {G : xG} {l : Launch} {P : Heap → Prop} {A : Nat → Prop} {v x y : Int} (h1 : -2147483648 ≤ v ∧ v < 2147483648) (h2 : -2147483648 ≤ x ∧ x < 2147483648) (h3 : -2147483648 ≤ y ∧ y < 2147483648) : CT G l yX6_isWithin cX6_isWithin 3 (some .boolean) ({ frames := 0, cells := 0, slots := 0, locals := 0 } : Room) 0 0 [vi v, vi x, vi y] P (pZ (x ≤ v ∧ v ≤ y) P) A := by
  refine x_met1 (own := RX6) (nm := "isWithin") (L := [(0, vi v), (1, vi x), (2, vi y)]) (by decide) rfl rfl (fun _ => rfl) (Nat.le_of_ble_eq_true rfl) rfl rfl ?_
  intro Γ B R
  refine x_iload_n B dX6_isWithin_0 rfl ?_
  refine x_iload_n B dX6_isWithin_1 rfl ?_
  refine x_icmp_lt (tgt := 14) B dX6_isWithin_2 (by decide) (by omega) (by omega) (fun c2 => ?_) (fun c2 => ?_)
  · refine x_iconst B dX6_isWithin_14 ?_
    exact x_retZ B R dX6_isWithin_15 ((bz_f (by omega)).symm) (fun H h => by exact h)
  · refine x_iload_n B dX6_isWithin_5 rfl ?_
    refine x_iload_n B dX6_isWithin_6 rfl ?_
    refine x_icmp_gt (tgt := 14) B dX6_isWithin_7 (by decide) (by omega) (by omega) (fun c7 => ?_) (fun c7 => ?_)
    · refine x_iconst B dX6_isWithin_14 ?_
      exact x_retZ B R dX6_isWithin_15 ((bz_f (by omega)).symm) (fun H h => by exact h)
    · refine x_iconst B dX6_isWithin_10 ?_
      refine x_goto (tgt := 15) B dX6_isWithin_11 (by decide) ?_
      exact x_retZ B R dX6_isWithin_15 ((bz_t (by omega)).symm) (fun H h => by exact h)
theorem c_X6_isPiece {G : xG} {l : Launch} {P : Heap → Prop} {A : Nat → Prop} {v : Int} (h1 : -2147483648 ≤ v ∧ v < 2147483648) : CT G l yX6_isPiece cX6_isPiece 1 (some .boolean) ({ frames := 1, cells := 0, slots := 0, locals := 22 } : Room) 0 0 [vi v] P (pZ (0 ≤ v ∧ v ≤ 2) P) A := by
  refine x_met1 (own := RX6) (nm := "isPiece") (L := [(0, vi v)]) (by decide) rfl rfl (fun _ => rfl) (Nat.le_of_ble_eq_true rfl) rfl rfl ?_
  intro Γ B R
  refine x_iload_n B dX6_isPiece_0 rfl ?_
  refine x_iconst B dX6_isPiece_1 ?_
  refine x_iconst B dX6_isPiece_2 ?_
  refine x_sZ B msX6_39 (fun l => c_X6_isWithin (by omega) (by omega) (by omega)) dX6_isPiece_3 rfl rfl (by decide) (by decide) (Nat.le_of_ble_eq_true rfl) ?_
  exact x_retZ B R dX6_isPiece_6 (by rfl) (fun H h => by exact h)
theorem c_X3_hasUnit {G : xG} {l : Launch} {a κ : Nat} {β : Nat → Int → Int} {m od : Int → Int} {oc x : Int} (h1 : -2147483648 ≤ x ∧ x < 2147483648) : CT G l yX3_hasUnit cX3_hasUnit 2 (some .boolean) ({ frames := 0, cells := 0, slots := 0, locals := 0 } : Room) 0 0 [.ref a, vi x] (PS G a κ β m od oc) (pZ (0 ≤ x ∧ x < m 2) (PS G a κ β m od oc)) (AS a) := by
  refine x_met1 (own := RX3) (nm := "hasUnit") (L := [(0, .ref a), (1, vi x)]) (by decide) rfl rfl (fun _ => rfl) (Nat.le_of_ble_eq_true rfl) rfl rfl ?_
  intro Γ B R
  refine x_iload_n B dX3_hasUnit_0 rfl ?_
  refine x_if_lt (tgt := 16) B dX3_hasUnit_1 (by decide) (by omega) (fun c1 => ?_) (fun c1 => ?_)
  · refine x_iconst B dX3_hasUnit_16 ?_
    exact x_retZ B R dX3_hasUnit_17 ((bz_f (by omega)).symm) (fun H h => by exact h)
  · refine x_iload_n B dX3_hasUnit_4 rfl ?_
    refine x_aload_n B dX3_hasUnit_5 rfl ?_
    refine x_getI B fgX3_50 dX3_hasUnit_6 PS.g7 (fun r6 => ?_)
    refine x_icmp_ge (tgt := 16) B dX3_hasUnit_9 (by decide) (by omega) (by omega) (fun c9 => ?_) (fun c9 => ?_)
    · refine x_iconst B dX3_hasUnit_16 ?_
      exact x_retZ B R dX3_hasUnit_17 ((bz_f (by omega)).symm) (fun H h => by exact h)
    · refine x_iconst B dX3_hasUnit_12 ?_
      refine x_goto (tgt := 17) B dX3_hasUnit_13 (by decide) ?_
      exact x_retZ B R dX3_hasUnit_17 ((bz_t (by omega)).symm) (fun H h => by exact h)
theorem c_X3_hasBatch {G : xG} {l : Launch} {a κ : Nat} {β : Nat → Int → Int} {m od : Int → Int} {oc x : Int} (h1 : -2147483648 ≤ x ∧ x < 2147483648) : CT G l yX3_hasBatch cX3_hasBatch 2 (some .boolean) ({ frames := 0, cells := 0, slots := 0, locals := 0 } : Room) 0 0 [.ref a, vi x] (PS G a κ β m od oc) (pZ (0 ≤ x ∧ x < m 3) (PS G a κ β m od oc)) (AS a) := by
  refine x_met1 (own := RX3) (nm := "hasBatch") (L := [(0, .ref a), (1, vi x)]) (by decide) rfl rfl (fun _ => rfl) (Nat.le_of_ble_eq_true rfl) rfl rfl ?_
  intro Γ B R
  refine x_iload_n B dX3_hasBatch_0 rfl ?_
  refine x_if_lt (tgt := 16) B dX3_hasBatch_1 (by decide) (by omega) (fun c1 => ?_) (fun c1 => ?_)
  · refine x_iconst B dX3_hasBatch_16 ?_
    exact x_retZ B R dX3_hasBatch_17 ((bz_f (by omega)).symm) (fun H h => by exact h)
  · refine x_iload_n B dX3_hasBatch_4 rfl ?_
    refine x_aload_n B dX3_hasBatch_5 rfl ?_
    refine x_getI B fgX3_57 dX3_hasBatch_6 PS.g8 (fun r6 => ?_)
    refine x_icmp_ge (tgt := 16) B dX3_hasBatch_9 (by decide) (by omega) (by omega) (fun c9 => ?_) (fun c9 => ?_)
    · refine x_iconst B dX3_hasBatch_16 ?_
      exact x_retZ B R dX3_hasBatch_17 ((bz_f (by omega)).symm) (fun H h => by exact h)
    · refine x_iconst B dX3_hasBatch_12 ?_
      refine x_goto (tgt := 17) B dX3_hasBatch_13 (by decide) ?_
      exact x_retZ B R dX3_hasBatch_17 ((bz_t (by omega)).symm) (fun H h => by exact h)
section XR10
variable {Γ : xE} {G : xG} {cc : ByteArray} {own : String} {nL : Nat} {rm : Room} {kc ks pc a κ : Nat} {β : Nat → Int → Int} {m od : Int → Int} {oc : Int} {L : List (Nat × Value)} {st : List Value}
theorem x_jadd (B : XB Γ G cc own nL rm (AS a)) {idx : Nat} {b w : Int} (lk : LkV own idx yX2_add cX2_add 4 none 2 3) (d : decode cc pc = .ok (.invokevirtual idx, 3)) (hb : -2147483648 ≤ b ∧ b < 2147483648) (hw : -2147483648 ≤ w ∧ w < 2147483648)
    (hR : (({ frames := 0, cells := 0, slots := 0, locals := 0 } : Room)).cells = 0 ∧ (({ frames := 0, cells := 0, slots := 0, locals := 0 } : Room)).slots = 0 ∧ (({ frames := 0, cells := 0, slots := 0, locals := 0 } : Room)).frames + 1 ≤ rm.frames ∧ 8 + (4 + 11) + (({ frames := 0, cells := 0, slots := 0, locals := 0 } : Room)).locals ≤ rm.locals) (hc : (st.map fun v => v.category).sum ≤ 8)
    (kk : XJ Γ 0 0 (PS G a κ β (s_note m b w) od oc) (pc + 3) L st) : XJ Γ 0 0 (PS G a κ β m od oc) pc L (vi w :: vi b :: vi (m 1) :: .ref (a + 5) :: st) := by
  refine x_fact (fun H h => PS.mok h) (fun hm => ?_)
  unfold mOK at hm
  refine x_ex (ι := Int × (Int → Int) × (Int → Int) × (Int → Int)) (P' := fun i H => PS G a κ β m od oc H ∧ JR G (a + 5) i.1 (m 4) i.2.1 i.2.2.1 i.2.2.2 H ∧ jOK m i.1 i.2.1 i.2.2.1 i.2.2.2) (fun H h => by
    obtain ⟨nx, j0, j1, j2, h1, h2⟩ := h.1.1.2.2.2.2.2.1
    exact ⟨(nx, j0, j1, j2), h, h1, h2⟩) (fun i => ?_)
  obtain ⟨nx, j0, j1, j2⟩ := i
  refine x_callVg (ι := Unit) (v := fun _ => none) (P' := fun _ => PS G a κ β (s_note m b w) od oc) B lk (fun l => c_X2_add (j := a + 5) (nx := nx) (ln := m 4) (j0 := j0) (j1 := j1) (j2 := j2) (t := m 1) (b := b) (w := w) (hm.2.2.2 1) hb hw) d rfl rfl hR (by simp) hc (fun q hq => by unfold AS; omega) (fun H h => ⟨h.2.1, _, h.2.1.1⟩) (fun v' H H1 hp hpost hsz hq => ⟨(), hpost.1, ?_⟩) (fun _ => kk)
  have hs := hp.1.size
  exact hp.1.note hp.2.2 hp.2.1.rg.1 hb hw hpost.2 (fun q q0 q1 => hq q (by omega) q1)
end XR10
theorem c_X3_brokenUnits {G : xG} {l : Launch} {a κ : Nat} {β : Nat → Int → Int} {m od : Int → Int} {oc : Int} (h1 : 0 ≤ m 2 ∧ m 2 ≤ 8) (h2 : ∀ u, 0 ≤ u → u < m 2 → 0 ≤ m (5 + 6 * u + 3) ∧ m (5 + 6 * u + 3) ≤ 1) : CT G l yX3_brokenUnits cX3_brokenUnits 3 (some .int) ({ frames := 0, cells := 0, slots := 0, locals := 0 } : Room) 0 0 [.ref a] (PS G a κ β m od oc) (pI (sumU m 3 (m 2).toNat) (PS G a κ β m od oc)) (AS a) := by
  refine x_met1 (own := RX3) (nm := "brokenUnits") (L := [(0, .ref a)]) (by decide) rfl rfl (fun _ => rfl) (Nat.le_of_ble_eq_true rfl) rfl rfl ?_
  intro Γ B R
  have loop : ∀ (n : Nat) (i acc : Int), acc = sumU m 3 i.toNat → 0 ≤ i → i ≤ m 2 → m 2 - i < n → XJ Γ 0 0 (PS G a κ β m od oc) 4 [(0, .ref a), (1, vi acc), (2, vi i)] [] := by
    intro n
    induction n with
    | zero => intro i acc _ _ _ _; omega
    | succ n ih =>
      intro i acc ha hi0 hi1 hn
      have hs := sumU_3 h2 i.toNat (by omega)
      refine x_iload_n B dX3_brokenUnits_4 rfl ?_
      refine x_aload_n B dX3_brokenUnits_5 rfl ?_
      refine x_getI B fgX3_50 dX3_brokenUnits_6 PS.g7 (fun r6 => ?_)
      refine x_icmp_ge (tgt := 33) B dX3_brokenUnits_9 (by decide) (by omega) (by omega) (fun c9 => ?_) (fun c9 => ?_)
      · refine x_iload_n B dX3_brokenUnits_33 rfl ?_
        exact x_retI B R dX3_brokenUnits_34 (by rw [ha]; congr 2; omega) (by rw [show (m 2).toNat = i.toNat by omega]; omega) (fun H h => by exact h)
      · have hb := h2 i hi0 (by omega)
        refine x_aload_n B dX3_brokenUnits_12 rfl ?_
        refine x_get B fgX3_11 dX3_brokenUnits_13 (fun _ h => ⟨_, PS.o h, rfl⟩) ?_
        refine x_iload_n B dX3_brokenUnits_16 rfl ?_
        refine x_aald (j := 3) B dX3_brokenUnits_17 rfl (by omega) (by decide) (PS.au (by omega)) ?_
        refine x_getI B fgX3_79 dX3_brokenUnits_18 (PS.gu5 (by omega)) (fun r18 => ?_)
        refine x_if_eq (tgt := 27) B dX3_brokenUnits_21 (by decide) (by omega) (fun c21 => ?_) (fun c21 => ?_)
        · refine x_iinc B dX3_brokenUnits_27 rfl (by decide) ?_
          refine x_goto (tgt := 4) B dX3_brokenUnits_30 (by decide) ?_
          exact ih (i + 1) _ (by rw [sumU_s hi0]; omega) (by omega) (by omega) (by omega)
        · refine x_iinc B dX3_brokenUnits_24 rfl (by decide) ?_
          refine x_iinc B dX3_brokenUnits_27 rfl (by decide) ?_
          refine x_goto (tgt := 4) B dX3_brokenUnits_30 (by decide) ?_
          exact ih (i + 1) _ (by rw [sumU_s hi0]; omega) (by omega) (by omega) (by omega)
  refine x_iconst B dX3_brokenUnits_0 ?_
  refine x_istore_n B dX3_brokenUnits_1 (by decide) ?_
  refine x_iconst B dX3_brokenUnits_2 ?_
  refine x_istore_n B dX3_brokenUnits_3 (by decide) ?_
  exact loop 9 0 0 rfl (by omega) (by omega) (by omega)
theorem c_X3_freeUnits {G : xG} {l : Launch} {a κ : Nat} {β : Nat → Int → Int} {m od : Int → Int} {oc : Int} (h1 : 0 ≤ m 2 ∧ m 2 ≤ 8) (h2 : ∀ u, 0 ≤ u → u < m 2 → 0 ≤ m (5 + 6 * u + 4)) : CT G l yX3_freeUnits cX3_freeUnits 3 (some .int) ({ frames := 1, cells := 0, slots := 0, locals := 21 } : Room) 0 0 [.ref a] (PS G a κ β m od oc) (pI (cntP (fun u => m (5 + 6 * u + 2) = -1 ∧ m (5 + 6 * u + 3) = 0 ∧ m (5 + 6 * u + 4) = 0) (m 2).toNat) (PS G a κ β m od oc)) (AS a) := by
  refine x_met1 (own := RX3) (nm := "freeUnits") (L := [(0, .ref a)]) (by decide) rfl rfl (fun _ => rfl) (Nat.le_of_ble_eq_true rfl) rfl rfl ?_
  intro Γ B R
  refine x_fact (fun H h => (PS.mok h).2.2.2) (fun hm => ?_)
  have loop : ∀ (n : Nat) (i acc : Int), acc = cntP (fun u => m (5 + 6 * u + 2) = -1 ∧ m (5 + 6 * u + 3) = 0 ∧ m (5 + 6 * u + 4) = 0) i.toNat → 0 ≤ i → i ≤ m 2 → m 2 - i < n → XJ Γ 0 0 (PS G a κ β m od oc) 4 [(0, .ref a), (1, vi acc), (2, vi i)] [] := by
    intro n
    induction n with
    | zero => intro i acc _ _ _ _; omega
    | succ n ih =>
      intro i acc ha hi0 hi1 hn
      have hb := cntP_rg (fun u => m (5 + 6 * u + 2) = -1 ∧ m (5 + 6 * u + 3) = 0 ∧ m (5 + 6 * u + 4) = 0) i.toNat
      refine x_iload_n B dX3_freeUnits_4 rfl ?_
      refine x_aload_n B dX3_freeUnits_5 rfl ?_
      refine x_getI B fgX3_50 dX3_freeUnits_6 PS.g7 (fun r6 => ?_)
      refine x_icmp_ge (tgt := 34) B dX3_freeUnits_9 (by decide) (by omega) (by omega) (fun c9 => ?_) (fun c9 => ?_)
      · refine x_iload_n B dX3_freeUnits_34 rfl ?_
        exact x_retI B R dX3_freeUnits_35 (by rw [ha]; congr 2; omega) (by rw [show (m 2).toNat = i.toNat by omega]; omega) (fun H h => by exact h)
      · have hc4 := h2 i hi0 (by omega)
        refine x_aload_n B dX3_freeUnits_12 rfl ?_
        refine x_get B fgX3_11 dX3_freeUnits_13 (fun _ h => ⟨_, PS.o h, rfl⟩) ?_
        refine x_iload_n B dX3_freeUnits_16 rfl ?_
        refine x_aald (j := 3) B dX3_freeUnits_17 rfl (by omega) (by decide) (PS.au (by omega)) ?_
        refine x_iconst B dX3_freeUnits_18 ?_
        refine x_mZ B mvX3_98 (fun l => c_X5_isFreeAfter (PS.ou (by omega)) hm (by omega)) dX3_freeUnits_19 rfl rfl (by decide) (by decide) (Nat.le_of_ble_eq_true rfl) (PS.rvU (by omega)) ?_
        refine x_ifz_eq (tgt := 28) B dX3_freeUnits_22 (by decide) (fun c22 => ?_) (fun c22 => ?_)
        · refine x_iinc B dX3_freeUnits_28 rfl (by decide) ?_
          refine x_goto (tgt := 4) B dX3_freeUnits_31 (by decide) ?_
          exact ih (i + 1) _ (by rw [cntP_s hi0, ha]; first | rw [if_pos (by omega)] | rw [if_neg (by omega), Int.add_zero]) (by omega) (by omega) (by omega)
        · refine x_iinc B dX3_freeUnits_25 rfl (by decide) ?_
          refine x_iinc B dX3_freeUnits_28 rfl (by decide) ?_
          refine x_goto (tgt := 4) B dX3_freeUnits_31 (by decide) ?_
          exact ih (i + 1) _ (by rw [cntP_s hi0, ha]; first | rw [if_pos (by omega)] | rw [if_neg (by omega), Int.add_zero]) (by omega) (by omega) (by omega)
  refine x_iconst B dX3_freeUnits_0 ?_
  refine x_istore_n B dX3_freeUnits_1 (by decide) ?_
  refine x_iconst B dX3_freeUnits_2 ?_
  refine x_istore_n B dX3_freeUnits_3 (by decide) ?_
  exact loop 9 0 0 rfl (by omega) (by omega) (by omega)
theorem c_X3_workedTicks {G : xG} {l : Launch} {a κ : Nat} {β : Nat → Int → Int} {m od : Int → Int} {oc : Int} (h1 : 0 ≤ m 2 ∧ m 2 ≤ 8) (h2 : -2147483648 ≤ sumU m 5 (m 2).toNat ∧ sumU m 5 (m 2).toNat < 2147483648) : CT G l yX3_workedTicks cX3_workedTicks 3 (some .int) ({ frames := 0, cells := 0, slots := 0, locals := 0 } : Room) 0 0 [.ref a] (PS G a κ β m od oc) (pI (sumU m 5 (m 2).toNat) (PS G a κ β m od oc)) (AS a) := by
  refine x_met1 (own := RX3) (nm := "workedTicks") (L := [(0, .ref a)]) (by decide) rfl rfl (fun _ => rfl) (Nat.le_of_ble_eq_true rfl) rfl rfl ?_
  intro Γ B R
  have loop : ∀ (n : Nat) (i acc : Int), acc = sumU m 5 i.toNat → 0 ≤ i → i ≤ m 2 → m 2 - i < n → XJ Γ 0 0 (PS G a κ β m od oc) 4 [(0, .ref a), (1, vi acc), (2, vi i)] [] := by
    intro n
    induction n with
    | zero => intro i acc _ _ _ _; omega
    | succ n ih =>
      intro i acc ha hi0 hi1 hn
      refine x_iload_n B dX3_workedTicks_4 rfl ?_
      refine x_aload_n B dX3_workedTicks_5 rfl ?_
      refine x_getI B fgX3_50 dX3_workedTicks_6 PS.g7 (fun r6 => ?_)
      refine x_icmp_ge (tgt := 30) B dX3_workedTicks_9 (by decide) (by omega) (by omega) (fun c9 => ?_) (fun c9 => ?_)
      · refine x_iload_n B dX3_workedTicks_30 rfl ?_
        exact x_retI B R dX3_workedTicks_31 (by rw [ha]; congr 2; omega) (by omega) (fun H h => by exact h)
      · refine x_iload_n B dX3_workedTicks_12 rfl ?_
        refine x_aload_n B dX3_workedTicks_13 rfl ?_
        refine x_get B fgX3_11 dX3_workedTicks_14 (fun _ h => ⟨_, PS.o h, rfl⟩) ?_
        refine x_iload_n B dX3_workedTicks_17 rfl ?_
        refine x_aald (j := 3) B dX3_workedTicks_18 rfl (by omega) (by decide) (PS.au (by omega)) ?_
        refine x_getI B fgX3_101 dX3_workedTicks_19 (PS.gu4 (by omega)) (fun r19 => ?_)
        refine x_iadd B dX3_workedTicks_22 ?_
        refine x_istore_n B dX3_workedTicks_23 (by decide) ?_
        refine x_iinc B dX3_workedTicks_24 rfl (by decide) ?_
        refine x_goto (tgt := 4) B dX3_workedTicks_27 (by decide) ?_
        exact ih (i + 1) _ (by rw [sumU_s hi0, ha]) (by omega) (by omega) (by omega)
  refine x_iconst B dX3_workedTicks_0 ?_
  refine x_istore_n B dX3_workedTicks_1 (by decide) ?_
  refine x_iconst B dX3_workedTicks_2 ?_
  refine x_istore_n B dX3_workedTicks_3 (by decide) ?_
  exact loop 9 0 0 rfl (by omega) (by omega) (by omega)
theorem c_X3_freePieces {G : xG} {l : Launch} {a κ : Nat} {β : Nat → Int → Int} {m od : Int → Int} {oc : Int} : CT G l yX3_freePieces cX3_freePieces 3 (some .int) ({ frames := 0, cells := 0, slots := 0, locals := 0 } : Room) 0 0 [.ref a] (PS G a κ β m od oc) (pI (cntP (fun k => m (53 + k) = -1) 3) (PS G a κ β m od oc)) (AS a) := by
  refine x_met1 (own := RX3) (nm := "freePieces") (L := [(0, .ref a)]) (by decide) rfl rfl (fun _ => rfl) (Nat.le_of_ble_eq_true rfl) rfl rfl ?_
  intro Γ B R
  have loop : ∀ (n : Nat) (i acc : Int), acc = cntP (fun k => m (53 + k) = -1) i.toNat → 0 ≤ i → i ≤ 3 → 3 - i < n → XJ Γ 0 0 (PS G a κ β m od oc) 4 [(0, .ref a), (1, vi acc), (2, vi i)] [] := by
    intro n
    induction n with
    | zero => intro i acc _ _ _ _; omega
    | succ n ih =>
      intro i acc ha hi0 hi1 hn
      have hb := cntP_rg (fun k => m (53 + k) = -1) i.toNat
      refine x_iload_n B dX3_freePieces_4 rfl ?_
      refine x_iconst B dX3_freePieces_5 ?_
      refine x_icmp_ge (tgt := 28) B dX3_freePieces_6 (by decide) (by omega) (by omega) (fun c6 => ?_) (fun c6 => ?_)
      · refine x_iload_n B dX3_freePieces_28 rfl ?_
        exact x_retI B R dX3_freePieces_29 (by rw [ha]; congr 1; omega) (by rw [show (3 : Nat) = i.toNat by omega]; omega) (fun H h => by exact h)
      · refine x_aload_n B dX3_freePieces_9 rfl ?_
        refine x_get B fgX3_23 dX3_freePieces_10 (fun _ h => ⟨_, PS.o h, rfl⟩) ?_
        refine x_iload_n B dX3_freePieces_13 rfl ?_
        refine x_ialdR B dX3_freePieces_14 (by omega) (by decide) PS.ah (fun r14 => ?_)
        refine x_iconst B dX3_freePieces_15 ?_
        refine x_icmp_ne (tgt := 22) B dX3_freePieces_16 (by decide) (by omega) (by omega) (fun c16 => ?_) (fun c16 => ?_)
        · refine x_iinc B dX3_freePieces_22 rfl (by decide) ?_
          refine x_goto (tgt := 4) B dX3_freePieces_25 (by decide) ?_
          exact ih (i + 1) _ (by rw [cntP_s hi0, ha]; first | rw [if_pos (by omega)] | rw [if_neg (by omega), Int.add_zero]) (by omega) (by omega) (by omega)
        · refine x_iinc B dX3_freePieces_19 rfl (by decide) ?_
          refine x_iinc B dX3_freePieces_22 rfl (by decide) ?_
          refine x_goto (tgt := 4) B dX3_freePieces_25 (by decide) ?_
          exact ih (i + 1) _ (by rw [cntP_s hi0, ha]; first | rw [if_pos (by omega)] | rw [if_neg (by omega), Int.add_zero]) (by omega) (by omega) (by omega)
  refine x_iconst B dX3_freePieces_0 ?_
  refine x_istore_n B dX3_freePieces_1 (by decide) ?_
  refine x_iconst B dX3_freePieces_2 ?_
  refine x_istore_n B dX3_freePieces_3 (by decide) ?_
  exact loop 4 0 0 rfl (by omega) (by omega) (by omega)
theorem c_X3_batchesIn {G : xG} {l : Launch} {a κ : Nat} {β : Nat → Int → Int} {m od : Int → Int} {oc x : Int} (h1 : 0 ≤ m 3 ∧ m 3 ≤ 12) (h2 : -2147483648 ≤ x ∧ x < 2147483648) : CT G l yX3_batchesIn cX3_batchesIn 4 (some .int) ({ frames := 0, cells := 0, slots := 0, locals := 0 } : Room) 0 0 [.ref a, vi x] (PS G a κ β m od oc) (pI (cntB m x (m 3).toNat) (PS G a κ β m od oc)) (AS a) := by
  refine x_met1 (own := RX3) (nm := "batchesIn") (L := [(0, .ref a), (1, vi x)]) (by decide) rfl rfl (fun _ => rfl) (Nat.le_of_ble_eq_true rfl) rfl rfl ?_
  intro Γ B R
  have loop : ∀ (n : Nat) (i acc : Int), acc = cntB m x i.toNat → 0 ≤ i → i ≤ m 3 → m 3 - i < n → XJ Γ 0 0 (PS G a κ β m od oc) 4 [(0, .ref a), (1, vi x), (2, vi acc), (3, vi i)] [] := by
    intro n
    induction n with
    | zero => intro i acc _ _ _ _; omega
    | succ n ih =>
      intro i acc ha hi0 hi1 hn
      have hb := cntB_rg m x i.toNat
      refine x_iload_n B dX3_batchesIn_4 rfl ?_
      refine x_aload_n B dX3_batchesIn_5 rfl ?_
      refine x_getI B fgX3_57 dX3_batchesIn_6 PS.g8 (fun r6 => ?_)
      refine x_icmp_ge (tgt := 34) B dX3_batchesIn_9 (by decide) (by omega) (by omega) (fun c9 => ?_) (fun c9 => ?_)
      · refine x_iload_n B dX3_batchesIn_34 rfl ?_
        exact x_retI B R dX3_batchesIn_35 (by rw [ha]; congr 2; omega) (by rw [show (m 3).toNat = i.toNat by omega]; omega) (fun H h => by exact h)
      · refine x_aload_n B dX3_batchesIn_12 rfl ?_
        refine x_get B fgX3_19 dX3_batchesIn_13 (fun _ h => ⟨_, PS.o h, rfl⟩) ?_
        refine x_iload_n B dX3_batchesIn_16 rfl ?_
        refine x_aald (j := 4) B dX3_batchesIn_17 rfl (by omega) (by decide) (PS.ab (by omega)) ?_
        refine x_getI B fgX3_127 dX3_batchesIn_18 (PS.gb5 (by omega)) (fun r18 => ?_)
        refine x_iload_n B dX3_batchesIn_21 rfl ?_
        refine x_icmp_ne (tgt := 28) B dX3_batchesIn_22 (by decide) (by omega) (by omega) (fun c22 => ?_) (fun c22 => ?_)
        · refine x_iinc B dX3_batchesIn_28 rfl (by decide) ?_
          refine x_goto (tgt := 4) B dX3_batchesIn_31 (by decide) ?_
          exact ih (i + 1) _ (by rw [cntB_s hi0, ha]; first | rw [if_pos (by omega)] | rw [if_neg (by omega), Int.add_zero]) (by omega) (by omega) (by omega)
        · refine x_iinc B dX3_batchesIn_25 rfl (by decide) ?_
          refine x_iinc B dX3_batchesIn_28 rfl (by decide) ?_
          refine x_goto (tgt := 4) B dX3_batchesIn_31 (by decide) ?_
          exact ih (i + 1) _ (by rw [cntB_s hi0, ha]; first | rw [if_pos (by omega)] | rw [if_neg (by omega), Int.add_zero]) (by omega) (by omega) (by omega)
  refine x_iconst B dX3_batchesIn_0 ?_
  refine x_istore_n B dX3_batchesIn_1 (by decide) ?_
  refine x_iconst B dX3_batchesIn_2 ?_
  refine x_istore_n B dX3_batchesIn_3 (by decide) ?_
  exact loop 13 0 0 rfl (by omega) (by omega) (by omega)
theorem c_X3_isGivenUp {G : xG} {l : Launch} {a κ : Nat} {β : Nat → Int → Int} {m od : Int → Int} {oc x : Int} (h1 : 0 ≤ m 3 ∧ m 3 ≤ 12) (h2 : -1 ≤ x ∧ x < m 3) : CT G l yX3_isGivenUp cX3_isGivenUp 2 (some .boolean) ({ frames := 1, cells := 0, slots := 0, locals := 21 } : Room) 0 0 [.ref a, vi x] (PS G a κ β m od oc) (pZ (x ≠ -1 ∧ (m (548 + 10 * x + 5) = 4 ∨ m (548 + 10 * x + 5) = 5)) (PS G a κ β m od oc)) (AS a) := by
  refine x_met1 (own := RX3) (nm := "isGivenUp") (L := [(0, .ref a), (1, vi x)]) (by decide) rfl rfl (fun _ => rfl) (Nat.le_of_ble_eq_true rfl) rfl rfl ?_
  intro Γ B R
  refine x_aload_n B dX3_isGivenUp_0 rfl ?_
  refine x_iload_n B dX3_isGivenUp_1 rfl ?_
  refine x_mZ B mvX3_86 (fun l => c_X3_hasBatch (by omega)) dX3_isGivenUp_2 rfl rfl (by decide) (by decide) (Nat.le_of_ble_eq_true rfl) PS.rv ?_
  refine x_ifz_ne (tgt := 10) B dX3_isGivenUp_5 (by decide) (fun c5 => ?_) (fun c5 => ?_)
  · refine x_aload_n B dX3_isGivenUp_10 rfl ?_
    refine x_get B fgX3_19 dX3_isGivenUp_11 (fun _ h => ⟨_, PS.o h, rfl⟩) ?_
    refine x_iload_n B dX3_isGivenUp_14 rfl ?_
    refine x_aald (j := 4) B dX3_isGivenUp_15 rfl (by omega) (by decide) (PS.ab (by omega)) ?_
    refine x_getI B fgX3_127 dX3_isGivenUp_16 (PS.gb5 (by omega)) (fun r16 => ?_)
    refine x_iconst B dX3_isGivenUp_19 ?_
    refine x_icmp_eq (tgt := 36) B dX3_isGivenUp_20 (by decide) (by omega) (by omega) (fun c20 => ?_) (fun c20 => ?_)
    · refine x_iconst B dX3_isGivenUp_36 ?_
      refine x_goto (tgt := 41) B dX3_isGivenUp_37 (by decide) ?_
      exact x_retZ B R dX3_isGivenUp_41 ((bz_t (by omega)).symm) (fun H h => by exact h)
    · refine x_aload_n B dX3_isGivenUp_23 rfl ?_
      refine x_get B fgX3_19 dX3_isGivenUp_24 (fun _ h => ⟨_, PS.o h, rfl⟩) ?_
      refine x_iload_n B dX3_isGivenUp_27 rfl ?_
      refine x_aald (j := 4) B dX3_isGivenUp_28 rfl (by omega) (by decide) (PS.ab (by omega)) ?_
      refine x_getI B fgX3_127 dX3_isGivenUp_29 (PS.gb5 (by omega)) (fun r29 => ?_)
      refine x_iconst B dX3_isGivenUp_32 ?_
      refine x_icmp_ne (tgt := 40) B dX3_isGivenUp_33 (by decide) (by omega) (by omega) (fun c33 => ?_) (fun c33 => ?_)
      · refine x_iconst B dX3_isGivenUp_40 ?_
        exact x_retZ B R dX3_isGivenUp_41 ((bz_f (by omega)).symm) (fun H h => by exact h)
      · refine x_iconst B dX3_isGivenUp_36 ?_
        refine x_goto (tgt := 41) B dX3_isGivenUp_37 (by decide) ?_
        exact x_retZ B R dX3_isGivenUp_41 ((bz_t (by omega)).symm) (fun H h => by exact h)
  · refine x_iconst B dX3_isGivenUp_8 ?_
    exact x_retZ B R dX3_isGivenUp_9 ((bz_f (by omega)).symm) (fun H h => by exact h)
theorem c_X3_hasBrokenUnit {G : xG} {l : Launch} {a κ : Nat} {β : Nat → Int → Int} {m od : Int → Int} {oc x : Int} (h0 : (0 ≤ m 2 ∧ m 2 ≤ 8) ∧ 0 ≤ m 3 ∧ m 3 ≤ 12) (h1 : 0 ≤ x ∧ x < m 3) (h2 : -1 ≤ m (548 + 10 * x + 8) ∧ m (548 + 10 * x + 8) < m 2) (h3 : ∀ u, 0 ≤ u → u < m 2 → 0 ≤ m (5 + 6 * u + 3) ∧ m (5 + 6 * u + 3) ≤ 1) : CT G l yX3_hasBrokenUnit cX3_hasBrokenUnit 3 (some .boolean) ({ frames := 1, cells := 0, slots := 0, locals := 21 } : Room) 0 0 [.ref a, vi x] (PS G a κ β m od oc) (pZ (m (548 + 10 * x + 8) ≠ -1 ∧ m (5 + 6 * m (548 + 10 * x + 8) + 3) = 1) (PS G a κ β m od oc)) (AS a) := by
  refine x_met1 (own := RX3) (nm := "hasBrokenUnit") (L := [(0, .ref a), (1, vi x)]) (by decide) rfl rfl (fun _ => rfl) (Nat.le_of_ble_eq_true rfl) rfl rfl ?_
  intro Γ B R
  refine x_aload_n B dX3_hasBrokenUnit_0 rfl ?_
  refine x_get B fgX3_19 dX3_hasBrokenUnit_1 (fun _ h => ⟨_, PS.o h, rfl⟩) ?_
  refine x_iload_n B dX3_hasBrokenUnit_4 rfl ?_
  refine x_aald (j := 4) B dX3_hasBrokenUnit_5 rfl (by omega) (by decide) (PS.ab (by omega)) ?_
  refine x_getI B fgX3_117 dX3_hasBrokenUnit_6 (PS.gb8 (by omega)) (fun r6 => ?_)
  refine x_istore_n B dX3_hasBrokenUnit_9 (by decide) ?_
  refine x_aload_n B dX3_hasBrokenUnit_10 rfl ?_
  refine x_iload_n B dX3_hasBrokenUnit_11 rfl ?_
  refine x_mZ B mvX3_120 (fun l => c_X3_hasUnit (by omega)) dX3_hasBrokenUnit_12 rfl rfl (by decide) (by decide) (Nat.le_of_ble_eq_true rfl) PS.rv ?_
  refine x_ifz_eq (tgt := 34) B dX3_hasBrokenUnit_15 (by decide) (fun c15 => ?_) (fun c15 => ?_)
  · refine x_iconst B dX3_hasBrokenUnit_34 ?_
    exact x_retZ B R dX3_hasBrokenUnit_35 ((bz_f (by omega)).symm) (fun H h => by exact h)
  · have hb := h3 (m (548 + 10 * x + 8)) (by omega) (by omega)
    refine x_aload_n B dX3_hasBrokenUnit_18 rfl ?_
    refine x_get B fgX3_11 dX3_hasBrokenUnit_19 (fun _ h => ⟨_, PS.o h, rfl⟩) ?_
    refine x_iload_n B dX3_hasBrokenUnit_22 rfl ?_
    refine x_aald (j := 3) B dX3_hasBrokenUnit_23 rfl (by omega) (by decide) (PS.au (by omega)) ?_
    refine x_getI B fgX3_79 dX3_hasBrokenUnit_24 (PS.gu5 (by omega)) (fun r24 => ?_)
    refine x_if_eq (tgt := 34) B dX3_hasBrokenUnit_27 (by decide) (by omega) (fun c27 => ?_) (fun c27 => ?_)
    · refine x_iconst B dX3_hasBrokenUnit_34 ?_
      exact x_retZ B R dX3_hasBrokenUnit_35 ((bz_f (by omega)).symm) (fun H h => by exact h)
    · refine x_iconst B dX3_hasBrokenUnit_30 ?_
      refine x_goto (tgt := 35) B dX3_hasBrokenUnit_31 (by decide) ?_
      exact x_retZ B R dX3_hasBrokenUnit_35 ((bz_t (by omega)).symm) (fun H h => by exact h)
/-- what a batch's present phase may be read by, in the book -/
def rdC (m : Int → Int) (x : Int) : Prop := (0 ≤ m 3 ∧ m 3 ≤ 12) ∧ (0 ≤ x ∧ x < m 3) ∧ (0 ≤ m (548 + 10 * x + 0) ∧ m (548 + 10 * x + 0) < 6) ∧ (1 ≤ m (548 + 10 * x + 1) ∧ m (548 + 10 * x + 1) ≤ m (56 + m (548 + 10 * x + 0))) ∧ m (56 + m (548 + 10 * x + 0)) ≤ 9 ∧ (0 ≤ m (548 + 10 * x + 6) ∧ m (548 + 10 * x + 6) < lnB m x) ∧ lnB m x ≤ 8
theorem Iv0.rdC {m : Int → Int} {W x : Int} (h : Iv0 m W) (x0 : 0 ≤ x) (x1 : x < m 3) (h6 : m (548 + 10 * x + 6) < lnB m x) : rdC m x := by
  have hn := h.n
  have hb := h.b x0 x1
  obtain ⟨-, hl, -⟩ := h.page x0 x1
  unfold okB0 at hb
  have hv := h.vs (r := m (548 + 10 * x + 0)) (by omega) (by omega)
  exact ⟨by omega, by omega, by omega, by omega, by omega, by omega, by omega⟩
theorem c_X3_valueOf {G : xG} {l : Launch} {a κ : Nat} {β : Nat → Int → Int} {m od : Int → Int} {oc x w : Int} (h1 : rdC m x) (h2 : 0 ≤ w ∧ w < 5) : CT G l yX3_valueOf cX3_valueOf 3 (some .int) ({ frames := 1, cells := 0, slots := 0, locals := 23 } : Room) 0 0 [.ref a, .ref (bA a x), vi w] (PS G a κ β m od oc) (pI (pt (phB m x (m (548 + 10 * x + 6))) w) (PS G a κ β m od oc)) (AS a) := by
  refine x_met1 (own := RX3) (nm := "valueOf") (L := [(0, .ref a), (1, .ref (bA a x)), (2, vi w)]) (by decide) rfl rfl (fun _ => rfl) (Nat.le_of_ble_eq_true rfl) rfl rfl ?_
  intro Γ B R
  refine x_fact (fun H h => h.2.2.1) (fun hbk => ?_)
  unfold rdC at h1
  have e : β w.toNat (8 * (9 * m (548 + 10 * x + 0) + m (548 + 10 * x + 1) - 1) + m (548 + 10 * x + 6)) = pt (phB m x (m (548 + 10 * x + 6))) w := by
    obtain ⟨-, g2⟩ := hbk (m (548 + 10 * x + 0)) (m (548 + 10 * x + 1)) (by omega) (by omega) (by omega) (by omega) (by omega)
    have hl : lnB m x = m (62 + (9 * m (548 + 10 * x + 0) + m (548 + 10 * x + 1) - 1)) := rfl
    exact g2 (m (548 + 10 * x + 6)) (by omega) (by omega) (by omega) w (by omega) (by omega)
  have e5 : β 5 (9 * m (548 + 10 * x + 0) + m (548 + 10 * x + 1) - 1) = lnB m x := (hbk (m (548 + 10 * x + 0)) (m (548 + 10 * x + 1)) (by omega) (by omega) (by omega) (by omega) (by omega)).1
  refine x_aload_n B dX3_valueOf_0 rfl ?_
  refine x_get B fgX3_44 dX3_valueOf_1 (fun _ h => ⟨_, PS.o h, rfl⟩) ?_
  refine x_aload_n B dX3_valueOf_4 rfl ?_
  refine x_getI B fgX3_133 dX3_valueOf_5 (PS.gb0 (by omega)) (fun r5 => ?_)
  refine x_aload_n B dX3_valueOf_8 rfl ?_
  refine x_getI B fgX3_136 dX3_valueOf_9 (PS.gb1 (by omega)) (fun r9 => ?_)
  refine x_sV B msX3_139 (fun l => c_X1_pageOf (by omega) (by omega)) dX3_valueOf_12 rfl rfl (by decide) (by decide) (Nat.le_of_ble_eq_true rfl) (fun r12 => ?_)
  refine x_aload_n B dX3_valueOf_15 rfl ?_
  refine x_getI B fgX3_145 dX3_valueOf_16 (PS.gb6 (by omega)) (fun r16 => ?_)
  refine x_iload_n B dX3_valueOf_19 rfl ?_
  refine x_mV B mvX3_148 (fun l => c_X1_find PS.bk (by omega) (by omega) (by omega) (by rw [e5]; omega)) dX3_valueOf_20 rfl rfl (by decide) (by decide) (Nat.le_of_ble_eq_true rfl) PS.rvK (fun r20 => ?_)
  refine x_top ((if_pos (by omega)).trans e) ?_
  exact x_retI B R dX3_valueOf_23 (by first | rfl | omega) (by rw [← e]; omega) (fun H h => by exact h)
theorem c_X3_ticksLeft {G : xG} {l : Launch} {a κ : Nat} {β : Nat → Int → Int} {m od : Int → Int} {oc x : Int} (h1 : rdC m x) (h2 : 0 ≤ m (548 + 10 * x + 7) ∧ m (548 + 10 * x + 7) ≤ 100) : CT G l yX3_ticksLeft cX3_ticksLeft 2 (some .int) ({ frames := 2, cells := 0, slots := 0, locals := 45 } : Room) 0 0 [.ref a, vi x] (PS G a κ β m od oc) (pI (phB m x (m (548 + 10 * x + 6)) / 4 % 128 - m (548 + 10 * x + 7)) (PS G a κ β m od oc)) (AS a) := by
  refine x_met1 (own := RX3) (nm := "ticksLeft") (L := [(0, .ref a), (1, vi x)]) (by decide) rfl rfl (fun _ => rfl) (Nat.le_of_ble_eq_true rfl) rfl rfl ?_
  intro Γ B R
  have h1' := h1
  unfold rdC at h1'
  refine x_aload_n B dX3_ticksLeft_0 rfl ?_
  refine x_aload_n B dX3_ticksLeft_1 rfl ?_
  refine x_get B fgX3_19 dX3_ticksLeft_2 (fun _ h => ⟨_, PS.o h, rfl⟩) ?_
  refine x_iload_n B dX3_ticksLeft_5 rfl ?_
  refine x_aald (j := 4) B dX3_ticksLeft_6 rfl (by omega) (by decide) (PS.ab (by omega)) ?_
  refine x_iconst B dX3_ticksLeft_7 ?_
  refine x_mV B mvX3_104 (fun l => c_X3_valueOf h1 (by omega)) dX3_ticksLeft_8 rfl rfl (by decide) (by decide) (Nat.le_of_ble_eq_true rfl) PS.rv (fun r8 => ?_)
  refine x_top (show _ = phB m x (m (548 + 10 * x + 6)) / 4 % 128 from rfl) ?_
  refine x_aload_n B dX3_ticksLeft_11 rfl ?_
  refine x_get B fgX3_19 dX3_ticksLeft_12 (fun _ h => ⟨_, PS.o h, rfl⟩) ?_
  refine x_iload_n B dX3_ticksLeft_15 rfl ?_
  refine x_aald (j := 4) B dX3_ticksLeft_16 rfl (by omega) (by decide) (PS.ab (by omega)) ?_
  refine x_getI B fgX3_130 dX3_ticksLeft_17 (PS.gb7 (by omega)) (fun r17 => ?_)
  refine x_isub B dX3_ticksLeft_20 ?_
  exact x_retI B R dX3_ticksLeft_21 (by first | rfl | omega) (by omega) (fun H h => by exact h)
theorem c_X3_unitFor {G : xG} {l : Launch} {a κ : Nat} {β : Nat → Int → Int} {m od : Int → Int} {oc x t : Int} (h0 : 0 ≤ m 2 ∧ m 2 ≤ 8) (h1 : rdC m x) (h2 : 0 ≤ t ∧ t ≤ 1) : CT G l yX3_unitFor cX3_unitFor 6 (some .int) ({ frames := 2, cells := 0, slots := 0, locals := 45 } : Room) 0 0 [.ref a, .ref (bA a x), vi t] (PS G a κ β m od oc) (pI (s_uFor m t x (phB m x (m (548 + 10 * x + 6)) % 4)) (PS G a κ β m od oc)) (AS a) := by
  refine x_met1 (own := RX3) (nm := "unitFor") (L := [(0, .ref a), (1, .ref (bA a x)), (2, vi t)]) (by decide) rfl rfl (fun _ => rfl) (Nat.le_of_ble_eq_true rfl) rfl rfl ?_
  intro Γ B R
  refine x_fact (fun H h => (PS.mok h).2.2.2) (fun hm => ?_)
  have h1' := h1
  unfold rdC at h1'
  have hs : s_uFor m t x (phB m x (m (548 + 10 * x + 6)) % 4) = lowU (fun u => ((m (5 + 6 * u + 2) = -1 ∧ m (5 + 6 * u + 3) = 0 ∧ m (5 + 6 * u + 4) ≤ t) ∧ m (5 + 6 * u + 0) = (phB m x (m (548 + 10 * x + 6)) % 4) ∧ (m (548 + 10 * x + 2)) ≤ m (5 + 6 * u + 1))) (m 2).toNat 0 := rfl
  generalize hkd : phB m x (m (548 + 10 * x + 6)) % 4 = kd at *
  have hkr : 0 ≤ kd ∧ kd < 4 := by omega
  have loop : ∀ (n : Nat) (i : Int) (L : List (Nat × Value)), s_uFor m t x kd = lowU (fun u => ((m (5 + 6 * u + 2) = -1 ∧ m (5 + 6 * u + 3) = 0 ∧ m (5 + 6 * u + 4) ≤ t) ∧ m (5 + 6 * u + 0) = kd ∧ (m (548 + 10 * x + 2)) ≤ m (5 + 6 * u + 1))) (m 2 - i).toNat i → 0 ≤ i → i ≤ m 2 → m 2 - i < n → (∀ q ∈ [(0, Value.ref a), (1, .ref (bA a x)), (2, vi t), (3, vi kd), (4, vi i)], lget L q.1 = some q.2) → XJ Γ 0 0 (PS G a κ β m od oc) 10 L [] := by
    intro n
    induction n with
    | zero => intro i L _ _ _ _; omega
    | succ n ih =>
      intro i L he hi0 hi1 hn hL
      refine x_locs hL ?_
      by_cases hlt : i < m 2
      · have hq : (m 2 - i).toNat = (m 2 - (i + 1)).toNat + 1 := by omega
        refine x_iload B dX3_unitFor_10 rfl ?_
        refine x_aload_n B dX3_unitFor_12 rfl ?_
        refine x_getI B fgX3_50 dX3_unitFor_13 PS.g7 (fun r13 => ?_)
        refine x_icmp_ge (tgt := 67) B dX3_unitFor_16 (by decide) (by omega) (by omega) (fun c16 => ?_) (fun c16 => ?_)
        · omega
        · refine x_aload_n B dX3_unitFor_19 rfl ?_
          refine x_get B fgX3_11 dX3_unitFor_20 (fun _ h => ⟨_, PS.o h, rfl⟩) ?_
          refine x_iload B dX3_unitFor_23 rfl ?_
          refine x_aald (j := 3) B dX3_unitFor_25 rfl (by omega) (by decide) (PS.au (by omega)) ?_
          refine x_astore B dX3_unitFor_26 (by decide) ?_
          refine x_aload B dX3_unitFor_28 rfl ?_
          refine x_getI B fgX3_108 dX3_unitFor_30 (PS.gu0 (by omega)) (fun r30 => ?_)
          refine x_iload_n B dX3_unitFor_33 rfl ?_
          refine x_icmp_ne (tgt := 61) B dX3_unitFor_34 (by decide) (by omega) (by omega) (fun c34 => ?_) (fun c34 => ?_)
          · refine x_iinc B dX3_unitFor_61 rfl (by decide) ?_
            refine x_goto (tgt := 10) B dX3_unitFor_64 (by decide) ?_
            exact ih (i + 1) _ (by rw [he, hq, lowU, if_neg (by omega)]) (by omega) (by omega) (by omega) (xl_cons rfl (xl_cons rfl (xl_cons rfl (xl_cons rfl (xl_cons rfl xl_nil)))))
          · refine x_aload B dX3_unitFor_37 rfl ?_
            refine x_getI B fgX3_111 dX3_unitFor_39 (PS.gu1 (by omega)) (fun r39 => ?_)
            refine x_aload_n B dX3_unitFor_42 rfl ?_
            refine x_getI B fgX3_114 dX3_unitFor_43 (PS.gb2 (by omega)) (fun r43 => ?_)
            refine x_icmp_lt (tgt := 61) B dX3_unitFor_46 (by decide) (by omega) (by omega) (fun c46 => ?_) (fun c46 => ?_)
            · refine x_iinc B dX3_unitFor_61 rfl (by decide) ?_
              refine x_goto (tgt := 10) B dX3_unitFor_64 (by decide) ?_
              exact ih (i + 1) _ (by rw [he, hq, lowU, if_neg (by omega)]) (by omega) (by omega) (by omega) (xl_cons rfl (xl_cons rfl (xl_cons rfl (xl_cons rfl (xl_cons rfl xl_nil)))))
            · refine x_aload B dX3_unitFor_49 rfl ?_
              refine x_iload_n B dX3_unitFor_51 rfl ?_
              refine x_mZ B mvX3_98 (fun l => c_X5_isFreeAfter (PS.ou (by omega)) hm (by omega)) dX3_unitFor_52 rfl rfl (by decide) (by decide) (Nat.le_of_ble_eq_true rfl) (PS.rvU (by omega)) ?_
              refine x_ifz_eq (tgt := 61) B dX3_unitFor_55 (by decide) (fun c55 => ?_) (fun c55 => ?_)
              · refine x_iinc B dX3_unitFor_61 rfl (by decide) ?_
                refine x_goto (tgt := 10) B dX3_unitFor_64 (by decide) ?_
                exact ih (i + 1) _ (by rw [he, hq, lowU, if_neg (by omega)]) (by omega) (by omega) (by omega) (xl_cons rfl (xl_cons rfl (xl_cons rfl (xl_cons rfl (xl_cons rfl xl_nil)))))
              · refine x_iload B dX3_unitFor_58 rfl ?_
                exact x_retI B R dX3_unitFor_60 (by rw [he, hq, lowU, if_pos (by omega)]) (by rw [he, hq, lowU, if_pos (by omega)]; omega) (fun H h => by exact h)
      · have e : i = m 2 := by omega
        rw [e, show (m 2 - m 2).toNat = 0 by omega] at he
        refine x_iload B dX3_unitFor_10 rfl ?_
        refine x_aload_n B dX3_unitFor_12 rfl ?_
        refine x_getI B fgX3_50 dX3_unitFor_13 PS.g7 (fun r13 => ?_)
        refine x_icmp_ge (tgt := 67) B dX3_unitFor_16 (by decide) (by omega) (by omega) (fun c16 => ?_) (fun c16 => ?_)
        · refine x_iconst B dX3_unitFor_67 ?_
          exact x_retI B R dX3_unitFor_68 (by rw [he]; rfl) (by rw [he]; exact (by decide : -2147483648 ≤ (-1 : Int) ∧ (-1 : Int) < 2147483648)) (fun H h => by exact h)
        · omega
  refine x_aload_n B dX3_unitFor_0 rfl ?_
  refine x_aload_n B dX3_unitFor_1 rfl ?_
  refine x_iconst B dX3_unitFor_2 ?_
  refine x_mV B mvX3_104 (fun l => c_X3_valueOf h1 (by omega)) dX3_unitFor_3 rfl rfl (by decide) (by decide) (Nat.le_of_ble_eq_true rfl) PS.rv (fun r3 => ?_)
  refine x_top (show pt (phB m x (m (548 + 10 * x + 6))) 0 = kd from hkd) ?_
  refine x_istore_n B dX3_unitFor_6 (by decide) ?_
  refine x_iconst B dX3_unitFor_7 ?_
  refine x_istore B dX3_unitFor_8 (by decide) ?_
  exact loop 9 0 _ (by rw [hs, Int.sub_zero]) (by omega) (by omega) (by omega) (xl_cons rfl (xl_cons rfl (xl_cons rfl (xl_cons rfl (xl_cons rfl xl_nil)))))
theorem c_X3_releasePieces {G : xG} {l : Launch} {a κ : Nat} {β : Nat → Int → Int} {m od : Int → Int} {oc x : Int} (h1 : -2147483648 ≤ x ∧ x < 2147483648) : CT G l yX3_releasePieces cX3_releasePieces 3 none ({ frames := 0, cells := 0, slots := 0, locals := 0 } : Room) 0 0 [.ref a, vi x] (PS G a κ β m od oc) (pV (PS G a κ β (s_relS m x 3) od oc)) (AS a) := by
  refine x_met1 (own := RX3) (nm := "releasePieces") (L := [(0, .ref a), (1, vi x)]) (by decide) rfl rfl (fun _ => rfl) (Nat.le_of_ble_eq_true rfl) rfl rfl ?_
  intro Γ B R
  have loop : ∀ (n : Nat) (i : Int) (m' : Int → Int), m' = s_relS m x i → 0 ≤ i → i ≤ 3 → 3 - i < n → XJ Γ 0 0 (PS G a κ β m' od oc) 2 [(0, .ref a), (1, vi x), (2, vi i)] [] := by
    intro n
    induction n with
    | zero => intro i m' _ _ _ _; omega
    | succ n ih =>
      intro i m' hm hi0 hi1 hn
      have e : m' (53 + i) = m (53 + i) := by rw [hm]; unfold s_relS; rw [if_neg (by omega)]
      have es : ∀ k, s_relS m x (i + 1) k = if k = 53 + i ∧ m (53 + i) = x then -1 else s_relS m x i k := fun k => by
        unfold s_relS
        by_cases hk : k = 53 + i
        · subst hk
          by_cases hx : m (53 + i) = x
          · rw [if_pos (by omega), if_pos ⟨rfl, hx⟩]
          · rw [if_neg (by omega), if_neg (fun q => hx q.2), if_neg (by omega)]
        · rw [if_neg (show ¬ (k = 53 + i ∧ m (53 + i) = x) from fun q => hk q.1)]
          by_cases hq : 53 ≤ k ∧ k < 53 + i ∧ m k = x
          · rw [if_pos hq, if_pos (by omega)]
          · rw [if_neg hq, if_neg (by omega)]
      refine x_iload_n B dX3_releasePieces_2 rfl ?_
      refine x_iconst B dX3_releasePieces_3 ?_
      refine x_icmp_ge (tgt := 30) B dX3_releasePieces_4 (by decide) (by omega) (by omega) (fun c4 => ?_) (fun c4 => ?_)
      · exact x_retV B R dX3_releasePieces_30 (fun H h => by rw [hm, show i = 3 by omega] at h; exact h)
      · refine x_aload_n B dX3_releasePieces_7 rfl ?_
        refine x_get B fgX3_23 dX3_releasePieces_8 (fun _ h => ⟨_, PS.o h, rfl⟩) ?_
        refine x_iload_n B dX3_releasePieces_11 rfl ?_
        refine x_ialdR B dX3_releasePieces_12 (by omega) (by decide) PS.ah (fun r12 => ?_)
        refine x_iload_n B dX3_releasePieces_13 rfl ?_
        refine x_icmp_ne (tgt := 24) B dX3_releasePieces_14 (by decide) (by omega) (by omega) (fun c14 => ?_) (fun c14 => ?_)
        · refine x_iinc B dX3_releasePieces_24 rfl (by decide) ?_
          refine x_goto (tgt := 2) B dX3_releasePieces_27 (by decide) ?_
          exact ih (i + 1) _ (by
            funext k
            rw [es k, ← hm]
            first
              | (unfold up
                 by_cases hk : k = 53 + i
                 · rw [if_pos hk, if_pos ⟨hk, by omega⟩]
                 · rw [if_neg hk, if_neg (fun q => hk q.1)])
              | rw [if_neg (by omega)]) (by omega) (by omega) (by omega)
        · refine x_aload_n B dX3_releasePieces_17 rfl ?_
          refine x_get B fgX3_23 dX3_releasePieces_18 (fun _ h => ⟨_, PS.o h, rfl⟩) ?_
          refine x_iload_n B dX3_releasePieces_21 rfl ?_
          refine x_iconst B dX3_releasePieces_22 ?_
          refine x_iast B dX3_releasePieces_23 (by omega) (by decide) (by unfold AS; omega) (PS.sh (by omega) (by omega)) ?_
          refine x_iinc B dX3_releasePieces_24 rfl (by decide) ?_
          refine x_goto (tgt := 2) B dX3_releasePieces_27 (by decide) ?_
          exact ih (i + 1) _ (by
            funext k
            rw [es k, ← hm]
            first
              | (unfold up
                 by_cases hk : k = 53 + i
                 · rw [if_pos hk, if_pos ⟨hk, by omega⟩]
                 · rw [if_neg hk, if_neg (fun q => hk q.1)])
              | rw [if_neg (by omega)]) (by omega) (by omega) (by omega)
  refine x_iconst B dX3_releasePieces_0 ?_
  refine x_istore_n B dX3_releasePieces_1 (by decide) ?_
  exact loop 4 0 _ (by funext k; unfold s_relS; rw [if_neg (by omega)]) (by omega) (by omega) (by omega)
theorem c_X3_releaseUnit {G : xG} {l : Launch} {a κ : Nat} {β : Nat → Int → Int} {m od : Int → Int} {oc x : Int} (h0 : (0 ≤ m 2 ∧ m 2 ≤ 8) ∧ 0 ≤ m 3 ∧ m 3 ≤ 12) (h1 : 0 ≤ x ∧ x < m 3) (h2 : -1 ≤ m (548 + 10 * x + 8) ∧ m (548 + 10 * x + 8) < m 2) : CT G l yX3_releaseUnit cX3_releaseUnit 2 none ({ frames := 1, cells := 0, slots := 0, locals := 21 } : Room) 0 0 [.ref a, .ref (bA a x)] (PS G a κ β m od oc) (pV (PS G a κ β (s_relU m x) od oc)) (AS a) := by
  refine x_met1 (own := RX3) (nm := "releaseUnit") (L := [(0, .ref a), (1, .ref (bA a x))]) (by decide) rfl rfl (fun _ => rfl) (Nat.le_of_ble_eq_true rfl) rfl rfl ?_
  intro Γ B R
  refine x_aload_n B dX3_releaseUnit_0 rfl ?_
  refine x_aload_n B dX3_releaseUnit_1 rfl ?_
  refine x_getI B fgX3_117 dX3_releaseUnit_2 (PS.gb8 (by omega)) (fun r2 => ?_)
  refine x_mZ B mvX3_120 (fun l => c_X3_hasUnit (by omega)) dX3_releaseUnit_5 rfl rfl (by decide) (by decide) (Nat.le_of_ble_eq_true rfl) PS.rv ?_
  refine x_ifz_ne (tgt := 12) B dX3_releaseUnit_8 (by decide) (fun c8 => ?_) (fun c8 => ?_)
  · refine x_aload_n B dX3_releaseUnit_12 rfl ?_
    refine x_get B fgX3_11 dX3_releaseUnit_13 (fun _ h => ⟨_, PS.o h, rfl⟩) ?_
    refine x_aload_n B dX3_releaseUnit_16 rfl ?_
    refine x_getI B fgX3_117 dX3_releaseUnit_17 (PS.gb8 (by omega)) (fun r17 => ?_)
    refine x_aald (j := 3) B dX3_releaseUnit_20 rfl (by omega) (by decide) (PS.au (by omega)) ?_
    refine x_iconst B dX3_releaseUnit_21 ?_
    refine x_put B fpX3_83 dX3_releaseUnit_22 rfl rfl (by unfold AS uA; omega) (PS.pu2 (by omega) (by omega)) ?_
    have e8 : up m (5 + 6 * m (548 + 10 * x + 8) + 2) (-1) (548 + 10 * x + 8) = m (548 + 10 * x + 8) := up_ne (by omega)
    have e2 : up m (5 + 6 * m (548 + 10 * x + 8) + 2) (-1) 2 = m 2 := up_ne (by omega)
    have e3 : up m (5 + 6 * m (548 + 10 * x + 8) + 2) (-1) 3 = m 3 := up_ne (by omega)
    refine x_aload_n B dX3_releaseUnit_25 rfl ?_
    refine x_get B fgX3_11 dX3_releaseUnit_26 (fun _ h => ⟨_, PS.o h, rfl⟩) ?_
    refine x_aload_n B dX3_releaseUnit_29 rfl ?_
    refine x_getI B fgX3_117 dX3_releaseUnit_30 (PS.gb8 (by omega)) (fun r30 => ?_)
    refine x_top e8 ?_
    refine x_aald (j := 3) B dX3_releaseUnit_33 rfl (by omega) (by decide) (PS.au (by omega)) ?_
    refine x_aload_n B dX3_releaseUnit_34 rfl ?_
    refine x_getI B fgX3_40 dX3_releaseUnit_35 PS.g11 (fun r35 => ?_)
    refine x_put B fpX3_123 dX3_releaseUnit_38 rfl rfl (by unfold AS uA; omega) (PS.pu3 (by omega) (by omega)) ?_
    have e33 : up (up m (5 + 6 * m (548 + 10 * x + 8) + 2) (-1)) (5 + 6 * m (548 + 10 * x + 8) + 4) (up m (5 + 6 * m (548 + 10 * x + 8) + 2) (-1) 0) 3 = m 3 := by rw [up_ne (by omega), e3]
    refine x_aload_n B dX3_releaseUnit_41 rfl ?_
    refine x_iconst B dX3_releaseUnit_42 ?_
    refine x_put B fpX3_117 dX3_releaseUnit_43 rfl rfl (by unfold AS bA; omega) (PS.pb8 (by omega) (by omega)) ?_
    exact x_retV B R dX3_releaseUnit_46 (fun H h => by simp only [s_relU]; first | (rw [if_pos (by omega)]; exact h) | (rw [if_neg (by omega)]; exact h))
  · exact x_retV B R dX3_releaseUnit_11 (fun H h => by simp only [s_relU]; first | (rw [if_pos (by omega)]; exact h) | (rw [if_neg (by omega)]; exact h))
theorem c_X3_bringToEnd {G : xG} {l : Launch} {a κ : Nat} {β : Nat → Int → Int} {m od : Int → Int} {oc x st w : Int} (h0 : (0 ≤ m 2 ∧ m 2 ≤ 8) ∧ 0 ≤ m 3 ∧ m 3 ≤ 12) (h1 : 0 ≤ x ∧ x < m 3) (h2 : -1 ≤ m (548 + 10 * x + 8) ∧ m (548 + 10 * x + 8) < m 2) (h3 : -2147483648 ≤ st ∧ st < 2147483648) (h4 : -2147483648 ≤ w ∧ w < 2147483648) : CT G l yX3_bringToEnd cX3_bringToEnd 4 none ({ frames := 2, cells := 0, slots := 0, locals := 42 } : Room) 0 0 [.ref a, vi x, vi st, vi w] (PS G a κ β m od oc) (pV (PS G a κ β (s_endsBy m x st w) od oc)) (AS a) := by
  refine x_met1 (own := RX3) (nm := "bringToEnd") (L := [(0, .ref a), (1, vi x), (2, vi st), (3, vi w)]) (by decide) rfl rfl (fun _ => rfl) (Nat.le_of_ble_eq_true rfl) rfl rfl ?_
  intro Γ B R
  have e8 : s_relS m x 3 (548 + 10 * x + 8) = m (548 + 10 * x + 8) := s_relS_ne (by omega)
  have e2 : s_relS m x 3 2 = m 2 := s_relS_ne (by omega)
  have e3 : s_relS m x 3 3 = m 3 := s_relS_ne (by omega)
  have f3 : s_relU (s_relS m x 3) x 3 = m 3 := by
    simp only [s_relU]
    split
    · exact e3
    · rw [up_ne (by omega), up_ne (by omega), up_ne (by omega), e3]
  refine x_aload_n B dX3_bringToEnd_0 rfl ?_
  refine x_iload_n B dX3_bringToEnd_1 rfl ?_
  refine x_mN B mvX3_152 (fun l => c_X3_releasePieces (by omega)) dX3_bringToEnd_2 rfl rfl (by decide) (by decide) (Nat.le_of_ble_eq_true rfl) PS.rv ?_
  refine x_aload_n B dX3_bringToEnd_5 rfl ?_
  refine x_aload_n B dX3_bringToEnd_6 rfl ?_
  refine x_get B fgX3_19 dX3_bringToEnd_7 (fun _ h => ⟨_, PS.o h, rfl⟩) ?_
  refine x_iload_n B dX3_bringToEnd_10 rfl ?_
  refine x_aald (j := 4) B dX3_bringToEnd_11 rfl (by omega) (by decide) (PS.ab (by omega)) ?_
  refine x_mN B mvX3_171 (fun l => c_X3_releaseUnit (by omega) (by omega) (by omega)) dX3_bringToEnd_12 rfl rfl (by decide) (by decide) (Nat.le_of_ble_eq_true rfl) PS.rv ?_
  refine x_aload_n B dX3_bringToEnd_15 rfl ?_
  refine x_get B fgX3_19 dX3_bringToEnd_16 (fun _ h => ⟨_, PS.o h, rfl⟩) ?_
  refine x_iload_n B dX3_bringToEnd_19 rfl ?_
  refine x_aald (j := 4) B dX3_bringToEnd_20 rfl (by omega) (by decide) (PS.ab (by omega)) ?_
  refine x_iload_n B dX3_bringToEnd_21 rfl ?_
  refine x_put B fpX3_127 dX3_bringToEnd_22 rfl rfl (by unfold AS bA; omega) (PS.pb5 (by omega) (by omega)) ?_
  refine x_aload_n B dX3_bringToEnd_25 rfl ?_
  refine x_get B fgX3_33 dX3_bringToEnd_26 (fun _ h => ⟨_, PS.o h, rfl⟩) ?_
  refine x_aload_n B dX3_bringToEnd_29 rfl ?_
  refine x_getI B fgX3_72 dX3_bringToEnd_30 PS.g10 (fun r30 => ?_)
  refine x_iload_n B dX3_bringToEnd_33 rfl ?_
  refine x_iload_n B dX3_bringToEnd_34 rfl ?_
  refine x_jadd B mvX3_155 dX3_bringToEnd_35 (by omega) (by omega) (by decide) (Nat.le_of_ble_eq_true rfl) ?_
  exact x_retV B R dX3_bringToEnd_38 (fun H h => by exact h)
theorem c_X3_holdBatch {G : xG} {l : Launch} {a κ : Nat} {β : Nat → Int → Int} {m od : Int → Int} {oc x : Int} (h0 : 0 ≤ m 3 ∧ m 3 ≤ 12) (h1 : 0 ≤ x ∧ x < m 3) : CT G l yX3_holdBatch cX3_holdBatch 2 none ({ frames := 1, cells := 0, slots := 0, locals := 23 } : Room) 0 0 [.ref a, vi x] (PS G a κ β m od oc) (pV (PS G a κ β (s_holds m x) od oc)) (AS a) := by
  refine x_met1 (own := RX3) (nm := "holdBatch") (L := [(0, .ref a), (1, vi x)]) (by decide) rfl rfl (fun _ => rfl) (Nat.le_of_ble_eq_true rfl) rfl rfl ?_
  intro Γ B R
  have e3 : s_relS m x 3 3 = m 3 := s_relS_ne (by omega)
  refine x_aload_n B dX3_holdBatch_0 rfl ?_
  refine x_iload_n B dX3_holdBatch_1 rfl ?_
  refine x_mN B mvX3_152 (fun l => c_X3_releasePieces (by omega)) dX3_holdBatch_2 rfl rfl (by decide) (by decide) (Nat.le_of_ble_eq_true rfl) PS.rv ?_
  refine x_aload_n B dX3_holdBatch_5 rfl ?_
  refine x_get B fgX3_19 dX3_holdBatch_6 (fun _ h => ⟨_, PS.o h, rfl⟩) ?_
  refine x_iload_n B dX3_holdBatch_9 rfl ?_
  refine x_aald (j := 4) B dX3_holdBatch_10 rfl (by omega) (by decide) (PS.ab (by omega)) ?_
  refine x_iconst B dX3_holdBatch_11 ?_
  refine x_put B fpX3_127 dX3_holdBatch_12 rfl rfl (by unfold AS bA; omega) (PS.pb5 (by omega) (by omega)) ?_
  refine x_aload_n B dX3_holdBatch_15 rfl ?_
  refine x_get B fgX3_33 dX3_holdBatch_16 (fun _ h => ⟨_, PS.o h, rfl⟩) ?_
  refine x_aload_n B dX3_holdBatch_19 rfl ?_
  refine x_getI B fgX3_72 dX3_holdBatch_20 PS.g10 (fun r20 => ?_)
  refine x_iload_n B dX3_holdBatch_23 rfl ?_
  refine x_iconst B dX3_holdBatch_24 ?_
  refine x_jadd B mvX3_155 dX3_holdBatch_25 (by omega) (by omega) (by decide) (Nat.le_of_ble_eq_true rfl) ?_
  exact x_retV B R dX3_holdBatch_28 (fun H h => by exact h)

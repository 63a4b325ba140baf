/-! ===== the executive's own leaves; record ===== -/
theorem c_X6_isRecipe {G : xG} {l : Launch} {P : Heap → Prop} {A : Nat → Prop} {v : Int} (h1 : -2147483648 ≤ v ∧ v < 2147483648) : CT G l yX6_isRecipe cX6_isRecipe 1 (some .boolean) ({ frames := 1, cells := 0, slots := 0, locals := 22 } : Room) 0 0 [vi v] P (pZ (0 ≤ v ∧ v ≤ 5) P) A := by
  refine x_met1 (own := RX6) (nm := "isRecipe") (L := [(0, vi v)]) (by decide) rfl rfl (fun _ => rfl) (Nat.le_of_ble_eq_true rfl) rfl rfl ?_
  intro Γ B R
  refine x_iload_n B dX6_isRecipe_0 rfl ?_
  refine x_iconst B dX6_isRecipe_1 ?_
  refine x_iconst B dX6_isRecipe_2 ?_
  refine x_sZ B msX6_39 (fun l => c_X6_isWithin (by omega) (by omega) (by omega)) dX6_isRecipe_3 rfl rfl (by decide) (by decide) (Nat.le_of_ble_eq_true rfl) ?_
  exact x_retZ B R dX6_isRecipe_6 (by rfl) (fun H h => by exact h)
theorem c_X6_isPriority {G : xG} {l : Launch} {P : Heap → Prop} {A : Nat → Prop} {v : Int} (h1 : -2147483648 ≤ v ∧ v < 2147483648) : CT G l yX6_isPriority cX6_isPriority 1 (some .boolean) ({ frames := 1, cells := 0, slots := 0, locals := 22 } : Room) 0 0 [vi v] P (pZ (0 ≤ v ∧ v ≤ 9) P) A := by
  refine x_met1 (own := RX6) (nm := "isPriority") (L := [(0, vi v)]) (by decide) rfl rfl (fun _ => rfl) (Nat.le_of_ble_eq_true rfl) rfl rfl ?_
  intro Γ B R
  refine x_iload_n B dX6_isPriority_0 rfl ?_
  refine x_iconst B dX6_isPriority_1 ?_
  refine x_bipush B dX6_isPriority_2 (by decide) ?_
  refine x_sZ B msX6_39 (fun l => c_X6_isWithin (by omega) (by omega) (by omega)) dX6_isPriority_4 rfl rfl (by decide) (by decide) (Nat.le_of_ble_eq_true rfl) ?_
  exact x_retZ B R dX6_isPriority_7 (by rfl) (fun H h => by exact h)
theorem c_X6_orNotFound {G : xG} {l : Launch} {P : Heap → Prop} {A : Nat → Prop} {v : Int} (h1 : -2147483648 ≤ v ∧ v < 2147483648) : CT G l yX6_orNotFound cX6_orNotFound 1 (some .int) ({ frames := 0, cells := 0, slots := 0, locals := 0 } : Room) 0 0 [vi v] P (pI (if v = -1 then -4 else v) P) A := by
  refine x_met1 (own := RX6) (nm := "orNotFound") (L := [(0, vi v)]) (by decide) rfl rfl (fun _ => rfl) (Nat.le_of_ble_eq_true rfl) rfl rfl ?_
  intro Γ B R
  refine x_iload_n B dX6_orNotFound_0 rfl ?_
  refine x_iconst B dX6_orNotFound_1 ?_
  refine x_icmp_ne (tgt := 10) B dX6_orNotFound_2 (by decide) (by omega) (by omega) (fun c2 => ?_) (fun c2 => ?_)
  · refine x_iload_n B dX6_orNotFound_10 rfl ?_
    exact x_retI B R dX6_orNotFound_11 (by first | rw [if_pos (by omega)] | rw [if_neg (by omega)]) (by split <;> omega) (fun H h => by exact h)
  · refine x_bipush B dX6_orNotFound_5 (by decide) ?_
    refine x_goto (tgt := 11) B dX6_orNotFound_7 (by decide) ?_
    exact x_retI B R dX6_orNotFound_11 (by first | rw [if_pos (by omega)] | rw [if_neg (by omega)]) (by split <;> omega) (fun H h => by exact h)
section EXM
variable {G : xG} {l : Launch} {e : Nat} {β : Nat → Int → Int} {m od : Int → Int} {oc : Int} {q : Nat} {F : Nat → Option Nat} {T : Int → Int} {n pc rs pl at_ : Int} {vs : Nat → Int → Int} {N : Int} {S : Int → Int → Int}
theorem c_X6_isUnit {x : Int} (h1 : -2147483648 ≤ x ∧ x < 2147483648) (h2 : 0 ≤ m 2 ∧ m 2 ≤ 8) : CT G l yX6_isUnit cX6_isUnit 2 (some .boolean) ({ frames := 1, cells := 0, slots := 0, locals := 21 } : Room) 0 0 [.ref e, vi x] (EX G e β m od oc q F T n pc rs pl at_ vs N S) (pZ (0 ≤ x ∧ x < m 2) (EX G e β m od oc q F T n pc rs pl at_ vs N S)) (AE e) := by
  refine x_met1 (own := RX6) (nm := "isUnit") (L := [(0, .ref e), (1, vi x)]) (by decide) rfl rfl (fun _ => rfl) (Nat.le_of_ble_eq_true rfl) rfl rfl ?_
  intro Γ B R
  refine x_aload_n B dX6_isUnit_0 rfl ?_
  refine x_get B fgX6_28 dX6_isUnit_1 (fun _ h => ⟨_, EX.o h, rfl⟩) ?_
  refine x_iload_n B dX6_isUnit_4 rfl ?_
  refine x_fZ B mvX6_272 (fun l => c_X3_hasUnit (by omega)) dX6_isUnit_5 rfl rfl (by decide) (by decide) (Nat.le_of_ble_eq_true rfl) EX.faP EX.fbP EX.fcP ?_
  exact x_retZ B R dX6_isUnit_8 (by rfl) (fun H h => by exact h)
theorem c_X6_isBatch {x : Int} (h1 : -2147483648 ≤ x ∧ x < 2147483648) (h2 : 0 ≤ m 3 ∧ m 3 ≤ 12) : CT G l yX6_isBatch cX6_isBatch 2 (some .boolean) ({ frames := 1, cells := 0, slots := 0, locals := 21 } : Room) 0 0 [.ref e, vi x] (EX G e β m od oc q F T n pc rs pl at_ vs N S) (pZ (0 ≤ x ∧ x < m 3) (EX G e β m od oc q F T n pc rs pl at_ vs N S)) (AE e) := by
  refine x_met1 (own := RX6) (nm := "isBatch") (L := [(0, .ref e), (1, vi x)]) (by decide) rfl rfl (fun _ => rfl) (Nat.le_of_ble_eq_true rfl) rfl rfl ?_
  intro Γ B R
  refine x_aload_n B dX6_isBatch_0 rfl ?_
  refine x_get B fgX6_28 dX6_isBatch_1 (fun _ h => ⟨_, EX.o h, rfl⟩) ?_
  refine x_iload_n B dX6_isBatch_4 rfl ?_
  refine x_fZ B mvX6_275 (fun l => c_X3_hasBatch (by omega)) dX6_isBatch_5 rfl rfl (by decide) (by decide) (Nat.le_of_ble_eq_true rfl) EX.faP EX.fbP EX.fcP ?_
  exact x_retZ B R dX6_isBatch_8 (by rfl) (fun H h => by exact h)
theorem EX.fr (h : ∀ k : Nat, k < 4 → F k = some (pA e q k)) {z : Int} (hz : 0 ≤ z ∧ z < 4) : ∀ H, EX G e β m od oc q F T n pc rs pl at_ vs N S H → rat G 5 (e + 77) 4 F H ∧ F z.toNat = some (pA e q z.toNat) := fun H h' => ⟨h'.2.2.2.2.1, h _ (by omega)⟩
theorem EX.js {H : Heap} {i : Nat} (h : EX G e β m od oc q F T n pc rs pl at_ vs N S H) : JS G (pA e q i) (e + 1) H := by
  have hi : (i + q) % 4 < 4 := by omega
  exact h.2.2.2.2.2.1 _ hi
/-- what record leaves -/
def RE (G : xG) (e : Nat) (β : Nat → Int → Int) (m od : Int → Int) (oc : Int) (T : Int → Int) (n pc rs pl at_ : Int) (vs : Nat → Int → Int) (N : Int) (S : Int → Int → Int) (H : Heap) : Prop := ∃ q' F' S', EX G e β m od oc q' F' T n pc rs pl at_ vs (if N = 4 then 4 else N + 1) S' H ∧ (∀ k : Nat, k < 4 → F' k = some (pA e q' k)) ∧ ∀ i, 0 ≤ i → i < (if N = 4 then 4 else N + 1) → S' i = if i = (if N = 4 then 4 else N + 1) - 1 then m else S (if N = 4 then i + 1 else i)
theorem EX.cpy {H H1 : Heap} {N0 : Int} (hN0 : 0 ≤ N0 ∧ N0 < 4) (h : EX G e β m od oc q F T n pc rs pl at_ vs N0 S H) (h1 : (∃ od oc, PS G (pA e q N0.toNat) (e + 1) β m od oc H1) ∧ PS G (e + 17) (e + 1) β m od oc H1) (hq : ∀ q' : Nat, q' < H.size → ¬ AS (pA e q N0.toNat) q' → H1[q']? = H[q']?) : EX G e β m od oc q F T n pc rs pl at_ vs N0 S H1 ∧ ∃ od oc, PS G (pA e q N0.toNat) (e + 1) β m od oc H1 := by
  have hsz := h.size
  obtain ⟨g1, g2, g3, g4, g5, g6, g7, g8⟩ := h
  have hg := pA_rg (e := e) (q := q) (i := N0.toNat)
  have hk : ∀ q' : Nat, q' < e + 78 → H1[q']? = H[q']? := fun q' h => hq q' (by omega) (by unfold AS; omega)
  refine ⟨⟨g1.kept (hk _ (by omega)), h1.2, g3.kept (fun q a b => hk q (by omega)), g4.kept (fun q a b => hk q (by omega)), g5.kept (hk _ (by omega)), fun s hs => ?_, fun i hi => ?_, g8⟩, h1.1⟩
  · by_cases c : s = (N0.toNat + q) % 4
    · subst c
      obtain ⟨od1, oc1, p⟩ := h1.1
      exact p.js
    · exact (g6 s hs).kept (fun q' a b => hq q' (by omega) (by unfold AS pA; omega))
  · obtain ⟨od1, oc1, p⟩ := g7 i hi
    have hgi := pA_rg (e := e) (q := q) (i := i)
    exact ⟨od1, oc1, p.kept (fun q' a b => hq q' (by omega) (by unfold AS; unfold pA at *; omega)) (fun q' a b => hk q' (by omega))⟩
theorem c_X6_record (hF : ∀ k : Nat, k < 4 → F k = some (pA e q k)) (hb : ∀ u, 0 ≤ u → u < m 2 → 0 ≤ m (5 + 6 * u + 3) ∧ m (5 + 6 * u + 3) ≤ 1) : CT G l yX6_record cX6_record 3 none ({ frames := 3, cells := 0, slots := 0, locals := 75 } : Room) 0 0 [.ref e] (EX G e β m od oc q F T n pc rs pl at_ vs N S) (pV (RE G e β m od oc T n pc rs pl at_ vs N S)) (AE e) := by
  refine x_met1 (own := RX6) (nm := "record") (L := [(0, .ref e)]) (by decide) rfl rfl (fun _ => rfl) (Nat.le_of_ble_eq_true rfl) rfl rfl ?_
  intro Γ B R
  have tail : ∀ (q' : Nat) (F' : Nat → Option Nat) (N' : Int) (S' : Int → Int → Int), (∀ k : Nat, k < 4 → F' k = some (pA e q' k)) → (0 ≤ N' ∧ N' < 4) → N' + 1 = (if N = 4 then 4 else N + 1) → (∀ i, 0 ≤ i → i < N' → S' i = S (if N = 4 then i + 1 else i)) → XJ Γ 0 0 (EX G e β m od oc q' F' T n pc rs pl at_ vs N' S') 54 [(0, .ref e)] [] := by
    intro q' F' N' S' hF' hN' hNN hS'
    have hg := pA_rg (e := e) (q := q') (i := N'.toNat)
    refine x_aload_n B dX6_record_54 rfl ?_
    refine x_get B fgX6_35 dX6_record_55 (fun _ h => ⟨_, EX.o h, rfl⟩) ?_
    refine x_aload_n B dX6_record_58 rfl ?_
    refine x_getI B fgX6_253 dX6_record_59 EX.g5 (fun r59 => ?_)
    refine x_aald (j := 5) B dX6_record_62 rfl (by omega) (by decide) (EX.fr hF' hN') ?_
    refine x_aload_n B dX6_record_63 rfl ?_
    refine x_get B fgX6_28 dX6_record_64 (fun _ h => ⟨_, EX.o h, rfl⟩) ?_
    refine x_fN B mvX6_237 (fun l => (c_X3_copyFrom (by omega) (by omega) hb) ) dX6_record_67 rfl rfl (by decide) (by decide) (Nat.le_of_ble_eq_true rfl) (fun q h => by unfold AS at h; unfold AE; omega) (fun H h => ⟨⟨h.js, h.2.1⟩, h.js.o⟩) (fun H H1 h h1 _ hq => EX.cpy hN' h h1 hq) ?_
    refine x_aload_n B dX6_record_70 rfl ?_
    refine x_dup B dX6_record_71 rfl ?_
    refine x_getI B fgX6_253 dX6_record_72 (fun H h => EX.g5 H h.1) (fun r72 => ?_)
    refine x_iconst B dX6_record_75 ?_
    refine x_iadd B dX6_record_76 ?_
    refine x_put B fpX6_253 dX6_record_77 rfl rfl (by unfold AE; omega) (P' := RE G e β m od oc T n pc rs pl at_ vs N S) (fun H h => ⟨_, h.1.o, Nat.le_of_ble_eq_true rfl, fun H1 g1 _ g3 => ⟨q', F', fun i => if i = N' then m else S' i, by
  rw [← hNN]
  obtain ⟨f1, f2, f3, f4, f5, f6, f7, f8⟩ := h.1
  refine ⟨g1, f2.kept (fun q a b => g3 q (by omega)) (fun q a b => g3 q (by omega)), f3.kept (fun q a b => g3 q (by omega)), f4.kept (fun q a b => g3 q (by omega)), f5.kept (g3 _ (by omega)), fun s hs => (f6 s hs).kept (fun q a b => g3 q (by omega)), fun i hi => ?_, by omega⟩
  have hgi := pA_rg (e := e) (q := q') (i := i)
  by_cases c : (i : Int) = N'
  · obtain ⟨od1, oc1, p⟩ := h.2
    simp only
    rw [if_pos c]
    rw [show N'.toNat = i by omega] at p
    exact ⟨od1, oc1, p.kept (fun q a b => g3 q (by omega)) (fun q a b => g3 q (by omega))⟩
  · obtain ⟨od1, oc1, p⟩ := f7 i (by omega)
    simp only
    rw [if_neg c]
    exact ⟨od1, oc1, p.kept (fun q a b => g3 q (by omega)) (fun q a b => g3 q (by omega))⟩, hF', fun i i0 i1 => by
  simp only
  by_cases c : i = N'
  · rw [if_pos c, if_pos (by omega)]
  · rw [if_neg c, if_neg (by omega)]
    exact hS' i i0 (by omega)⟩⟩) ?_
    exact x_retV B R dX6_record_80 (fun H h => by exact h)
  have loop : ∀ (f : Nat) (k : Nat) (F' : Nat → Option Nat) (L : List (Nat × Value)), N = 4 → k + f = 4 → 1 ≤ k → (∀ j : Nat, j < 4 → F' j = if j + 1 < k then F (j + 1) else F j) → (∀ p2 ∈ [(0, Value.ref e), (1, .ref (pA e q 0)), (2, vi (k : Int))], lget L p2.1 = some p2.2) → XJ Γ 0 0 (EX G e β m od oc q F' T n pc rs pl at_ vs N S) 17 L [] := by
    intro f
    induction f with
    | zero =>
      intro k F' L h4 hkf hk hF' hL
      refine x_locs hL ?_
      have hk4 : k = 4 := by omega
      subst hk4
      refine x_iload_n B dX6_record_17 rfl ?_
      refine x_iconst B dX6_record_18 ?_
      refine x_icmp_ge (tgt := 42) B dX6_record_19 (by decide) (by omega) (by omega) (fun c19 => ?_) (fun c19 => ?_)
      · refine x_aload_n B dX6_record_42 rfl ?_
        refine x_get B fgX6_35 dX6_record_43 (fun _ h => ⟨_, EX.o h, rfl⟩) ?_
        refine x_iconst B dX6_record_46 ?_
        refine x_aload_n B dX6_record_47 rfl ?_
        refine x_aast (P' := EX G e β m od oc q (va_up F' (Int.toNat 3) (some (pA e q 0))) T n pc rs pl at_ vs N S) (j := 5) (ci := 3) (r := ("BatchExecutive$State", _, _)) B dX6_record_48 rfl rfl (by omega) (by decide) (by unfold AE; omega) (fun H h => ⟨h.2.2.2.2.1, h.js.o, fun H1 g1 _ g3 => h.setF g1 g3⟩) ?_
        refine x_aload_n B dX6_record_49 rfl ?_
        refine x_iconst B dX6_record_50 ?_
        refine x_put (P' := EX G e β m od oc (q + 1) (va_up F' (Int.toNat 3) (some (pA e q 0))) T n pc rs pl at_ vs 3 (fun i => S (i + 1))) B fpX6_253 dX6_record_51 rfl rfl (by unfold AE; omega) (fun H h => ⟨_, h.o, Nat.le_of_ble_eq_true rfl, fun H1 g1 _ g3 => h.setN (by omega) g1 g3 (fun i hi => ⟨i + 1, by omega, by unfold pA; omega, by show S ((i : Int) + 1) = S ((i + 1 : Nat) : Int); congr 1⟩)⟩) ?_
        refine x_locs (xl_cons rfl xl_nil) (tail (q + 1) _ 3 _ (fun k hk => ?_) (by omega) (by rw [if_pos h4]; omega) (fun i _ _ => by rw [if_pos h4]))
        unfold va_up
        by_cases c : k = 3
        · subst c
          rw [if_pos (by decide)]
          congr 1
          unfold pA
          omega
        · rw [if_neg (by show ¬ k = 3; exact c), hF' k hk, if_pos (by omega), hF (k + 1) (by omega)]
          congr 1
          unfold pA
          omega
      · omega
    | succ f ih =>
      intro k F' L h4 hkf hk hF' hL
      refine x_locs hL ?_
      refine x_iload_n B dX6_record_17 rfl ?_
      refine x_iconst B dX6_record_18 ?_
      refine x_icmp_ge (tgt := 42) B dX6_record_19 (by decide) (by omega) (by omega) (fun c19 => ?_) (fun c19 => ?_)
      · omega
      · refine x_aload_n B dX6_record_22 rfl ?_
        refine x_get B fgX6_35 dX6_record_23 (fun _ h => ⟨_, EX.o h, rfl⟩) ?_
        refine x_iload_n B dX6_record_26 rfl ?_
        refine x_iconst B dX6_record_27 ?_
        refine x_isub B dX6_record_28 ?_
        refine x_aload_n B dX6_record_29 rfl ?_
        refine x_get B fgX6_35 dX6_record_30 (fun _ h => ⟨_, EX.o h, rfl⟩) ?_
        refine x_iload_n B dX6_record_33 rfl ?_
        refine x_aald (j := 5) B dX6_record_34 rfl (by omega) (by decide) (fun H h => ⟨h.2.2.2.2.1, by show F' k = some (pA e q k); rw [hF' k (by omega), if_neg (by omega), hF k (by omega)]⟩) ?_
        refine x_aast (P' := EX G e β m od oc q (va_up F' ((k : Int) - 1).toNat (some (pA e q k))) T n pc rs pl at_ vs N S) (j := 5) (ci := 3) (r := ("BatchExecutive$State", _, _)) B dX6_record_35 rfl rfl (by omega) (by decide) (by unfold AE; omega) (fun H h => ⟨h.2.2.2.2.1, h.js.o, fun H1 g1 _ g3 => h.setF g1 g3⟩) ?_
        refine x_iinc B dX6_record_36 rfl (by decide) ?_
        refine x_goto (tgt := 17) B dX6_record_39 (by decide) ?_
        refine ih (k + 1) _ _ h4 (by omega) (by omega) (fun j hj => ?_) (xl_cons rfl (xl_cons rfl (xl_cons rfl xl_nil)))
        unfold va_up
        by_cases c : j = ((k : Int) - 1).toNat
        · rw [if_pos c, if_pos (by omega), show j + 1 = k by omega, hF k (by omega)]
        · rw [if_neg c, hF' j hj]
          by_cases d : j + 1 < k
          · rw [if_pos d, if_pos (by omega)]
          · rw [if_neg d, if_neg (by omega)]
  refine x_fact (fun H h => h.hN) (fun hN4 => ?_)
  refine x_aload_n B dX6_record_0 rfl ?_
  refine x_getI B fgX6_253 dX6_record_1 EX.g5 (fun r1 => ?_)
  refine x_iconst B dX6_record_4 ?_
  refine x_icmp_lt (tgt := 54) B dX6_record_5 (by decide) (by omega) (by omega) (fun c5 => ?_) (fun c5 => ?_)
  · exact tail q F N S hF (by omega) (by rw [if_neg (by omega)]) (fun i _ _ => by rw [if_neg (by omega)])
  · refine x_aload_n B dX6_record_8 rfl ?_
    refine x_get B fgX6_35 dX6_record_9 (fun _ h => ⟨_, EX.o h, rfl⟩) ?_
    refine x_iconst B dX6_record_12 ?_
    refine x_aald (j := 5) B dX6_record_13 rfl (by omega) (by decide) (EX.fr hF (by omega)) ?_
    refine x_astore_n B dX6_record_14 (by decide) ?_
    refine x_iconst B dX6_record_15 ?_
    refine x_istore_n B dX6_record_16 (by decide) ?_
    exact loop 3 1 F _ (by omega) (by omega) (by omega) (fun j hj => by rw [if_neg (by omega)]) (xl_cons rfl (xl_cons rfl (xl_cons rfl xl_nil)))
end EXM

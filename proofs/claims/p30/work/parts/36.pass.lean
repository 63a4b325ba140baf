/-! ===== the class's State, walked: a tick, abort, new units and batches ===== -/
def stepM (s : (Int → Int) × Int) (b : Int) : (Int → Int) × Int := if s.1 (548 + 10 * b + 5) = 1 ∨ s.1 (548 + 10 * b + 5) = 3 then (s_work s.1 b, if mvdZ s.1 b = 1 then 1 else s.2) else s
def passM (l : List Int) (m : Int → Int) : (Int → Int) × Int :=
  let s := l.foldl stepM (s_clean m (m 2), clM m (m 2).toNat)
  (up s.1 1 (s.1 1 + 1), s.2)
theorem stepM_E {s : (Int → Int) × Int} {W b : Int} (h : Iv s.1 W) (b0 : 0 ≤ b) (b1 : b < s.1 3) : Iv (stepM s b).1 (W + 1) ∧ (∀ k, (k < 4 ∨ 56 ≤ k) → (k < 668 ∨ 788 ≤ k) → (k < 548 + 10 * b + 5 ∨ 548 + 10 * b + 10 ≤ k) → (stepM s b).1 k = s.1 k) := by
  unfold stepM
  split
  · next ha =>
    have hE := work_wE h b0 b1 ha
    exact ⟨wE_Iv hE h b0 b1 ha, hE.1⟩
  · refine ⟨?_, fun _ _ _ _ => rfl⟩
    have hI := Iv_iff.mp h
    exact Iv_iff.mpr ⟨hI.1.mono (by omega), hI.2⟩
theorem stepM_2 {s : (Int → Int) × Int} {b : Int} (h : s.2 = 0 ∨ s.2 = 1) : (stepM s b).2 = 0 ∨ (stepM s b).2 = 1 := by
  unfold stepM
  split
  · simp only
    split
    · exact Or.inr rfl
    · exact h
  · exact h
theorem c_X3_passTick {G : xG} {l : Launch} {a κ : Nat} {β : Nat → Int → Int} {m od : Int → Int} {oc W : Int} {lst : List Int} (h1 : Iv m W) (hW : 0 ≤ W ∧ W ≤ 90000000) (ht : 0 ≤ m 1 ∧ m 1 ≤ 59999) (h2 : oc = lst.length) (h3 : lrep od lst) (h4 : ∀ c ∈ lst, 0 ≤ c ∧ c < m 3) (h5 : lst.length ≤ 12) : CT G l yX3_passTick cX3_passTick 4 (some .boolean) ({ frames := 5, cells := 0, slots := 0, locals := 117 } : Room) 0 0 [.ref a] (PS G a κ β m od oc) (pZ ((passM lst m).2 = 1) (PS G a κ β (passM lst m).1 od oc)) (AS a) := by
  refine x_met1 (own := RX3) (nm := "passTick") (L := [(0, .ref a)]) (by decide) rfl rfl (fun _ => rfl) (Nat.le_of_ble_eq_true rfl) rfl rfl ?_
  intro Γ B R
  refine x_fact (fun H h => (PS.mok h).2.2.2) (fun hm => ?_)
  have hI := Iv_iff.mp h1
  have hn := hI.1.n
  have hc := clean_Iv h1
  have e3 : s_clean m (m 2) 3 = m 3 := s_clean_ne (by omega)
  have hT : passM lst m = (let s := lst.foldl stepM (s_clean m (m 2), clM m (m 2).toNat); (up s.1 1 (s.1 1 + 1), s.2)) := rfl
  dsimp only at hT
  have hcr := clM_rg m (m 2).toNat
  have loop : ∀ (R : List Int) (k : Nat) (s : (Int → Int) × Int) (W' : Int), k + R.length = lst.length → (∀ i, i < R.length → R[i]? = some (od ((k + i : Nat) : Int))) → (∀ c ∈ R, 0 ≤ c ∧ c < s.1 3) → Iv s.1 W' → (0 ≤ W' ∧ W' + R.length ≤ 90000012) → (s.2 = 0 ∨ s.2 = 1) → s.1 1 = m 1 → R.foldl stepM s = lst.foldl stepM (s_clean m (m 2), clM m (m 2).toNat) → XJ Γ 0 0 (PS G a κ β s.1 od oc) 7 [(0, .ref a), (1, vi s.2), (2, vi (k : Int))] [] := by
    intro R
    induction R with
    | nil =>
      intro k s W' hk hR hRr hI' hW' hs2 hs1 hf
      have hf' : s = lst.foldl stepM (s_clean m (m 2), clM m (m 2).toNat) := hf
      rw [← hf'] at hT
      refine x_iload_n B dX3_passTick_7 rfl ?_
      refine x_aload_n B dX3_passTick_8 rfl ?_
      refine x_getI B fgX3_174 dX3_passTick_9 PS.g9 (fun r9 => ?_)
      refine x_icmp_ge (tgt := 58) B dX3_passTick_12 (by decide) (by omega) (by omega) (fun c12 => ?_) (fun c12 => ?_)
      · refine x_aload_n B dX3_passTick_58 rfl ?_
        refine x_dup B dX3_passTick_59 rfl ?_
        refine x_getI B fgX3_72 dX3_passTick_60 PS.g10 (fun r60 => ?_)
        refine x_iconst B dX3_passTick_63 ?_
        refine x_iadd B dX3_passTick_64 ?_
        refine x_put B fpX3_72 dX3_passTick_65 rfl rfl (by unfold AS; omega) (PS.p10 (by omega)) ?_
        refine x_iload_n B dX3_passTick_68 rfl ?_
        exact x_retZ B R dX3_passTick_69 (by rw [hT]; rcases hs2 with q | q <;> rw [q] <;> rfl) (fun H h => by rw [hT]; exact h)
      · exfalso; simp at hk; omega
    | cons c R ih =>
      intro k s W' hk hR hRr hI' hW' hs2 hs1 hf
      have hk' : k < lst.length := by rw [List.length_cons] at hk; omega
      have hcr := hRr c List.mem_cons_self
      have hms : ∀ H, PS G a κ β s.1 od oc H → ∀ k, -2147483648 ≤ s.1 k ∧ s.1 k < 2147483648 := fun H h => (PS.mok h).2.2.2
      refine x_fact hms (fun hms => ?_)
      have ec : od (k : Int) = c := by
        have := hR 0 (by rw [List.length_cons]; omega)
        simp only [List.getElem?_cons_zero, Nat.add_zero] at this
        exact (Option.some.inj this).symm
      have hnk := (Iv_iff.mp hI').1.n
      obtain ⟨gI, gE⟩ := stepM_E hI' hcr.1 hcr.2
      have hlen : ((c :: R).length : Int) = R.length + 1 := by rw [List.length_cons]; omega
      have hst : stepM s c = if s.1 (548 + 10 * c + 5) = 1 ∨ s.1 (548 + 10 * c + 5) = 3 then (s_work s.1 c, if mvdZ s.1 c = 1 then 1 else s.2) else s := rfl
      have next := ih (k + 1) (stepM s c) (W' + 1) (by rw [List.length_cons] at hk; omega) (fun i hi => by
          have := hR (i + 1) (by rw [List.length_cons]; omega)
          rw [List.getElem?_cons_succ] at this
          rw [this]
          congr 2
          omega) (fun d hd => by
          have := hRr d (List.mem_cons_of_mem _ hd)
          rw [gE 3 (by omega) (by omega) (by omega)]
          exact this) gI (by omega) (stepM_2 hs2) (by rw [gE 1 (by omega) (by omega) (by omega), hs1]) hf
      refine x_iload_n B dX3_passTick_7 rfl ?_
      refine x_aload_n B dX3_passTick_8 rfl ?_
      refine x_getI B fgX3_174 dX3_passTick_9 PS.g9 (fun r9 => ?_)
      refine x_icmp_ge (tgt := 58) B dX3_passTick_12 (by decide) (by omega) (by omega) (fun c12 => ?_) (fun c12 => ?_)
      · omega
      · refine x_aload_n B dX3_passTick_15 rfl ?_
        refine x_get B fgX3_37 dX3_passTick_16 (fun _ h => ⟨_, PS.o h, rfl⟩) ?_
        refine x_iload_n B dX3_passTick_19 rfl ?_
        refine x_ialdR B dX3_passTick_20 (by omega) (by decide) PS.ao (fun r20 => ?_)
        refine x_top ec ?_
        refine x_istore_n B dX3_passTick_21 (by decide) ?_
        refine x_aload_n B dX3_passTick_22 rfl ?_
        refine x_iload_n B dX3_passTick_23 rfl ?_
        refine x_mZ B mvX3_86 (fun l => c_X3_hasBatch (by omega)) dX3_passTick_24 rfl rfl (by decide) (by decide) (Nat.le_of_ble_eq_true rfl) PS.rv ?_
        refine x_ifz_eq (tgt := 52) B dX3_passTick_27 (by decide) (fun c27 => ?_) (fun c27 => ?_)
        · refine x_iinc B dX3_passTick_52 rfl (by decide) ?_
          refine x_goto (tgt := 7) B dX3_passTick_55 (by decide) ?_
          first
            | (exfalso; omega)
            | (rw [hst, if_pos (by assumption), if_pos (by assumption)] at next
               exact x_locs (xl_cons rfl (xl_cons rfl (xl_cons rfl xl_nil))) next)
            | (rw [hst, if_pos (by assumption), if_neg (by assumption)] at next
               exact x_locs (xl_cons rfl (xl_cons rfl (xl_cons rfl xl_nil))) next)
            | (rw [hst, if_neg (by assumption)] at next
               exact x_locs (xl_cons rfl (xl_cons rfl (xl_cons rfl xl_nil))) next)
        · refine x_aload_n B dX3_passTick_30 rfl ?_
          refine x_get B fgX3_19 dX3_passTick_31 (fun _ h => ⟨_, PS.o h, rfl⟩) ?_
          refine x_iload_n B dX3_passTick_34 rfl ?_
          refine x_aald (j := 4) B dX3_passTick_35 rfl (by omega) (by decide) (PS.ab (by omega)) ?_
          refine x_mZ B mvX3_90 (fun l => c_X0_isActive (PS.ob (by omega)) hms) dX3_passTick_36 rfl rfl (by decide) (by decide) (Nat.le_of_ble_eq_true rfl) (PS.rvB (by omega)) ?_
          refine x_ifz_eq (tgt := 52) B dX3_passTick_39 (by decide) (fun c39 => ?_) (fun c39 => ?_)
          · refine x_iinc B dX3_passTick_52 rfl (by decide) ?_
            refine x_goto (tgt := 7) B dX3_passTick_55 (by decide) ?_
            first
              | (exfalso; omega)
              | (rw [hst, if_pos (by assumption), if_pos (by assumption)] at next
                 exact x_locs (xl_cons rfl (xl_cons rfl (xl_cons rfl xl_nil))) next)
              | (rw [hst, if_pos (by assumption), if_neg (by assumption)] at next
                 exact x_locs (xl_cons rfl (xl_cons rfl (xl_cons rfl xl_nil))) next)
              | (rw [hst, if_neg (by assumption)] at next
                 exact x_locs (xl_cons rfl (xl_cons rfl (xl_cons rfl xl_nil))) next)
          · refine x_aload_n B dX3_passTick_42 rfl ?_
            refine x_iload_n B dX3_passTick_43 rfl ?_
            refine x_mZ B mvX3_186 (fun l => c_X3_moveOn hI' (by omega) (by omega) (by assumption)) dX3_passTick_44 rfl rfl (by decide) (by decide) (Nat.le_of_ble_eq_true rfl) PS.rv ?_
            refine x_ifz_eq (tgt := 52) B dX3_passTick_47 (by decide) (fun c47 => ?_) (fun c47 => ?_)
            · refine x_iinc B dX3_passTick_52 rfl (by decide) ?_
              refine x_goto (tgt := 7) B dX3_passTick_55 (by decide) ?_
              first
                | (exfalso; omega)
                | (rw [hst, if_pos (by assumption), if_pos (by assumption)] at next
                   exact x_locs (xl_cons rfl (xl_cons rfl (xl_cons rfl xl_nil))) next)
                | (rw [hst, if_pos (by assumption), if_neg (by assumption)] at next
                   exact x_locs (xl_cons rfl (xl_cons rfl (xl_cons rfl xl_nil))) next)
                | (rw [hst, if_neg (by assumption)] at next
                   exact x_locs (xl_cons rfl (xl_cons rfl (xl_cons rfl xl_nil))) next)
            · refine x_iconst B dX3_passTick_50 ?_
              refine x_istore_n B dX3_passTick_51 (by decide) ?_
              refine x_iinc B dX3_passTick_52 rfl (by decide) ?_
              refine x_goto (tgt := 7) B dX3_passTick_55 (by decide) ?_
              first
                | (exfalso; omega)
                | (rw [hst, if_pos (by assumption), if_pos (by assumption)] at next
                   exact x_locs (xl_cons rfl (xl_cons rfl (xl_cons rfl xl_nil))) next)
                | (rw [hst, if_pos (by assumption), if_neg (by assumption)] at next
                   exact x_locs (xl_cons rfl (xl_cons rfl (xl_cons rfl xl_nil))) next)
                | (rw [hst, if_neg (by assumption)] at next
                   exact x_locs (xl_cons rfl (xl_cons rfl (xl_cons rfl xl_nil))) next)
  have hcz : bz (clM m (m 2).toNat = 1) = clM m (m 2).toNat := by rcases hcr with q | q <;> rw [q] <;> rfl
  refine x_aload_n B dX3_passTick_0 rfl ?_
  refine x_mZ B mvX3_183 (fun l => c_X3_cleanUnits (by omega) (fun u u0 u1 => by have := hI.1.u u0 u1; unfold okU at this; omega)) dX3_passTick_1 rfl rfl (by decide) (by decide) (Nat.le_of_ble_eq_true rfl) PS.rv ?_
  refine x_top hcz ?_
  refine x_istore_n B dX3_passTick_4 (by decide) ?_
  refine x_iconst B dX3_passTick_5 ?_
  refine x_istore_n B dX3_passTick_6 (by decide) ?_
  exact loop lst 0 (s_clean m (m 2), clM m (m 2).toNat) W (by omega) (fun i hi => by rw [Nat.zero_add]; exact h3 i hi) (fun c hcc => by have := h4 c hcc; simp only; omega) hc (by omega) hcr (show s_clean m (m 2) 1 = m 1 from s_clean_ne (by omega)) rfl
theorem c_X3_abortWithFollowing {G : xG} {l : Launch} {a κ : Nat} {β : Nat → Int → Int} {m od : Int → Int} {oc W x : Int} (h1 : Iv m W) (h2 : 0 ≤ x ∧ x < m 3) (h5 : m (548 + 10 * x + 5) < 4) : CT G l yX3_abortWithFollowing cX3_abortWithFollowing 5 (some .int) ({ frames := 3, cells := 0, slots := 0, locals := 65 } : Room) 0 0 [.ref a, vi x] (PS G a κ β m od oc) (pI (s_ab x (m 3 - x).toNat x 0 0 m).1 (PS G a κ β (s_ab x (m 3 - x).toNat x 0 0 m).2 od oc)) (AS a) := by
  refine x_met1 (own := RX3) (nm := "abortWithFollowing") (L := [(0, .ref a), (1, vi x)]) (by decide) rfl rfl (fun _ => rfl) (Nat.le_of_ble_eq_true rfl) rfl rfl ?_
  intro Γ B R
  have hI := Iv_iff.mp h1
  have hn := hI.1.n
  have hb := hI.1.b h2.1 h2.2
  unfold okB0 at hb
  obtain ⟨g1, -, -, z0, hJ0⟩ := abort_E h1 h2.1 h2.2 h5
  rw [g1] at R
  have hJ0' := hJ0
  obtain ⟨j0, j1, j3, -⟩ := hJ0'
  have loop : ∀ (k : Nat) (i z n : Int) (m' : Int → Int) (L : List (Nat × Value)), s_abC (m 3 - (x + 1)).toNat (x + 1) 1 (s_endsBy m x 5 5) = s_abC k i n m' → x < i → i + k = m 3 → (0 ≤ n ∧ n ≤ i) → abJ m W x i z m' → (∀ q ∈ [(0, Value.ref a), (1, vi x), (2, vi n), (3, vi i)], lget L q.1 = some q.2) → XJ Γ 0 0 (PS G a κ β m' od oc) 13 L [] := by
    intro k
    induction k with
    | zero =>
      intro i z n m' L he hi hk hnr hJ hL
      refine x_locs hL ?_
      have e : i = m 3 := by omega
      obtain ⟨j0, j1, j3, -⟩ := hJ
      have he' : s_abC (m 3 - (x + 1)).toNat (x + 1) 1 (s_endsBy m x 5 5) = (n, m') := he
      rw [he'] at R
      refine x_iload_n B dX3_abortWithFollowing_13 rfl ?_
      refine x_aload_n B dX3_abortWithFollowing_14 rfl ?_
      refine x_getI B fgX3_57 dX3_abortWithFollowing_15 PS.g8 (fun r15 => ?_)
      refine x_icmp_ge (tgt := 83) B dX3_abortWithFollowing_18 (by decide) (by omega) (by omega) (fun c18 => ?_) (fun c18 => ?_)
      · refine x_iload_n B dX3_abortWithFollowing_83 rfl ?_
        exact x_retI B R dX3_abortWithFollowing_84 (by first | rfl | omega) (by omega) (fun H h => by exact h)
      · omega
    | succ k ih =>
      intro i z n m' L he hi hk hnr hJ hL
      refine x_locs hL ?_
      have hms : ∀ H, PS G a κ β m' od oc H → ∀ k, -2147483648 ≤ m' k ∧ m' k < 2147483648 := fun H h => (PS.mok h).2.2.2
      refine x_fact hms (fun hms => ?_)
      obtain ⟨s1, s2, s3⟩ := abJ_step h1 h2.1 hi (by omega) hJ
      obtain ⟨j0, j1, j3, -⟩ := hJ
      have hnm := j0.n
      have hbi := j0.b (b := i) (by omega) (by omega)
      unfold okB0 at hbi
      have hC : s_abC (k + 1) i n m' = if m' (548 + 10 * i + 4) ≠ -1 ∧ m' (548 + 10 * m' (548 + 10 * i + 4) + 5) = 5 ∧ m' (548 + 10 * i + 5) < 4 then s_abC k (i + 1) (n + 1) (s_endsBy m' i 5 5) else s_abC k (i + 1) n m' := rfl
      rw [hC] at he
      refine x_iload_n B dX3_abortWithFollowing_13 rfl ?_
      refine x_aload_n B dX3_abortWithFollowing_14 rfl ?_
      refine x_getI B fgX3_57 dX3_abortWithFollowing_15 PS.g8 (fun r15 => ?_)
      refine x_icmp_ge (tgt := 83) B dX3_abortWithFollowing_18 (by decide) (by omega) (by omega) (fun c18 => ?_) (fun c18 => ?_)
      · omega
      · refine x_aload_n B dX3_abortWithFollowing_21 rfl ?_
        refine x_get B fgX3_19 dX3_abortWithFollowing_22 (fun _ h => ⟨_, PS.o h, rfl⟩) ?_
        refine x_iload_n B dX3_abortWithFollowing_25 rfl ?_
        refine x_aald (j := 4) B dX3_abortWithFollowing_26 rfl (by omega) (by decide) (PS.ab (by omega)) ?_
        refine x_getI B fgX3_165 dX3_abortWithFollowing_27 (PS.gb4 (by omega)) (fun r27 => ?_)
        refine x_istore B dX3_abortWithFollowing_30 (by decide) ?_
        refine x_aload_n B dX3_abortWithFollowing_32 rfl ?_
        refine x_iload B dX3_abortWithFollowing_33 rfl ?_
        refine x_mZ B mvX3_86 (fun l => c_X3_hasBatch (by omega)) dX3_abortWithFollowing_35 rfl rfl (by decide) (by decide) (Nat.le_of_ble_eq_true rfl) PS.rv ?_
        refine x_ifz_eq (tgt := 77) B dX3_abortWithFollowing_38 (by decide) (fun c38 => ?_) (fun c38 => ?_)
        · refine x_iinc B dX3_abortWithFollowing_77 rfl (by decide) ?_
          refine x_goto (tgt := 13) B dX3_abortWithFollowing_80 (by decide) ?_
          first
            | (rw [if_pos (by omega)] at he
               exact ih (i + 1) _ (n + 1) _ _ he (by omega) (by omega) (by omega) (s2 (by omega)) (xl_cons rfl (xl_cons rfl (xl_cons rfl (xl_cons rfl xl_nil)))))
            | (rw [if_neg (by omega)] at he
               exact ih (i + 1) _ n _ _ he (by omega) (by omega) (by omega) (s3 (by omega)) (xl_cons rfl (xl_cons rfl (xl_cons rfl (xl_cons rfl xl_nil)))))
        · refine x_aload_n B dX3_abortWithFollowing_41 rfl ?_
          refine x_get B fgX3_19 dX3_abortWithFollowing_42 (fun _ h => ⟨_, PS.o h, rfl⟩) ?_
          refine x_iload B dX3_abortWithFollowing_45 rfl ?_
          refine x_aald (j := 4) B dX3_abortWithFollowing_47 rfl (by omega) (by decide) (PS.ab (by omega)) ?_
          refine x_getI B fgX3_127 dX3_abortWithFollowing_48 (PS.gb5 (by omega)) (fun r48 => ?_)
          refine x_iconst B dX3_abortWithFollowing_51 ?_
          refine x_icmp_ne (tgt := 77) B dX3_abortWithFollowing_52 (by decide) (by omega) (by omega) (fun c52 => ?_) (fun c52 => ?_)
          · refine x_iinc B dX3_abortWithFollowing_77 rfl (by decide) ?_
            refine x_goto (tgt := 13) B dX3_abortWithFollowing_80 (by decide) ?_
            first
              | (rw [if_pos (by omega)] at he
                 exact ih (i + 1) _ (n + 1) _ _ he (by omega) (by omega) (by omega) (s2 (by omega)) (xl_cons rfl (xl_cons rfl (xl_cons rfl (xl_cons rfl xl_nil)))))
              | (rw [if_neg (by omega)] at he
                 exact ih (i + 1) _ n _ _ he (by omega) (by omega) (by omega) (s3 (by omega)) (xl_cons rfl (xl_cons rfl (xl_cons rfl (xl_cons rfl xl_nil)))))
          · refine x_aload_n B dX3_abortWithFollowing_55 rfl ?_
            refine x_get B fgX3_19 dX3_abortWithFollowing_56 (fun _ h => ⟨_, PS.o h, rfl⟩) ?_
            refine x_iload_n B dX3_abortWithFollowing_59 rfl ?_
            refine x_aald (j := 4) B dX3_abortWithFollowing_60 rfl (by omega) (by decide) (PS.ab (by omega)) ?_
            refine x_mZ B mvX3_168 (fun l => c_X0_isAtEnd (PS.ob (by omega)) hms (by omega)) dX3_abortWithFollowing_61 rfl rfl (by decide) (by decide) (Nat.le_of_ble_eq_true rfl) (PS.rvB (by omega)) ?_
            refine x_ifz_ne (tgt := 77) B dX3_abortWithFollowing_64 (by decide) (fun c64 => ?_) (fun c64 => ?_)
            · refine x_iinc B dX3_abortWithFollowing_77 rfl (by decide) ?_
              refine x_goto (tgt := 13) B dX3_abortWithFollowing_80 (by decide) ?_
              first
                | (rw [if_pos (by omega)] at he
                   exact ih (i + 1) _ (n + 1) _ _ he (by omega) (by omega) (by omega) (s2 (by omega)) (xl_cons rfl (xl_cons rfl (xl_cons rfl (xl_cons rfl xl_nil)))))
                | (rw [if_neg (by omega)] at he
                   exact ih (i + 1) _ n _ _ he (by omega) (by omega) (by omega) (s3 (by omega)) (xl_cons rfl (xl_cons rfl (xl_cons rfl (xl_cons rfl xl_nil)))))
            · refine x_aload_n B dX3_abortWithFollowing_67 rfl ?_
              refine x_iload_n B dX3_abortWithFollowing_68 rfl ?_
              refine x_iconst B dX3_abortWithFollowing_69 ?_
              refine x_iconst B dX3_abortWithFollowing_70 ?_
              refine x_mN B mvX3_162 (fun l => c_X3_bringToEnd (by omega) (by omega) (by omega) (by omega) (by omega)) dX3_abortWithFollowing_71 rfl rfl (by decide) (by decide) (Nat.le_of_ble_eq_true rfl) PS.rv ?_
              refine x_iinc B dX3_abortWithFollowing_74 rfl (by decide) ?_
              refine x_iinc B dX3_abortWithFollowing_77 rfl (by decide) ?_
              refine x_goto (tgt := 13) B dX3_abortWithFollowing_80 (by decide) ?_
              first
                | (rw [if_pos (by omega)] at he
                   exact ih (i + 1) _ (n + 1) _ _ he (by omega) (by omega) (by omega) (s2 (by omega)) (xl_cons rfl (xl_cons rfl (xl_cons rfl (xl_cons rfl xl_nil)))))
                | (rw [if_neg (by omega)] at he
                   exact ih (i + 1) _ n _ _ he (by omega) (by omega) (by omega) (s3 (by omega)) (xl_cons rfl (xl_cons rfl (xl_cons rfl (xl_cons rfl xl_nil)))))
  refine x_aload_n B dX3_abortWithFollowing_0 rfl ?_
  refine x_iload_n B dX3_abortWithFollowing_1 rfl ?_
  refine x_iconst B dX3_abortWithFollowing_2 ?_
  refine x_iconst B dX3_abortWithFollowing_3 ?_
  refine x_mN B mvX3_162 (fun l => c_X3_bringToEnd (by omega) (by omega) (by omega) (by omega) (by omega)) dX3_abortWithFollowing_4 rfl rfl (by decide) (by decide) (Nat.le_of_ble_eq_true rfl) PS.rv ?_
  refine x_iconst B dX3_abortWithFollowing_7 ?_
  refine x_istore_n B dX3_abortWithFollowing_8 (by decide) ?_
  refine x_iload_n B dX3_abortWithFollowing_9 rfl ?_
  refine x_iconst B dX3_abortWithFollowing_10 ?_
  refine x_iadd B dX3_abortWithFollowing_11 ?_
  refine x_istore_n B dX3_abortWithFollowing_12 (by decide) ?_
  exact loop (m 3 - (x + 1)).toNat (x + 1) z0 1 _ _ rfl (by omega) (by omega) (by omega) hJ0 (xl_cons rfl (xl_cons rfl (xl_cons rfl (xl_cons rfl xl_nil))))

/-! ===== the reference: copies, the history, the journal, releases ===== -/
/-- n numbers of f from sp on, laid into g from dp on -/
def cpyN (f g : Int → Int) (sp dp n : Int) : Int → Int := fun k => if dp ≤ k ∧ k < dp + n then f (sp + (k - dp)) else g k
theorem cpyN_0 (f g : Int → Int) (sp dp : Int) : cpyN f g sp dp 0 = g := by
  funext k
  unfold cpyN
  rw [if_neg (by omega)]
theorem cpyN_s {f g : Int → Int} {sp dp i : Int} (h : 0 ≤ i) : up (cpyN f g sp dp i) (dp + i) (f (sp + i)) = cpyN f g sp dp (i + 1) := by
  funext k
  unfold up cpyN
  by_cases h1 : k = dp + i
  · rw [if_pos h1, if_pos (by omega)]; congr 1; omega
  · rw [if_neg h1]
    by_cases h2 : dp ≤ k ∧ k < dp + i
    · rw [if_pos h2, if_pos (by omega)]
    · rw [if_neg h2, if_neg (by omega)]
theorem c_X7_bring {G : xG} {l : Launch} {Pg : (Int → Int) → Heap → Prop} {A : Nat → Prop} {fa ta nf nt : Nat} {f g : Int → Int} {x y : Int} (hf : ∀ g H, Pg g H → aat G 0 fa nf f H ∧ ∀ k, -2147483648 ≤ f k ∧ f k < 2147483648)
    (hw : ∀ g z v, (-2147483648 ≤ v ∧ v < 2147483648) → ∀ H, Pg g H → aat G 0 ta nt g H ∧ ∀ H1, aat G 0 ta nt (up g z v) H1 → H1.size = H.size → (∀ q, q ≠ ta → H1[q]? = H[q]?) → Pg (up g z v) H1) (hA : A ta) (h1 : 0 ≤ x ∧ x + 788 ≤ nf ∧ 0 ≤ y ∧ y + 788 ≤ nt) (h2 : nf ≤ 10000 ∧ nt ≤ 10000) : CT G l yX7_bring cX7_bring 5 none ({ frames := 0, cells := 0, slots := 0, locals := 0 } : Room) 0 0 [.ref fa, vi x, .ref ta, vi y] (Pg g) (pV (Pg (cpyN f g x y 788))) A := by
  refine x_met1 (own := RX7) (nm := "bring") (L := [(0, .ref fa), (1, vi x), (2, .ref ta), (3, vi y)]) (by decide) rfl rfl (fun _ => rfl) (Nat.le_of_ble_eq_true rfl) rfl rfl ?_
  intro Γ B R
  have loop : ∀ (n : Nat) (i : Int) (g' : Int → Int), g' = cpyN f g x y i → 0 ≤ i → i ≤ 788 → 788 - i < n → XJ Γ 0 0 (Pg g') 3 [(0, .ref fa), (1, vi x), (2, .ref ta), (3, vi y), (4, vi i)] [] := by
    intro n
    induction n with
    | zero => intro i g' _ _ _ _; omega
    | succ n ih =>
      intro i g' hg hi0 hi1 hn
      refine x_iload B dX7_bring_3 rfl ?_
      refine x_sipush B dX7_bring_5 (by decide) ?_
      refine x_icmp_ge (tgt := 29) B dX7_bring_8 (by decide) (by omega) (by omega) (fun c8 => ?_) (fun c8 => ?_)
      · have e : i = 788 := by omega
        subst e
        exact x_retV B R dX7_bring_29 (fun H h => by rw [← hg]; exact h)
      · refine x_aload_n B dX7_bring_11 rfl ?_
        refine x_iload_n B dX7_bring_12 rfl ?_
        refine x_iload B dX7_bring_13 rfl ?_
        refine x_iadd B dX7_bring_15 ?_
        refine x_aload_n B dX7_bring_16 rfl ?_
        refine x_iload_n B dX7_bring_17 rfl ?_
        refine x_iload B dX7_bring_18 rfl ?_
        refine x_iadd B dX7_bring_20 ?_
        refine x_ialdR B dX7_bring_21 (by omega) (by omega) (hf g') (fun r21 => ?_)
        refine x_iast B dX7_bring_22 (by omega) (by omega) hA (hw g' _ _ r21) ?_
        refine x_iinc B dX7_bring_23 rfl (by decide) ?_
        refine x_goto (tgt := 3) B dX7_bring_26 (by decide) ?_
        exact ih (i + 1) _ (by rw [hg, cpyN_s hi0]) (by omega) (by omega) (by omega)
  refine x_iconst B dX7_bring_0 ?_
  refine x_istore B dX7_bring_1 (by decide) ?_
  exact loop 789 0 g (cpyN_0 f g x y).symm (by omega) (by omega) (by omega)
def s_shift (f : Int → Int) (n : Int) : Int → Int := fun k => if 0 ≤ k ∧ k < n then f (k + 788) else f k
theorem s_shift_s {f : Int → Int} {i : Int} (h : 0 ≤ i) : up (s_shift f i) i (s_shift f i (i + 788)) = s_shift f (i + 1) := by
  funext k
  unfold up s_shift
  by_cases h1 : k = i
  · rw [if_pos h1, if_neg (by omega), if_pos (by omega), h1]
  · rw [if_neg h1]
    by_cases h2 : 0 ≤ k ∧ k < i
    · rw [if_pos h2, if_pos (by omega)]
    · rw [if_neg h2, if_neg (by omega)]
/-- the history behind a change -/
def s_keep (m : Int → Int) (ρ : Nat → Int → Int) : Nat → Int → Int :=
  if ρ 5 0 = 4 then ur ρ 1 (cpyN m (s_shift (ρ 1) 2364) 0 2364 788) else ur (ur ρ 1 (cpyN m (ρ 1) 0 (788 * ρ 5 0) 788)) 5 (up (ρ 5) 0 (ρ 5 0 + 1))
theorem keep_eq {ρ : Nat → Int → Int} {g X : Int → Int} (h4 : ρ 5 0 = 4) : ur ρ 1 X = ur (ur (ur (ur ρ 1 g) 5 (up (ρ 5) 0 3)) 1 X) 5 (up (up (ρ 5) 0 3) 0 4) := by
  funext j
  by_cases h5 : j = 5
  · subst h5
    rw [ur_eq, ur_ne (by decide)]
    funext k
    unfold up
    split
    · next h => rw [h]; exact h4
    · rfl
  · rw [ur_ne (j := j) h5]
    by_cases h1 : j = 1
    · subst h1
      rw [ur_eq, ur_eq]
    · rw [ur_ne h1, ur_ne h1, ur_ne h5, ur_ne h1]
theorem c_X7_keep {G : xG} {l : Launch} {b : Nat} {m : Int → Int} {ρ : Nat → Int → Int} (h1 : 0 ≤ ρ 5 0 ∧ ρ 5 0 ≤ 4) : CT G l yX7_keep cX7_keep 2 none ({ frames := 1, cells := 0, slots := 0, locals := 24 } : Room) 0 0 [.ref b] (PM G b m ρ) (pV (PM G b m (s_keep m ρ))) (AM b) := by
  refine x_met1 (own := RX7) (nm := "keep") (L := [(0, .ref b)]) (by decide) rfl rfl (fun _ => rfl) (Nat.le_of_ble_eq_true rfl) rfl rfl ?_
  intro Γ B R
  have tail : ∀ (ρ' : Nat → Int → Int), (0 ≤ ρ' 5 0 ∧ ρ' 5 0 ≤ 3) → s_keep m ρ = ur (ur ρ' 1 (cpyN m (ρ' 1) 0 (788 * ρ' 5 0) 788)) 5 (up (ρ' 5) 0 (ρ' 5 0 + 1)) → XJ Γ 0 0 (PM G b m ρ') 49 [(0, .ref b)] [] := by
    intro ρ' hc he
    refine x_aload_n B dX7_keep_49 rfl ?_
    refine x_get B fgX7_7 dX7_keep_50 (fun _ h => ⟨_, PM.o h, rfl⟩) ?_
    refine x_iconst B dX7_keep_53 ?_
    refine x_aload_n B dX7_keep_54 rfl ?_
    refine x_get B fgX7_16 dX7_keep_55 (fun _ h => ⟨_, PM.o h, rfl⟩) ?_
    refine x_sipush B dX7_keep_58 (by decide) ?_
    refine x_aload_n B dX7_keep_61 rfl ?_
    refine x_getI B fgX7_28 dX7_keep_62 PM.g3 (fun r62 => ?_)
    refine x_imul B dX7_keep_65 ?_
    refine x_us 1 ?_
    refine x_sN B msX7_32 (fun l => c_X7_bring (Pg := fun g => PM G b m (ur ρ' 1 g)) (nf := 788) (nt := 3152) (fun g H h => PM.am H h) (fun g z v hv => PM.t1 hv) (by unfold AM; omega) (by omega) (by omega) ) dX7_keep_66 rfl rfl (by decide) (by decide) (Nat.le_of_ble_eq_true rfl) ?_
    refine x_aload_n B dX7_keep_69 rfl ?_
    refine x_dup B dX7_keep_70 rfl ?_
    refine x_getI B fgX7_28 dX7_keep_71 PM.g3 (fun r71 => ?_)
    refine x_iconst B dX7_keep_74 ?_
    refine x_iadd B dX7_keep_75 ?_
    refine x_top (show _ = ρ' 5 0 + 1 from rfl) ?_
    refine x_put B fpX7_28 dX7_keep_76 rfl rfl (by unfold AM; omega) (PM.p3 (by omega)) ?_
    exact x_retV B R dX7_keep_79 (fun H h => by rw [he]; exact h)
  have loop : ∀ (n : Nat) (i : Int) (g' : Int → Int), ρ 5 0 = 4 → g' = s_shift (ρ 1) i → 0 ≤ i → i ≤ 2364 → 2364 - i < n → XJ Γ 0 0 (PM G b m (ur ρ 1 g')) 10 [(0, .ref b), (1, vi i)] [] := by
    intro n
    induction n with
    | zero => intro i g' _ _ _ _ _; omega
    | succ n ih =>
      intro i g' h4 hg hi0 hi1 hn
      have e5 : ur ρ 1 g' 5 = ρ 5 := rfl
      refine x_iload_n B dX7_keep_10 rfl ?_
      refine x_sipush B dX7_keep_11 (by decide) ?_
      refine x_icmp_ge (tgt := 39) B dX7_keep_14 (by decide) (by omega) (by omega) (fun c14 => ?_) (fun c14 => ?_)
      · refine x_aload_n B dX7_keep_39 rfl ?_
        refine x_dup B dX7_keep_40 rfl ?_
        refine x_getI B fgX7_28 dX7_keep_41 PM.g3 (fun r41 => ?_)
        refine x_iconst B dX7_keep_44 ?_
        refine x_isub B dX7_keep_45 ?_
        have e0 : ur ρ 1 g' 5 0 = 4 := h4
        refine x_top (y := 3) (by omega) ?_
        refine x_put B fpX7_28 dX7_keep_46 rfl rfl (by unfold AM; omega) (PM.p3 (by omega)) ?_
        refine x_locs (xl_cons rfl xl_nil) (tail _ (by simp [ur, up]) ?_)
        have hi : i = 2364 := by omega
        subst hi
        subst hg
        unfold s_keep
        rw [if_pos h4]
        exact keep_eq h4
      · refine x_aload_n B dX7_keep_17 rfl ?_
        refine x_get B fgX7_16 dX7_keep_18 (fun _ h => ⟨_, PM.o h, rfl⟩) ?_
        refine x_iload_n B dX7_keep_21 rfl ?_
        refine x_aload_n B dX7_keep_22 rfl ?_
        refine x_get B fgX7_16 dX7_keep_23 (fun _ h => ⟨_, PM.o h, rfl⟩) ?_
        refine x_iload_n B dX7_keep_26 rfl ?_
        refine x_sipush B dX7_keep_27 (by decide) ?_
        refine x_iadd B dX7_keep_30 ?_
        refine x_ialdR B dX7_keep_31 (by omega) (by decide) PM.b1 (fun r31 => ?_)
        refine x_iast B dX7_keep_32 (by omega) (by decide) (by unfold AM; omega) (PM.t1 (by omega)) ?_
        refine x_iinc B dX7_keep_33 rfl (by decide) ?_
        refine x_goto (tgt := 10) B dX7_keep_36 (by decide) ?_
        exact ih (i + 1) _ h4 (by rw [hg, s_shift_s hi0]) (by omega) (by omega) (by omega)
  refine x_aload_n B dX7_keep_0 rfl ?_
  refine x_getI B fgX7_28 dX7_keep_1 PM.g3 (fun r1 => ?_)
  refine x_iconst B dX7_keep_4 ?_
  refine x_icmp_ne (tgt := 49) B dX7_keep_5 (by decide) (by omega) (by omega) (fun c5 => ?_) (fun c5 => ?_)
  · have e5 : ρ 5 0 ≠ 4 := by omega
    exact tail ρ (by omega) (by unfold s_keep; rw [if_neg e5])
  · refine x_iconst B dX7_keep_8 ?_
    refine x_istore_n B dX7_keep_9 (by decide) ?_
    exact x_us 1 (loop 2365 0 _ (by omega) (by funext k; unfold s_shift; rw [if_neg (by omega)]) (by omega) (by omega) (by omega))
/-- a new event of the journal -/
def s_note (m : Int → Int) (b w : Int) : Int → Int := fun k =>
  if 668 ≤ k ∧ k < 788 then (if k = 668 then m 1 else if k = 669 then b else if k = 670 then w else m (k - 3)) else if k = 4 then (if m 4 = 40 then 40 else m 4 + 1) else m k
theorem c_X7_note {G : xG} {l : Launch} {b : Nat} {m : Int → Int} {ρ : Nat → Int → Int} {x w : Int} (h1 : -2147483648 ≤ x ∧ x < 2147483648) (h2 : -2147483648 ≤ w ∧ w < 2147483648) (h3 : 0 ≤ m 4 ∧ m 4 ≤ 40) : CT G l yX7_note cX7_note 4 none ({ frames := 0, cells := 0, slots := 0, locals := 0 } : Room) 0 0 [.ref b, vi x, vi w] (PM G b m ρ) (pV (PM G b (s_note m x w) ρ)) (AM b) := by
  refine x_met1 (own := RX7) (nm := "note") (L := [(0, .ref b), (1, vi x), (2, vi w)]) (by decide) rfl rfl (fun _ => rfl) (Nat.le_of_ble_eq_true rfl) rfl rfl ?_
  intro Γ B R
  have loop : ∀ (n : Nat) (i : Int) (m' : Int → Int), m' = (fun k => if 668 + i < k ∧ k < 788 then m (k - 3) else m k) → 2 ≤ i → i ≤ 119 → i < n → XJ Γ 0 0 (PM G b m' ρ) 3 [(0, .ref b), (1, vi x), (2, vi w), (3, vi i)] [] := by
    intro n
    induction n with
    | zero => intro i m' _ _ _ _; omega
    | succ n ih =>
      intro i m' hm hi0 hi1 hn
      refine x_iload_n B dX7_note_3 rfl ?_
      refine x_iconst B dX7_note_4 ?_
      refine x_icmp_le (tgt := 36) B dX7_note_5 (by decide) (by omega) (by omega) (fun c5 => ?_) (fun c5 => ?_)
      · have hi : i = 2 := by omega
        subst hi
        have e1 : m' 1 = m 1 := by rw [hm]; rfl
        have e4 : m' 4 = m 4 := by rw [hm]; rfl
        refine x_aload_n B dX7_note_36 rfl ?_
        refine x_get B fgX7_7 dX7_note_37 (fun _ h => ⟨_, PM.o h, rfl⟩) ?_
        refine x_sipush B dX7_note_40 (by decide) ?_
        refine x_aload_n B dX7_note_43 rfl ?_
        refine x_get B fgX7_7 dX7_note_44 (fun _ h => ⟨_, PM.o h, rfl⟩) ?_
        refine x_iconst B dX7_note_47 ?_
        refine x_ialdR B dX7_note_48 (by omega) (by decide) PM.am (fun r48 => ?_)
        refine x_iast B dX7_note_49 (by omega) (by decide) (by unfold AM; omega) (PM.sm (by omega)) ?_
        refine x_aload_n B dX7_note_50 rfl ?_
        refine x_get B fgX7_7 dX7_note_51 (fun _ h => ⟨_, PM.o h, rfl⟩) ?_
        refine x_sipush B dX7_note_54 (by decide) ?_
        refine x_iload_n B dX7_note_57 rfl ?_
        refine x_iast B dX7_note_58 (by omega) (by decide) (by unfold AM; omega) (PM.sm (by omega)) ?_
        refine x_aload_n B dX7_note_59 rfl ?_
        refine x_get B fgX7_7 dX7_note_60 (fun _ h => ⟨_, PM.o h, rfl⟩) ?_
        refine x_sipush B dX7_note_63 (by decide) ?_
        refine x_iload_n B dX7_note_66 rfl ?_
        refine x_iast B dX7_note_67 (by omega) (by decide) (by unfold AM; omega) (PM.sm (by omega)) ?_
        refine x_aload_n B dX7_note_68 rfl ?_
        refine x_get B fgX7_7 dX7_note_69 (fun _ h => ⟨_, PM.o h, rfl⟩) ?_
        refine x_iconst B dX7_note_72 ?_
        refine x_aload_n B dX7_note_73 rfl ?_
        refine x_get B fgX7_7 dX7_note_74 (fun _ h => ⟨_, PM.o h, rfl⟩) ?_
        refine x_iconst B dX7_note_77 ?_
        refine x_ialdR B dX7_note_78 (by omega) (by decide) PM.am (fun r78 => ?_)
        refine x_top (show _ = m 4 from e4) ?_
        refine x_bipush B dX7_note_79 (by decide) ?_
        refine x_icmp_ne (tgt := 89) B dX7_note_81 (by decide) (by omega) (by omega) (fun c81 => ?_) (fun c81 => ?_)
        · refine x_aload_n B dX7_note_89 rfl ?_
          refine x_get B fgX7_7 dX7_note_90 (fun _ h => ⟨_, PM.o h, rfl⟩) ?_
          refine x_iconst B dX7_note_93 ?_
          refine x_ialdR B dX7_note_94 (by omega) (by decide) PM.am (fun r94 => ?_)
          refine x_top (show _ = m 4 from e4) ?_
          refine x_iconst B dX7_note_95 ?_
          refine x_iadd B dX7_note_96 ?_
          refine x_iast B dX7_note_97 (by omega) (by decide) (by unfold AM; omega) (PM.sm (by omega)) ?_
          exact x_retV B R dX7_note_98 (fun H h => by refine cast (congrArg (fun f => PM G b f ρ H) ?_) h; funext k; rw [hm]; simp only [up, s_note]; (repeat' split) <;> first | rfl | omega)
        · refine x_bipush B dX7_note_84 (by decide) ?_
          refine x_goto (tgt := 97) B dX7_note_86 (by decide) ?_
          refine x_iast B dX7_note_97 (by omega) (by decide) (by unfold AM; omega) (PM.sm (by omega)) ?_
          exact x_retV B R dX7_note_98 (fun H h => by refine cast (congrArg (fun f => PM G b f ρ H) ?_) h; funext k; rw [hm]; simp only [up, s_note]; (repeat' split) <;> first | rfl | omega)
      · refine x_aload_n B dX7_note_8 rfl ?_
        refine x_get B fgX7_7 dX7_note_9 (fun _ h => ⟨_, PM.o h, rfl⟩) ?_
        refine x_sipush B dX7_note_12 (by decide) ?_
        refine x_iload_n B dX7_note_15 rfl ?_
        refine x_iadd B dX7_note_16 ?_
        refine x_aload_n B dX7_note_17 rfl ?_
        refine x_get B fgX7_7 dX7_note_18 (fun _ h => ⟨_, PM.o h, rfl⟩) ?_
        refine x_sipush B dX7_note_21 (by decide) ?_
        refine x_iload_n B dX7_note_24 rfl ?_
        refine x_iadd B dX7_note_25 ?_
        refine x_iconst B dX7_note_26 ?_
        refine x_isub B dX7_note_27 ?_
        refine x_ialdR B dX7_note_28 (by omega) (by decide) PM.am (fun r28 => ?_)
        refine x_iast B dX7_note_29 (by omega) (by decide) (by unfold AM; omega) (PM.sm (by omega)) ?_
        refine x_iinc B dX7_note_30 rfl (by decide) ?_
        refine x_goto (tgt := 3) B dX7_note_33 (by decide) ?_
        exact ih (i - 1) _ (by
        funext k
        rw [hm]
        simp only [up]
        by_cases h : k = 668 + i
        · rw [if_pos h, if_neg (by omega), if_pos (by omega), h]
        · rw [if_neg h]
          by_cases h2 : 668 + i < k ∧ k < 788
          · rw [if_pos h2, if_pos (by omega)]
          · rw [if_neg h2, if_neg (by omega)]) (by omega) (by omega) (by omega)
  refine x_bipush B dX7_note_0 (by decide) ?_
  refine x_istore_n B dX7_note_2 (by decide) ?_
  exact loop 120 119 _ (by funext k; rw [if_neg (by omega)]) (by omega) (by omega) (by omega)
/-- the first i pieces of shared equipment released, where b has them -/
def s_relS (m : Int → Int) (b i : Int) : Int → Int := fun k => if 53 ≤ k ∧ k < 53 + i ∧ m k = b then -1 else m k
theorem c_X7_releaseShared {G : xG} {l : Launch} {b : Nat} {m : Int → Int} {ρ : Nat → Int → Int} {x : Int} (h1 : -2147483648 ≤ x ∧ x < 2147483648) : CT G l yX7_releaseShared cX7_releaseShared 3 none ({ frames := 0, cells := 0, slots := 0, locals := 0 } : Room) 0 0 [.ref b, vi x] (PM G b m ρ) (pV (PM G b (s_relS m x 3) ρ)) (AM b) := by
  refine x_met1 (own := RX7) (nm := "releaseShared") (L := [(0, .ref b), (1, vi x)]) (by decide) rfl rfl (fun _ => rfl) (Nat.le_of_ble_eq_true rfl) rfl rfl ?_
  intro Γ B R
  have loop : ∀ (n : Nat) (i : Int) (m' : Int → Int), m' = s_relS m x i → 0 ≤ i → i ≤ 3 → 3 - i < n → XJ Γ 0 0 (PM G b m' ρ) 2 [(0, .ref b), (1, vi x), (2, vi i)] [] := by
    intro n
    induction n with
    | zero => intro i m' _ _ _ _; omega
    | succ n ih =>
      intro i m' hm hi0 hi1 hn
      have e : m' (53 + i) = m (53 + i) := by rw [hm]; unfold s_relS; rw [if_neg (by omega)]
      refine x_iload_n B dX7_releaseShared_2 rfl ?_
      refine x_iconst B dX7_releaseShared_3 ?_
      refine x_icmp_ge (tgt := 48) B dX7_releaseShared_4 (by decide) (by omega) (by omega) (fun c4 => ?_) (fun c4 => ?_)
      · exact x_retV B R dX7_releaseShared_48 (fun H h => by rw [hm, show i = 3 by omega] at h; exact h)
      · refine x_aload_n B dX7_releaseShared_7 rfl ?_
        refine x_get B fgX7_7 dX7_releaseShared_8 (fun _ h => ⟨_, PM.o h, rfl⟩) ?_
        refine x_bipush B dX7_releaseShared_11 (by decide) ?_
        refine x_iload_n B dX7_releaseShared_13 rfl ?_
        refine x_iadd B dX7_releaseShared_14 ?_
        refine x_aload_n B dX7_releaseShared_15 rfl ?_
        refine x_get B fgX7_7 dX7_releaseShared_16 (fun _ h => ⟨_, PM.o h, rfl⟩) ?_
        refine x_bipush B dX7_releaseShared_19 (by decide) ?_
        refine x_iload_n B dX7_releaseShared_21 rfl ?_
        refine x_iadd B dX7_releaseShared_22 ?_
        refine x_ialdR B dX7_releaseShared_23 (by omega) (by decide) PM.am (fun r23 => ?_)
        refine x_iload_n B dX7_releaseShared_24 rfl ?_
        refine x_icmp_ne (tgt := 32) B dX7_releaseShared_25 (by decide) (by omega) (by omega) (fun c25 => ?_) (fun c25 => ?_)
        · refine x_aload_n B dX7_releaseShared_32 rfl ?_
          refine x_get B fgX7_7 dX7_releaseShared_33 (fun _ h => ⟨_, PM.o h, rfl⟩) ?_
          refine x_bipush B dX7_releaseShared_36 (by decide) ?_
          refine x_iload_n B dX7_releaseShared_38 rfl ?_
          refine x_iadd B dX7_releaseShared_39 ?_
          refine x_ialdR B dX7_releaseShared_40 (by omega) (by decide) PM.am (fun r40 => ?_)
          refine x_iast B dX7_releaseShared_41 (by omega) (by decide) (by unfold AM; omega) (PM.sm (by omega)) ?_
          refine x_iinc B dX7_releaseShared_42 rfl (by decide) ?_
          refine x_goto (tgt := 2) B dX7_releaseShared_45 (by decide) ?_
          exact ih (i + 1) _ (by
          funext k
          rw [hm] at *
          simp only [up, s_relS] at *
          by_cases h : k = 53 + i
          · subst h; (repeat' split) <;> omega
          · rw [if_neg h]; (repeat' split) <;> omega) (by omega) (by omega) (by omega)
        · refine x_iconst B dX7_releaseShared_28 ?_
          refine x_goto (tgt := 41) B dX7_releaseShared_29 (by decide) ?_
          refine x_iast B dX7_releaseShared_41 (by omega) (by decide) (by unfold AM; omega) (PM.sm (by omega)) ?_
          refine x_iinc B dX7_releaseShared_42 rfl (by decide) ?_
          refine x_goto (tgt := 2) B dX7_releaseShared_45 (by decide) ?_
          exact ih (i + 1) _ (by
          funext k
          rw [hm] at *
          simp only [up, s_relS] at *
          by_cases h : k = 53 + i
          · subst h; (repeat' split) <;> omega
          · rw [if_neg h]; (repeat' split) <;> omega) (by omega) (by omega) (by omega)
  refine x_iconst B dX7_releaseShared_0 ?_
  refine x_istore_n B dX7_releaseShared_1 (by decide) ?_
  exact loop 4 0 _ (by funext k; unfold s_relS; rw [if_neg (by omega)]) (by omega) (by omega) (by omega)
theorem s_relS_ne {m : Int → Int} {b i k : Int} (h : k < 53 ∨ 53 + i ≤ k) : s_relS m b i k = m k := by
  unfold s_relS
  rw [if_neg (by omega)]
def s_relU (m : Int → Int) (b : Int) : Int → Int :=
  let u := m (548 + 10 * b + 8)
  if u = -1 then m else
    let m1 := up m (5 + 6 * u + 2) (-1)
    up (up m1 (5 + 6 * u + 4) (m1 0)) (548 + 10 * b + 8) (-1)
theorem c_X7_releaseUnit {G : xG} {l : Launch} {b : Nat} {m : Int → Int} {ρ : Nat → Int → Int} {x : Int} (h1 : 0 ≤ x ∧ x < 12) (h2 : -1 ≤ m (548 + 10 * x + 8) ∧ m (548 + 10 * x + 8) < 8) : CT G l yX7_releaseUnit cX7_releaseUnit 3 none ({ frames := 1, cells := 0, slots := 0, locals := 23 } : Room) 0 0 [.ref b, vi x] (PM G b m ρ) (pV (PM G b (s_relU m x) ρ)) (AM b) := by
  refine x_met1 (own := RX7) (nm := "releaseUnit") (L := [(0, .ref b), (1, vi x)]) (by decide) rfl rfl (fun _ => rfl) (Nat.le_of_ble_eq_true rfl) rfl rfl ?_
  intro Γ B R
  refine x_aload_n B dX7_releaseUnit_0 rfl ?_
  refine x_iload_n B dX7_releaseUnit_1 rfl ?_
  refine x_bipush B dX7_releaseUnit_2 (by decide) ?_
  refine x_mV B mvX7_40 (fun l => c_X7_of (by omega)) dX7_releaseUnit_4 rfl rfl (by decide) (by decide) (Nat.le_of_ble_eq_true rfl) PM.rv (fun r4 => ?_)
  refine x_istore_n B dX7_releaseUnit_7 (by decide) ?_
  refine x_iload_n B dX7_releaseUnit_8 rfl ?_
  refine x_iconst B dX7_releaseUnit_9 ?_
  refine x_icmp_eq (tgt := 40) B dX7_releaseUnit_10 (by decide) (by omega) (by omega) (fun c10 => ?_) (fun c10 => ?_)
  · exact x_retV B R dX7_releaseUnit_40 (fun H h => by simp only [s_relU]; first | (rw [if_pos (by omega)]; exact h) | (rw [if_neg (by omega)]; exact h))
  · refine x_aload_n B dX7_releaseUnit_13 rfl ?_
    refine x_iload_n B dX7_releaseUnit_14 rfl ?_
    refine x_iconst B dX7_releaseUnit_15 ?_
    refine x_iconst B dX7_releaseUnit_16 ?_
    refine x_mN B mvX7_47 (fun l => c_X7_putUnit (by omega) (by omega)) dX7_releaseUnit_17 rfl rfl (by decide) (by decide) (Nat.le_of_ble_eq_true rfl) PM.rv ?_
    refine x_aload_n B dX7_releaseUnit_20 rfl ?_
    refine x_iload_n B dX7_releaseUnit_21 rfl ?_
    refine x_iconst B dX7_releaseUnit_22 ?_
    refine x_aload_n B dX7_releaseUnit_23 rfl ?_
    refine x_get B fgX7_7 dX7_releaseUnit_24 (fun _ h => ⟨_, PM.o h, rfl⟩) ?_
    refine x_iconst B dX7_releaseUnit_27 ?_
    refine x_ialdR B dX7_releaseUnit_28 (by omega) (by decide) PM.am (fun r28 => ?_)
    refine x_mN B mvX7_47 (fun l => c_X7_putUnit (by omega) (by omega)) dX7_releaseUnit_29 rfl rfl (by decide) (by decide) (Nat.le_of_ble_eq_true rfl) PM.rv ?_
    refine x_aload_n B dX7_releaseUnit_32 rfl ?_
    refine x_iload_n B dX7_releaseUnit_33 rfl ?_
    refine x_bipush B dX7_releaseUnit_34 (by decide) ?_
    refine x_iconst B dX7_releaseUnit_36 ?_
    refine x_mN B mvX7_54 (fun l => c_X7_put (by omega) (by omega)) dX7_releaseUnit_37 rfl rfl (by decide) (by decide) (Nat.le_of_ble_eq_true rfl) PM.rv ?_
    exact x_retV B R dX7_releaseUnit_40 (fun H h => by simp only [s_relU]; first | (rw [if_pos (by omega)]; exact h) | (rw [if_neg (by omega)]; exact h))
def s_endsBy (m : Int → Int) (b st w : Int) : Int → Int := s_note (up (s_relU (s_relS m b 3) b) (548 + 10 * b + 5) st) b w
theorem s_relU_4 (m : Int → Int) (b : Int) (hb : 0 ≤ b ∧ b < 12) (h : -1 ≤ m (548 + 10 * b + 8) ∧ m (548 + 10 * b + 8) < 8) : s_relU m b 4 = m 4 := by
  simp only [s_relU]
  split
  · rfl
  · unfold up
    rw [if_neg (by omega), if_neg (by omega), if_neg (by omega)]
theorem c_X7_endsBy {G : xG} {l : Launch} {b : Nat} {m : Int → Int} {ρ : Nat → Int → Int} {x st w : Int} (h1 : 0 ≤ x ∧ x < 12) (h2 : -1 ≤ m (548 + 10 * x + 8) ∧ m (548 + 10 * x + 8) < 8) (h3 : -2147483648 ≤ st ∧ st < 2147483648) (h4 : -2147483648 ≤ w ∧ w < 2147483648) (h5 : 0 ≤ m 4 ∧ m 4 ≤ 40) : CT G l yX7_endsBy cX7_endsBy 4 none ({ frames := 2, cells := 0, slots := 0, locals := 45 } : Room) 0 0 [.ref b, vi x, vi st, vi w] (PM G b m ρ) (pV (PM G b (s_endsBy m x st w) ρ)) (AM b) := by
  refine x_met1 (own := RX7) (nm := "endsBy") (L := [(0, .ref b), (1, vi x), (2, vi st), (3, vi w)]) (by decide) rfl rfl (fun _ => rfl) (Nat.le_of_ble_eq_true rfl) rfl rfl ?_
  intro Γ B R
  have e8 : s_relS m x 3 (548 + 10 * x + 8) = m (548 + 10 * x + 8) := s_relS_ne (by omega)
  have e4 : (up (s_relU (s_relS m x 3) x) (548 + 10 * x + 5) st) 4 = m 4 := by
    rw [up_ne (by omega), s_relU_4 _ _ h1 (by omega), s_relS_ne (by omega)]
  refine x_aload_n B dX7_endsBy_0 rfl ?_
  refine x_iload_n B dX7_endsBy_1 rfl ?_
  refine x_mN B mvX7_57 (fun l => c_X7_releaseShared (by omega)) dX7_endsBy_2 rfl rfl (by decide) (by decide) (Nat.le_of_ble_eq_true rfl) PM.rv ?_
  refine x_aload_n B dX7_endsBy_5 rfl ?_
  refine x_iload_n B dX7_endsBy_6 rfl ?_
  refine x_mN B mvX7_61 (fun l => c_X7_releaseUnit (by omega) (by omega)) dX7_endsBy_7 rfl rfl (by decide) (by decide) (Nat.le_of_ble_eq_true rfl) PM.rv ?_
  refine x_aload_n B dX7_endsBy_10 rfl ?_
  refine x_iload_n B dX7_endsBy_11 rfl ?_
  refine x_iconst B dX7_endsBy_12 ?_
  refine x_iload_n B dX7_endsBy_13 rfl ?_
  refine x_mN B mvX7_54 (fun l => c_X7_put (by omega) (by omega)) dX7_endsBy_14 rfl rfl (by decide) (by decide) (Nat.le_of_ble_eq_true rfl) PM.rv ?_
  refine x_aload_n B dX7_endsBy_17 rfl ?_
  refine x_iload_n B dX7_endsBy_18 rfl ?_
  refine x_iload_n B dX7_endsBy_19 rfl ?_
  refine x_mN B mvX7_64 (fun l => c_X7_note (by omega) (by omega) (by omega)) dX7_endsBy_20 rfl rfl (by decide) (by decide) (Nat.le_of_ble_eq_true rfl) PM.rv ?_
  exact x_retV B R dX7_endsBy_23 (fun H h => by exact h)
def s_holds (m : Int → Int) (b : Int) : Int → Int := s_note (up (s_relS m b 3) (548 + 10 * b + 5) 2) b 2
theorem c_X7_holds {G : xG} {l : Launch} {b : Nat} {m : Int → Int} {ρ : Nat → Int → Int} {x : Int} (h1 : 0 ≤ x ∧ x < 12) (h5 : 0 ≤ m 4 ∧ m 4 ≤ 40) : CT G l yX7_holds cX7_holds 2 none ({ frames := 1, cells := 0, slots := 0, locals := 23 } : Room) 0 0 [.ref b, vi x] (PM G b m ρ) (pV (PM G b (s_holds m x) ρ)) (AM b) := by
  refine x_met1 (own := RX7) (nm := "holds") (L := [(0, .ref b), (1, vi x)]) (by decide) rfl rfl (fun _ => rfl) (Nat.le_of_ble_eq_true rfl) rfl rfl ?_
  intro Γ B R
  have e4 : (up (s_relS m x 3) (548 + 10 * x + 5) 2) 4 = m 4 := by
    rw [up_ne (by omega), s_relS_ne (by omega)]
  refine x_aload_n B dX7_holds_0 rfl ?_
  refine x_iload_n B dX7_holds_1 rfl ?_
  refine x_mN B mvX7_57 (fun l => c_X7_releaseShared (by omega)) dX7_holds_2 rfl rfl (by decide) (by decide) (Nat.le_of_ble_eq_true rfl) PM.rv ?_
  refine x_aload_n B dX7_holds_5 rfl ?_
  refine x_iload_n B dX7_holds_6 rfl ?_
  refine x_iconst B dX7_holds_7 ?_
  refine x_iconst B dX7_holds_8 ?_
  refine x_mN B mvX7_54 (fun l => c_X7_put (by omega) (by omega)) dX7_holds_9 rfl rfl (by decide) (by decide) (Nat.le_of_ble_eq_true rfl) PM.rv ?_
  refine x_aload_n B dX7_holds_12 rfl ?_
  refine x_iload_n B dX7_holds_13 rfl ?_
  refine x_iconst B dX7_holds_14 ?_
  refine x_mN B mvX7_64 (fun l => c_X7_note (by omega) (by omega) (by omega)) dX7_holds_15 rfl rfl (by decide) (by decide) (Nat.le_of_ble_eq_true rfl) PM.rv ?_
  exact x_retV B R dX7_holds_18 (fun H h => by exact h)

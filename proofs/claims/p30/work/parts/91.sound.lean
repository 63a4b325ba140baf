/-! ===== the law's look at who has what ===== -/
def snB (m : Int → Int) (u : Int) : Int := sumU m 3 u.toNat
def snF (m : Int → Int) (u : Int) : Int := cntP (fun u => m (5 + 6 * u + 2) = -1 ∧ m (5 + 6 * u + 3) = 0 ∧ m (5 + 6 * u + 4) = 0) u.toNat
def snW (m : Int → Int) (u : Int) : Int := sumU m 5 u.toNat
def snC (m : Int → Int) (st b : Int) : Int := cntB m st b.toNat
def snO (m : Int → Int) (b : Int) : Int := cntP (fun b => m (548 + 10 * b + 5) = 1 ∨ m (548 + 10 * b + 5) = 3) b.toNat
def snTn (m : Int → Int) : Nat → Int
  | 0 => 0
  | k + 1 => snTn m k + cn m (4 + (k : Int))
def snT (m : Int → Int) (st : Int) : Int := snTn m st.toNat
section SND0
variable {m : Int → Int} {ρ : Nat → Int → Int} {u b st : Int}
theorem snB_s (h : 0 ≤ u) : snB m (u + 1) = snB m u + ui m u 3 := by
  unfold snB
  rw [sumU_s h, ui_w (by omega)]
theorem snW_s (h : 0 ≤ u) : snW m (u + 1) = snW m u + ui m u 5 := by
  unfold snW
  rw [sumU_s h, ui_w (by omega)]
theorem snF_s (h : 0 ≤ u) : snF m (u + 1) = snF m u + ui m u 6 := by
  unfold snF
  rw [cntP_s h, ui_6]
theorem snC_s (h : 0 ≤ b) : snC m st (b + 1) = snC m st b + (if bi m b 5 = st then 1 else 0) := by
  unfold snC
  rw [cntB_s h, bi_w (by omega)]
theorem snO_s (h : 0 ≤ b) : snO m (b + 1) = snO m b + (if bi m b 5 = 1 ∨ bi m b 5 = 3 then 1 else 0) := by
  unfold snO
  rw [cntP_s h, bi_w (by omega)]
theorem snT_s (h : 0 ≤ st) : snT m (st + 1) = snT m st + cn m (4 + st) := by
  unfold snT
  rw [show (st + 1).toNat = st.toNat + 1 by omega, snTn, show ((st.toNat : Nat) : Int) = st by omega]
theorem snC_e (h : 0 ≤ st ∧ st ≤ 6) : snC m st (m 3) = cn m (4 + st) := by
  unfold snC
  rw [cn_s (by omega), show 4 + st - 4 = st by omega]
theorem cnt_all (h : ∀ b, 0 ≤ b → b < m 3 → 0 ≤ m (548 + 10 * b + 5) ∧ m (548 + 10 * b + 5) ≤ 6) : ∀ n : Nat, (n : Int) ≤ m 3 → cntB m 0 n + cntB m 1 n + cntB m 2 n + cntB m 3 n + cntB m 4 n + cntB m 5 n + cntB m 6 n = n
  | 0, _ => rfl
  | n + 1, hn => by
    have ih := cnt_all h n (by omega)
    have hs := h n (by omega) (by omega)
    unfold cntB
    have c : m (548 + 10 * (n : Int) + 5) = 0 ∨ m (548 + 10 * (n : Int) + 5) = 1 ∨ m (548 + 10 * (n : Int) + 5) = 2 ∨ m (548 + 10 * (n : Int) + 5) = 3 ∨ m (548 + 10 * (n : Int) + 5) = 4 ∨ m (548 + 10 * (n : Int) + 5) = 5 ∨ m (548 + 10 * (n : Int) + 5) = 6 := by omega
    rcases c with c | c | c | c | c | c | c <;> rw [c] <;> simp <;> omega
theorem snT_7 (hI : IL m ρ) : snT m 7 = m 3 := by
  have hb := hI.b
  have h := cnt_all (m := m) (fun b b0 b1 => by
    have := (Iv_iff.mp hI.1).1.b b0 b1
    unfold okB0 at this
    omega) (m 3).toNat (by omega)
  have e : snT m 7 = 0 + cn m (4 + 0) + cn m (4 + 1) + cn m (4 + 2) + cn m (4 + 3) + cn m (4 + 4) + cn m (4 + 5) + cn m (4 + 6) := rfl
  rw [e, cn_s (by omega), cn_s (by omega), cn_s (by omega), cn_s (by omega), cn_s (by omega), cn_s (by omega), cn_s (by omega)]
  have e0 : ∀ k : Int, 4 + k - 4 = k := fun k => by omega
  rw [e0, e0, e0, e0, e0, e0, e0]
  omega
theorem snO_r : 0 ≤ snO m b ∧ snO m b ≤ b.toNat := by
  unfold snO
  exact cntP_rg _ _
end SND0
section SND
variable {Γ : xE} {G : xG} {e : Nat} {m : Int → Int} {ρ : Nat → Int → Int}
theorem snd_5 (B : XB Γ G cL_sound RL 18 ({ frames := 5, cells := 0, slots := 0, locals := 115 } : Room) (AE e)) (R : XR Γ "sound" (some .boolean) 0 0 (xQ (pZ True (PE G e m ρ)) (AE e))) (ho : OK m ρ) : XJ Γ 0 0 (PE G e m ρ) 844 [(0, .ref e), (1, vi (m 2)), (2, vi (m 3)), (3, vi (cn m 1)), (4, vi (cn m 2)), (5, vi (cn m 16)), (6, vi (m 3)), (7, vi (snO m (m 3)))] [] := by
  have hI := ho.I
  have hb := hI.b
  have hr := snO_r (m := m) (b := m 3)
  obtain ⟨f1, f2⟩ := fo_n (m := m) (n := snO m (m 3)) rfl
  have hsum : 0 ≤ cn m 1 ∧ cn m 1 < 2147483648 ∧ 0 ≤ cn m 2 ∧ cn m 2 < 2147483648 ∧ 0 ≤ cn m 16 ∧ cn m 16 < 2147483648 := by
    have g1 := sumU_rg hI.1 3 (Or.inl rfl) (m 2).toNat (by omega)
    have g2 := sumU_rg hI.1 5 (Or.inr rfl) (m 2).toNat (by omega)
    have g3 := cntP_rg (fun u => m (5 + 6 * u + 2) = -1 ∧ m (5 + 6 * u + 3) = 0 ∧ m (5 + 6 * u + 4) = 0) (m 2).toNat
    have g4 := g2.2.2 rfl
    have g5 : 12 * m 1 * ((m 2).toNat : Int) ≤ 12 * m 1 * 8 := Int.mul_le_mul_of_nonneg_left (by omega) (by omega)
    rw [cn_1, cn_2, cn_16]
    have g6 := g1.2.1 rfl
    omega
  refine x_iload B dL_sound_844 rfl ?_
  refine x_iload_n B dL_sound_846 rfl ?_
  refine x_icmp_ne (tgt := 911) B dL_sound_847 (by decide) (by first | assumption | omega) (by first | assumption | omega) (fun c847 => ?_) (fun c847 => ?_)
  · exfalso; omega
  · refine x_aload_n B dL_sound_850 rfl ?_
    refine x_iconst B dL_sound_851 ?_
    refine x_qd B mvL_9 (q_count (by first | assumption | omega) (by first | assumption | omega)) dL_sound_852 rfl rfl (by decide) (by decide) (Nat.le_of_ble_eq_true rfl) (fun _ h => h) (fun r852 => ?_)
    refine x_iload_n B dL_sound_855 rfl ?_
    refine x_icmp_ne (tgt := 911) B dL_sound_856 (by decide) (by first | assumption | omega) (by first | assumption | omega) (fun c856 => ?_) (fun c856 => ?_)
    · exfalso; omega
    · refine x_aload_n B dL_sound_859 rfl ?_
      refine x_iconst B dL_sound_860 ?_
      refine x_qd B mvL_9 (q_count (by first | assumption | omega) (by first | assumption | omega)) dL_sound_861 rfl rfl (by decide) (by decide) (Nat.le_of_ble_eq_true rfl) (fun _ h => h) (fun r861 => ?_)
      refine x_iload B dL_sound_864 rfl ?_
      refine x_icmp_ne (tgt := 911) B dL_sound_866 (by decide) (by first | assumption | omega) (by first | assumption | omega) (fun c866 => ?_) (fun c866 => ?_)
      · exfalso; omega
      · refine x_aload_n B dL_sound_869 rfl ?_
        refine x_bipush B dL_sound_870 (by decide) ?_
        refine x_qd B mvL_9 (q_count (by first | assumption | omega) (by first | assumption | omega)) dL_sound_872 rfl rfl (by decide) (by decide) (Nat.le_of_ble_eq_true rfl) (fun _ h => h) (fun r872 => ?_)
        refine x_iload B dL_sound_875 rfl ?_
        refine x_icmp_ne (tgt := 911) B dL_sound_877 (by decide) (by first | assumption | omega) (by first | assumption | omega) (fun c877 => ?_) (fun c877 => ?_)
        · exfalso; omega
        · refine x_aload_n B dL_sound_880 rfl ?_
          refine x_iload B dL_sound_881 rfl ?_
          refine x_qd B mvL_37 (q_inOrder (by first | assumption | omega) (by first | assumption | omega)) dL_sound_883 rfl rfl (by decide) (by decide) (Nat.le_of_ble_eq_true rfl) (fun _ h => h) (fun r883 => ?_)
          refine x_bipush B dL_sound_886 (by decide) ?_
          refine x_icmp_ne (tgt := 911) B dL_sound_888 (by decide) (by first | assumption | omega) (by first | assumption | omega) (fun c888 => ?_) (fun c888 => ?_)
          · exfalso; omega
          · refine x_iload B dL_sound_891 rfl ?_
            refine x_if_eq (tgt := 907) B dL_sound_893 (by decide) (by first | assumption | omega) (fun c893 => ?_) (fun c893 => ?_)
            · refine x_iconst B dL_sound_907 ?_
              refine x_goto (tgt := 912) B dL_sound_908 (by decide) ?_
              exact x_bret B R dL_sound_912 rfl
            · refine x_aload_n B dL_sound_896 rfl ?_
              refine x_iload B dL_sound_897 rfl ?_
              refine x_iconst B dL_sound_899 ?_
              refine x_isub B dL_sound_900 ?_
              refine x_qd B mvL_37 (q_inOrder (by first | assumption | omega) (by first | assumption | omega)) dL_sound_901 rfl rfl (by decide) (by decide) (Nat.le_of_ble_eq_true rfl) (fun _ h => h) (fun r901 => ?_)
              refine x_if_lt (tgt := 911) B dL_sound_904 (by decide) (by first | assumption | omega) (fun c904 => ?_) (fun c904 => ?_)
              · exfalso; omega
              · refine x_iconst B dL_sound_907 ?_
                refine x_goto (tgt := 912) B dL_sound_908 (by decide) ?_
                exact x_bret B R dL_sound_912 rfl
theorem snd_4 (B : XB Γ G cL_sound RL 18 ({ frames := 5, cells := 0, slots := 0, locals := 115 } : Room) (AE e)) (R : XR Γ "sound" (some .boolean) 0 0 (xQ (pZ True (PE G e m ρ)) (AE e))) (ho : OK m ρ) : ∀ (n : Nat) (k : Int), 0 ≤ k → k ≤ 3 → 3 - k < n → XJ Γ 0 0 (PE G e m ρ) 748 [(0, .ref e), (1, vi (m 2)), (2, vi (m 3)), (3, vi (cn m 1)), (4, vi (cn m 2)), (5, vi (cn m 16)), (6, vi (m 3)), (7, vi (snO m (m 3))), (8, vi k)] [] := by
  have hI := ho.I
  have hb := hI.b
  intro n
  induction n with
  | zero => intro k _ _ _; omega
  | succ n ih =>
    intro k k0 k1 kn
    refine x_iload B dL_sound_748 rfl ?_
    refine x_iconst B dL_sound_750 ?_
    refine x_icmp_ge (tgt := 844) B dL_sound_751 (by decide) (by first | assumption | omega) (by first | assumption | omega) (fun c751 => ?_) (fun c751 => ?_)
    · refine x_locs (L' := [(0, .ref e), (1, vi (m 2)), (2, vi (m 3)), (3, vi (cn m 1)), (4, vi (cn m 2)), (5, vi (cn m 16)), (6, vi (m 3)), (7, vi (snO m (m 3)))]) (xl_cons (rfl) (xl_cons (rfl) (xl_cons (rfl) (xl_cons (rfl) (xl_cons (rfl) (xl_cons (rfl) (xl_cons (rfl) (xl_cons (rfl) xl_nil)))))))) ?_
      exact snd_5 B R ho
      skip
    · have f := fh hI ho.Q (k := k) k0 (by omega)
      have f2 : hi m k = -4 ∨ ((0 ≤ bi m (hi m k) 0 ∧ bi m (hi m k) 0 < 6) ∧ (1 ≤ bi m (hi m k) 1 ∧ bi m (hi m k) 1 ≤ vr m (bi m (hi m k) 0)) ∧ (0 ≤ bi m (hi m k) 6 ∧ bi m (hi m k) 6 < 8)) := by
        rcases f with f | f
        · exact Or.inl f
        · right
          have g := fb hI ho.Q f.1.1 f.1.2
          exact ⟨g.1.1, g.1.2.1, by omega⟩
      refine x_aload_n B dL_sound_754 rfl ?_
      refine x_iload B dL_sound_755 rfl ?_
      refine x_qd B mvL_34 (q_shared (by first | assumption | omega) (by first | assumption | omega)) dL_sound_757 rfl rfl (by decide) (by decide) (Nat.le_of_ble_eq_true rfl) (fun _ h => h) (fun r757 => ?_)
      refine x_istore B dL_sound_760 (by decide) ?_
      refine x_iload B dL_sound_762 rfl ?_
      refine x_bipush B dL_sound_764 (by decide) ?_
      refine x_icmp_eq (tgt := 838) B dL_sound_766 (by decide) (by first | assumption | omega) (by first | assumption | omega) (fun c766 => ?_) (fun c766 => ?_)
      · refine x_iinc B dL_sound_838 rfl (by decide) ?_
        refine x_goto (tgt := 748) B dL_sound_841 (by decide) ?_
        refine x_locs (L' := [(0, .ref e), (1, vi (m 2)), (2, vi (m 3)), (3, vi (cn m 1)), (4, vi (cn m 2)), (5, vi (cn m 16)), (6, vi (m 3)), (7, vi (snO m (m 3))), (8, vi (k + 1))]) (xl_cons (rfl) (xl_cons (rfl) (xl_cons (rfl) (xl_cons (rfl) (xl_cons (rfl) (xl_cons (rfl) (xl_cons (rfl) (xl_cons (rfl) (xl_cons (rfl) xl_nil))))))))) ?_
        exact ih (k + 1) (by omega) (by omega) (by omega)
      · refine x_cut0 791 (hi m k ≠ -4) (fun K791 => ?_) (fun h791 => ?_)
        · refine x_aload_n B dL_sound_769 rfl ?_
          refine x_iload B dL_sound_770 rfl ?_
          refine x_iconst B dL_sound_772 ?_
          refine x_qd B mvL_21 (q_batchInfo (by first | assumption | omega) (by first | assumption | omega) (by first | assumption | omega)) dL_sound_773 rfl rfl (by decide) (by decide) (Nat.le_of_ble_eq_true rfl) (fun _ h => h) (fun r773 => ?_)
          refine x_iconst B dL_sound_776 ?_
          refine x_icmp_eq (tgt := 791) B dL_sound_777 (by decide) (by first | assumption | omega) (by first | assumption | omega) (fun c777 => ?_) (fun c777 => ?_)
          · exact K791 (by omega)
          · refine x_aload_n B dL_sound_780 rfl ?_
            refine x_iload B dL_sound_781 rfl ?_
            refine x_iconst B dL_sound_783 ?_
            refine x_qd B mvL_21 (q_batchInfo (by first | assumption | omega) (by first | assumption | omega) (by first | assumption | omega)) dL_sound_784 rfl rfl (by decide) (by decide) (Nat.le_of_ble_eq_true rfl) (fun _ h => h) (fun r784 => ?_)
            refine x_iconst B dL_sound_787 ?_
            refine x_icmp_ne (tgt := 836) B dL_sound_788 (by decide) (by first | assumption | omega) (by first | assumption | omega) (fun c788 => ?_) (fun c788 => ?_)
            · exfalso; omega
            · exact K791 (by omega)
        · refine x_aload_n B dL_sound_791 rfl ?_
          refine x_aload_n B dL_sound_792 rfl ?_
          refine x_iload B dL_sound_793 rfl ?_
          refine x_iconst B dL_sound_795 ?_
          refine x_qd B mvL_21 (q_batchInfo (by first | assumption | omega) (by first | assumption | omega) (by first | assumption | omega)) dL_sound_796 rfl rfl (by decide) (by decide) (Nat.le_of_ble_eq_true rfl) (fun _ h => h) (fun r796 => ?_)
          refine x_aload_n B dL_sound_799 rfl ?_
          refine x_iload B dL_sound_800 rfl ?_
          refine x_iconst B dL_sound_802 ?_
          refine x_qd B mvL_21 (q_batchInfo (by first | assumption | omega) (by first | assumption | omega) (by first | assumption | omega)) dL_sound_803 rfl rfl (by decide) (by decide) (Nat.le_of_ble_eq_true rfl) (fun _ h => h) (fun r803 => ?_)
          refine x_aload_n B dL_sound_806 rfl ?_
          refine x_iload B dL_sound_807 rfl ?_
          refine x_bipush B dL_sound_809 (by decide) ?_
          refine x_qd B mvL_21 (q_batchInfo (by first | assumption | omega) (by first | assumption | omega) (by first | assumption | omega)) dL_sound_811 rfl rfl (by decide) (by decide) (Nat.le_of_ble_eq_true rfl) (fun _ h => h) (fun r811 => ?_)
          refine x_iconst B dL_sound_814 ?_
          refine x_qd B mvL_30 (q_phase (by first | assumption | omega) (by first | assumption | omega) (by first | assumption | omega) (by first | assumption | omega) (by first | assumption | omega)) dL_sound_815 rfl rfl (by decide) (by decide) (Nat.le_of_ble_eq_true rfl) (fun _ h => h) (fun r815 => ?_)
          refine x_iload B dL_sound_818 rfl ?_
          refine x_icmp_ne (tgt := 836) B dL_sound_820 (by decide) (by first | assumption | omega) (by first | assumption | omega) (fun c820 => ?_) (fun c820 => ?_)
          · exfalso; omega
          · refine x_aload_n B dL_sound_823 rfl ?_
            refine x_iload B dL_sound_824 rfl ?_
            refine x_bipush B dL_sound_826 (by decide) ?_
            refine x_qd B mvL_21 (q_batchInfo (by first | assumption | omega) (by first | assumption | omega) (by first | assumption | omega)) dL_sound_828 rfl rfl (by decide) (by decide) (Nat.le_of_ble_eq_true rfl) (fun _ h => h) (fun r828 => ?_)
            refine x_bipush B dL_sound_831 (by decide) ?_
            refine x_icmp_ne (tgt := 838) B dL_sound_833 (by decide) (by first | assumption | omega) (by first | assumption | omega) (fun c833 => ?_) (fun c833 => ?_)
            · refine x_iinc B dL_sound_838 rfl (by decide) ?_
              refine x_goto (tgt := 748) B dL_sound_841 (by decide) ?_
              refine x_locs (L' := [(0, .ref e), (1, vi (m 2)), (2, vi (m 3)), (3, vi (cn m 1)), (4, vi (cn m 2)), (5, vi (cn m 16)), (6, vi (m 3)), (7, vi (snO m (m 3))), (8, vi (k + 1))]) (xl_cons (rfl) (xl_cons (rfl) (xl_cons (rfl) (xl_cons (rfl) (xl_cons (rfl) (xl_cons (rfl) (xl_cons (rfl) (xl_cons (rfl) (xl_cons (rfl) xl_nil))))))))) ?_
              exact ih (k + 1) (by omega) (by omega) (by omega)
            · exfalso; omega
theorem snd_3d (B : XB Γ G cL_sound RL 18 ({ frames := 5, cells := 0, slots := 0, locals := 115 } : Room) (AE e)) (ho : OK m ρ) {b : Int} (b0 : 0 ≤ b) (b1 : b < m 3) (r6 : -2147483648 ≤ bi m b 6 ∧ bi m b 6 < 2147483648) (K : XJ Γ 0 0 (PE G e m ρ) 300 [(0, .ref e), (1, vi (m 2)), (2, vi (m 3)), (3, vi (cn m 1)), (4, vi (cn m 2)), (5, vi (cn m 16)), (6, vi (m 3)), (7, vi (snO m (b + 1))), (8, vi (b + 1))] []) : XJ Γ 0 0 (PE G e m ρ) 653 [(0, .ref e), (1, vi (m 2)), (2, vi (m 3)), (3, vi (cn m 1)), (4, vi (cn m 2)), (5, vi (cn m 16)), (6, vi (m 3)), (7, vi (snO m (b + 1))), (8, vi b), (13, vi (bi m b 6)), (15, vi (bi m b 4))] [] := by
  have hI := ho.I
  have hb := hI.b
  obtain ⟨⟨f1, f2, f3, f4⟩, ⟨f5, f6, f7, f8⟩, f9, f10, f11, f12, f13, f14, f15, f16⟩ := fb hI ho.Q b0 b1
  clear f1 f2 f5 f6 f7 f8 f9 f10 f12
  refine x_cutI 682 (fun zz => (zz = 1 ∧ (bi m b 6 = -4 ∨ 0 < bi m b 6 ∨ bi m b 9 = 1)) ∨ (zz = 0 ∧ ¬ (bi m b 6 = -4 ∨ 0 < bi m b 6 ∨ bi m b 9 = 1))) (fun K682 => ?_) (fun z682 h682 => ?_)
  · refine x_iload B dL_sound_653 rfl ?_
    refine x_bipush B dL_sound_655 (by decide) ?_
    refine x_icmp_eq (tgt := 677) B dL_sound_657 (by decide) (by first | assumption | omega) (by first | assumption | omega) (fun c657 => ?_) (fun c657 => ?_)
    · refine x_iconst B dL_sound_677 ?_
      refine x_goto (tgt := 682) B dL_sound_678 (by decide) ?_
      exact K682 _ (by omega)
    · refine x_iload B dL_sound_660 rfl ?_
      refine x_if_gt (tgt := 677) B dL_sound_662 (by decide) (by first | assumption | omega) (fun c662 => ?_) (fun c662 => ?_)
      · refine x_iconst B dL_sound_677 ?_
        refine x_goto (tgt := 682) B dL_sound_678 (by decide) ?_
        exact K682 _ (by omega)
      · refine x_aload_n B dL_sound_665 rfl ?_
        refine x_iload B dL_sound_666 rfl ?_
        refine x_bipush B dL_sound_668 (by decide) ?_
        refine x_qd B mvL_21 (q_batchInfo (by first | assumption | omega) (by first | assumption | omega) (by first | assumption | omega)) dL_sound_670 rfl rfl (by decide) (by decide) (Nat.le_of_ble_eq_true rfl) (fun _ h => h) (fun r670 => ?_)
        refine x_iconst B dL_sound_673 ?_
        refine x_icmp_ne (tgt := 681) B dL_sound_674 (by decide) (by first | assumption | omega) (by first | assumption | omega) (fun c674 => ?_) (fun c674 => ?_)
        · refine x_iconst B dL_sound_681 ?_
          exact K682 _ (by omega)
        · refine x_iconst B dL_sound_677 ?_
          refine x_goto (tgt := 682) B dL_sound_678 (by decide) ?_
          exact K682 _ (by omega)
  · refine x_istore B dL_sound_682 (by decide) ?_
    refine x_cut0 708 (True) (fun K708 => ?_) (fun h708 => ?_)
    · refine x_iload B dL_sound_684 rfl ?_
      refine x_if_eq (tgt := 708) B dL_sound_686 (by decide) (by first | assumption | omega) (fun c686 => ?_) (fun c686 => ?_)
      · exact K708 (trivial)
      · refine x_iload B dL_sound_689 rfl ?_
        refine x_bipush B dL_sound_691 (by decide) ?_
        refine x_icmp_eq (tgt := 708) B dL_sound_693 (by decide) (by first | assumption | omega) (by first | assumption | omega) (fun c693 => ?_) (fun c693 => ?_)
        · exact K708 (trivial)
        · refine x_aload_n B dL_sound_696 rfl ?_
          refine x_iload B dL_sound_697 rfl ?_
          refine x_iconst B dL_sound_699 ?_
          refine x_qd B mvL_21 (q_batchInfo (by first | assumption | omega) (by first | assumption | omega) (by first | assumption | omega)) dL_sound_700 rfl rfl (by decide) (by decide) (Nat.le_of_ble_eq_true rfl) (fun _ h => h) (fun r700 => ?_)
          refine x_bipush B dL_sound_703 (by decide) ?_
          refine x_icmp_ne (tgt := 737) B dL_sound_705 (by decide) (by first | assumption | omega) (by first | assumption | omega) (fun c705 => ?_) (fun c705 => ?_)
          · exfalso; omega
          · exact K708 (trivial)
    · refine x_aload_n B dL_sound_708 rfl ?_
      refine x_iload B dL_sound_709 rfl ?_
      refine x_bipush B dL_sound_711 (by decide) ?_
      refine x_qd B mvL_21 (q_batchInfo (by first | assumption | omega) (by first | assumption | omega) (by first | assumption | omega)) dL_sound_713 rfl rfl (by decide) (by decide) (Nat.le_of_ble_eq_true rfl) (fun _ h => h) (fun r713 => ?_)
      refine x_aload_n B dL_sound_716 rfl ?_
      refine x_iload B dL_sound_717 rfl ?_
      refine x_iconst B dL_sound_719 ?_
      refine x_qd B mvL_21 (q_batchInfo (by first | assumption | omega) (by first | assumption | omega) (by first | assumption | omega)) dL_sound_720 rfl rfl (by decide) (by decide) (Nat.le_of_ble_eq_true rfl) (fun _ h => h) (fun r720 => ?_)
      refine x_icmp_gt (tgt := 737) B dL_sound_723 (by decide) (by first | assumption | omega) (by first | assumption | omega) (fun c723 => ?_) (fun c723 => ?_)
      · exfalso; omega
      · refine x_aload_n B dL_sound_726 rfl ?_
        refine x_iload B dL_sound_727 rfl ?_
        refine x_bipush B dL_sound_729 (by decide) ?_
        refine x_qd B mvL_21 (q_batchInfo (by first | assumption | omega) (by first | assumption | omega) (by first | assumption | omega)) dL_sound_731 rfl rfl (by decide) (by decide) (Nat.le_of_ble_eq_true rfl) (fun _ h => h) (fun r731 => ?_)
        refine x_if_ge (tgt := 739) B dL_sound_734 (by decide) (by first | assumption | omega) (fun c734 => ?_) (fun c734 => ?_)
        · refine x_iinc B dL_sound_739 rfl (by decide) ?_
          refine x_goto (tgt := 300) B dL_sound_742 (by decide) ?_
          refine x_locs (L' := [(0, .ref e), (1, vi (m 2)), (2, vi (m 3)), (3, vi (cn m 1)), (4, vi (cn m 2)), (5, vi (cn m 16)), (6, vi (m 3)), (7, vi (snO m (b + 1))), (8, vi (b + 1))]) (xl_cons (rfl) (xl_cons (rfl) (xl_cons (rfl) (xl_cons (rfl) (xl_cons (rfl) (xl_cons (rfl) (xl_cons (rfl) (xl_cons (rfl) (xl_cons (rfl) xl_nil))))))))) ?_
          exact K
        · exfalso; omega
theorem snd_3c (B : XB Γ G cL_sound RL 18 ({ frames := 5, cells := 0, slots := 0, locals := 115 } : Room) (AE e)) (ho : OK m ρ) {b : Int} (b0 : 0 ≤ b) (b1 : b < m 3) {z : Int} (hz : (z = 1 ∧ (bi m b 5 = 1 ∨ bi m b 5 = 3)) ∨ (z = 0 ∧ ¬ (bi m b 5 = 1 ∨ bi m b 5 = 3))) (r8 : -2147483648 ≤ bi m b 8 ∧ bi m b 8 < 2147483648) (r6 : -2147483648 ≤ bi m b 6 ∧ bi m b 6 < 2147483648) (K : XJ Γ 0 0 (PE G e m ρ) 653 [(0, .ref e), (1, vi (m 2)), (2, vi (m 3)), (3, vi (cn m 1)), (4, vi (cn m 2)), (5, vi (cn m 16)), (6, vi (m 3)), (7, vi (snO m (b + 1))), (8, vi b), (13, vi (bi m b 6)), (15, vi (bi m b 4))] []) : XJ Γ 0 0 (PE G e m ρ) 544 [(0, .ref e), (1, vi (m 2)), (2, vi (m 3)), (3, vi (cn m 1)), (4, vi (cn m 2)), (5, vi (cn m 16)), (6, vi (m 3)), (7, vi (snO m (b + 1))), (8, vi b), (9, vi (bi m b 5)), (10, vi (bi m b 8)), (11, vi (bi m b 0)), (12, vi (bi m b 1)), (13, vi (bi m b 6)), (14, vi (bi m b 7)), (15, vi (bi m b 4)), (16, vi z)] [] := by
  have hI := ho.I
  have hb := hI.b
  obtain ⟨⟨f1, f2, f3, f4⟩, ⟨f5, f6, f7, f8⟩, f9, f10, f11, f12, f13, f14, f15, f16⟩ := fb hI ho.Q b0 b1
  clear f3 f4 f5 f6 f7 f8 f10 f13 f14 f15 f16
  refine x_iload B dL_sound_544 rfl ?_
  refine x_bipush B dL_sound_546 (by decide) ?_
  refine x_icmp_eq (tgt := 653) B dL_sound_548 (by decide) (by first | assumption | omega) (by first | assumption | omega) (fun c548 => ?_) (fun c548 => ?_)
  · refine x_locs (L' := [(0, .ref e), (1, vi (m 2)), (2, vi (m 3)), (3, vi (cn m 1)), (4, vi (cn m 2)), (5, vi (cn m 16)), (6, vi (m 3)), (7, vi (snO m (b + 1))), (8, vi b), (13, vi (bi m b 6)), (15, vi (bi m b 4))]) (xl_cons (rfl) (xl_cons (rfl) (xl_cons (rfl) (xl_cons (rfl) (xl_cons (rfl) (xl_cons (rfl) (xl_cons (rfl) (xl_cons (rfl) (xl_cons (rfl) (xl_cons (rfl) (xl_cons (rfl) xl_nil))))))))))) ?_
    exact K
  · refine x_aload_n B dL_sound_551 rfl ?_
    refine x_iload B dL_sound_552 rfl ?_
    refine x_iload B dL_sound_554 rfl ?_
    refine x_iload B dL_sound_556 rfl ?_
    refine x_iconst B dL_sound_558 ?_
    refine x_qd B mvL_30 (q_phase (by first | assumption | omega) (by first | assumption | omega) (by first | assumption | omega) (by first | assumption | omega) (by first | assumption | omega)) dL_sound_559 rfl rfl (by decide) (by decide) (Nat.le_of_ble_eq_true rfl) (fun _ h => h) (fun r559 => ?_)
    refine x_istore B dL_sound_562 (by decide) ?_
    refine x_iload B dL_sound_564 rfl ?_
    refine x_iconst B dL_sound_566 ?_
    refine x_icmp_lt (tgt := 651) B dL_sound_567 (by decide) (by first | assumption | omega) (by first | assumption | omega) (fun c567 => ?_) (fun c567 => ?_)
    · exfalso; omega
    · refine x_iload B dL_sound_570 rfl ?_
      refine x_iload B dL_sound_572 rfl ?_
      refine x_icmp_gt (tgt := 651) B dL_sound_574 (by decide) (by first | assumption | omega) (by first | assumption | omega) (fun c574 => ?_) (fun c574 => ?_)
      · exfalso; omega
      · refine x_aload_n B dL_sound_577 rfl ?_
        refine x_iload B dL_sound_578 rfl ?_
        refine x_bipush B dL_sound_580 (by decide) ?_
        refine x_qd B mvL_21 (q_batchInfo (by first | assumption | omega) (by first | assumption | omega) (by first | assumption | omega)) dL_sound_582 rfl rfl (by decide) (by decide) (Nat.le_of_ble_eq_true rfl) (fun _ h => h) (fun r582 => ?_)
        refine x_cutI 597 (fun zz => (zz = 1 ∧ bi m b 7 < pq m (bi m b 0) (bi m b 1) (bi m b 6) 1) ∨ (zz = 0 ∧ ¬ bi m b 7 < pq m (bi m b 0) (bi m b 1) (bi m b 6) 1)) (fun K597 => ?_) (fun z597 h597 => ?_)
        · refine x_iload B dL_sound_585 rfl ?_
          refine x_iload B dL_sound_587 rfl ?_
          refine x_icmp_ge (tgt := 596) B dL_sound_589 (by decide) (by first | assumption | omega) (by first | assumption | omega) (fun c589 => ?_) (fun c589 => ?_)
          · refine x_iconst B dL_sound_596 ?_
            exact K597 _ (by omega)
          · refine x_iconst B dL_sound_592 ?_
            refine x_goto (tgt := 597) B dL_sound_593 (by decide) ?_
            exact K597 _ (by omega)
        · refine x_icmp_ne (tgt := 651) B dL_sound_597 (by decide) (by first | assumption | omega) (by first | assumption | omega) (fun c597 => ?_) (fun c597 => ?_)
          · exfalso; omega
          · refine x_cut0 628 (True) (fun K628 => ?_) (fun h628 => ?_)
            · refine x_iload B dL_sound_600 rfl ?_
              refine x_bipush B dL_sound_602 (by decide) ?_
              refine x_icmp_eq (tgt := 628) B dL_sound_604 (by decide) (by first | assumption | omega) (by first | assumption | omega) (fun c604 => ?_) (fun c604 => ?_)
              · exact K628 (trivial)
              · refine x_aload_n B dL_sound_607 rfl ?_
                refine x_iload B dL_sound_608 rfl ?_
                refine x_iconst B dL_sound_610 ?_
                refine x_qd B mvL_15 (q_unitInfo (by first | assumption | omega) (by first | assumption | omega) (by first | assumption | omega)) dL_sound_611 rfl rfl (by decide) (by decide) (Nat.le_of_ble_eq_true rfl) (fun _ h => h) (fun r611 => ?_)
                refine x_aload_n B dL_sound_614 rfl ?_
                refine x_iload B dL_sound_615 rfl ?_
                refine x_iload B dL_sound_617 rfl ?_
                refine x_iload B dL_sound_619 rfl ?_
                refine x_iconst B dL_sound_621 ?_
                refine x_qd B mvL_30 (q_phase (by first | assumption | omega) (by first | assumption | omega) (by first | assumption | omega) (by first | assumption | omega) (by first | assumption | omega)) dL_sound_622 rfl rfl (by decide) (by decide) (Nat.le_of_ble_eq_true rfl) (fun _ h => h) (fun r622 => ?_)
                refine x_icmp_ne (tgt := 651) B dL_sound_625 (by decide) (by first | assumption | omega) (by first | assumption | omega) (fun c625 => ?_) (fun c625 => ?_)
                · exfalso; omega
                · exact K628 (trivial)
            · refine x_iload B dL_sound_628 rfl ?_
              refine x_bipush B dL_sound_630 (by decide) ?_
              refine x_icmp_eq (tgt := 653) B dL_sound_632 (by decide) (by first | assumption | omega) (by first | assumption | omega) (fun c632 => ?_) (fun c632 => ?_)
              · refine x_locs (L' := [(0, .ref e), (1, vi (m 2)), (2, vi (m 3)), (3, vi (cn m 1)), (4, vi (cn m 2)), (5, vi (cn m 16)), (6, vi (m 3)), (7, vi (snO m (b + 1))), (8, vi b), (13, vi (bi m b 6)), (15, vi (bi m b 4))]) (xl_cons (rfl) (xl_cons (rfl) (xl_cons (rfl) (xl_cons (rfl) (xl_cons (rfl) (xl_cons (rfl) (xl_cons (rfl) (xl_cons (rfl) (xl_cons (rfl) (xl_cons (rfl) (xl_cons (rfl) xl_nil))))))))))) ?_
                exact K
              · refine x_iload B dL_sound_635 rfl ?_
                refine x_if_eq (tgt := 653) B dL_sound_637 (by decide) (by first | assumption | omega) (fun c637 => ?_) (fun c637 => ?_)
                · refine x_locs (L' := [(0, .ref e), (1, vi (m 2)), (2, vi (m 3)), (3, vi (cn m 1)), (4, vi (cn m 2)), (5, vi (cn m 16)), (6, vi (m 3)), (7, vi (snO m (b + 1))), (8, vi b), (13, vi (bi m b 6)), (15, vi (bi m b 4))]) (xl_cons (rfl) (xl_cons (rfl) (xl_cons (rfl) (xl_cons (rfl) (xl_cons (rfl) (xl_cons (rfl) (xl_cons (rfl) (xl_cons (rfl) (xl_cons (rfl) (xl_cons (rfl) (xl_cons (rfl) xl_nil))))))))))) ?_
                  exact K
                · refine x_aload_n B dL_sound_640 rfl ?_
                  refine x_iload B dL_sound_641 rfl ?_
                  refine x_iconst B dL_sound_643 ?_
                  refine x_qd B mvL_15 (q_unitInfo (by first | assumption | omega) (by first | assumption | omega) (by first | assumption | omega)) dL_sound_644 rfl rfl (by decide) (by decide) (Nat.le_of_ble_eq_true rfl) (fun _ h => h) (fun r644 => ?_)
                  refine x_iconst B dL_sound_647 ?_
                  refine x_icmp_ne (tgt := 653) B dL_sound_648 (by decide) (by first | assumption | omega) (by first | assumption | omega) (fun c648 => ?_) (fun c648 => ?_)
                  · refine x_locs (L' := [(0, .ref e), (1, vi (m 2)), (2, vi (m 3)), (3, vi (cn m 1)), (4, vi (cn m 2)), (5, vi (cn m 16)), (6, vi (m 3)), (7, vi (snO m (b + 1))), (8, vi b), (13, vi (bi m b 6)), (15, vi (bi m b 4))]) (xl_cons (rfl) (xl_cons (rfl) (xl_cons (rfl) (xl_cons (rfl) (xl_cons (rfl) (xl_cons (rfl) (xl_cons (rfl) (xl_cons (rfl) (xl_cons (rfl) (xl_cons (rfl) (xl_cons (rfl) xl_nil))))))))))) ?_
                    exact K
                  · exfalso; omega
theorem snd_3b (B : XB Γ G cL_sound RL 18 ({ frames := 5, cells := 0, slots := 0, locals := 115 } : Room) (AE e)) (ho : OK m ρ) {b : Int} (b0 : 0 ≤ b) (b1 : b < m 3) {z : Int} (hz : (z = 1 ∧ (bi m b 5 = 1 ∨ bi m b 5 = 3)) ∨ (z = 0 ∧ ¬ (bi m b 5 = 1 ∨ bi m b 5 = 3))) (r8 : -2147483648 ≤ bi m b 8 ∧ bi m b 8 < 2147483648) (r6 : -2147483648 ≤ bi m b 6 ∧ bi m b 6 < 2147483648) (r7 : -2147483648 ≤ bi m b 7 ∧ bi m b 7 < 2147483648) (K : XJ Γ 0 0 (PE G e m ρ) 544 [(0, .ref e), (1, vi (m 2)), (2, vi (m 3)), (3, vi (cn m 1)), (4, vi (cn m 2)), (5, vi (cn m 16)), (6, vi (m 3)), (7, vi (snO m (b + 1))), (8, vi b), (9, vi (bi m b 5)), (10, vi (bi m b 8)), (11, vi (bi m b 0)), (12, vi (bi m b 1)), (13, vi (bi m b 6)), (14, vi (bi m b 7)), (15, vi (bi m b 4)), (16, vi z)] []) : XJ Γ 0 0 (PE G e m ρ) 406 [(0, .ref e), (1, vi (m 2)), (2, vi (m 3)), (3, vi (cn m 1)), (4, vi (cn m 2)), (5, vi (cn m 16)), (6, vi (m 3)), (7, vi (snO m (b + 1))), (8, vi b), (9, vi (bi m b 5)), (10, vi (bi m b 8)), (11, vi (bi m b 0)), (12, vi (bi m b 1)), (13, vi (bi m b 6)), (14, vi (bi m b 7)), (15, vi (bi m b 4)), (16, vi z)] [] := by
  have hI := ho.I
  have hb := hI.b
  obtain ⟨⟨f1, f2, f3, f4⟩, ⟨f5, f6, f7, f8⟩, f9, f10, f11, f12, f13, f14, f15, f16⟩ := fb hI ho.Q b0 b1
  clear f9 f12 f13 f14 f15 f16
  have hv : vr m (bi m b 0) ≤ 9 := ((Iv_iff.mp hI.1).1.vs f1.1 f1.2).2
  refine x_iload B dL_sound_406 rfl ?_
  refine x_iconst B dL_sound_408 ?_
  refine x_icmp_lt (tgt := 542) B dL_sound_409 (by decide) (by first | assumption | omega) (by first | assumption | omega) (fun c409 => ?_) (fun c409 => ?_)
  · exfalso; omega
  · refine x_iload B dL_sound_412 rfl ?_
    refine x_aload_n B dL_sound_414 rfl ?_
    refine x_iload B dL_sound_415 rfl ?_
    refine x_qd B mvL_24 (q_versions (by first | assumption | omega) (by first | assumption | omega)) dL_sound_417 rfl rfl (by decide) (by decide) (Nat.le_of_ble_eq_true rfl) (fun _ h => h) (fun r417 => ?_)
    refine x_icmp_gt (tgt := 542) B dL_sound_420 (by decide) (by first | assumption | omega) (by first | assumption | omega) (fun c420 => ?_) (fun c420 => ?_)
    · exfalso; omega
    · refine x_cutI 435 (fun zz => (zz = 1 ∧ bi m b 5 = 6) ∨ (zz = 0 ∧ ¬ bi m b 5 = 6)) (fun K435 => ?_) (fun z435 h435 => ?_)
      · refine x_iload B dL_sound_423 rfl ?_
        refine x_bipush B dL_sound_425 (by decide) ?_
        refine x_icmp_ne (tgt := 434) B dL_sound_427 (by decide) (by first | assumption | omega) (by first | assumption | omega) (fun c427 => ?_) (fun c427 => ?_)
        · refine x_iconst B dL_sound_434 ?_
          exact K435 _ (by omega)
        · refine x_iconst B dL_sound_430 ?_
          refine x_goto (tgt := 435) B dL_sound_431 (by decide) ?_
          exact K435 _ (by omega)
      · refine x_cutI 447 (fun zz => (zz = 1 ∧ bi m b 6 = -4) ∨ (zz = 0 ∧ ¬ bi m b 6 = -4)) (fun K447 => ?_) (fun z447 h447 => ?_)
        · refine x_iload B dL_sound_435 rfl ?_
          refine x_bipush B dL_sound_437 (by decide) ?_
          refine x_icmp_ne (tgt := 446) B dL_sound_439 (by decide) (by first | assumption | omega) (by first | assumption | omega) (fun c439 => ?_) (fun c439 => ?_)
          · refine x_iconst B dL_sound_446 ?_
            exact K447 _ (by omega)
          · refine x_iconst B dL_sound_442 ?_
            refine x_goto (tgt := 447) B dL_sound_443 (by decide) ?_
            exact K447 _ (by omega)
        · refine x_icmp_ne (tgt := 542) B dL_sound_447 (by decide) (by first | assumption | omega) (by first | assumption | omega) (fun c447 => ?_) (fun c447 => ?_)
          · exfalso; omega
          · refine x_cutI 462 (fun zz => (zz = 1 ∧ bi m b 5 = 6) ∨ (zz = 0 ∧ ¬ bi m b 5 = 6)) (fun K462 => ?_) (fun z462 h462 => ?_)
            · refine x_iload B dL_sound_450 rfl ?_
              refine x_bipush B dL_sound_452 (by decide) ?_
              refine x_icmp_ne (tgt := 461) B dL_sound_454 (by decide) (by first | assumption | omega) (by first | assumption | omega) (fun c454 => ?_) (fun c454 => ?_)
              · refine x_iconst B dL_sound_461 ?_
                exact K462 _ (by omega)
              · refine x_iconst B dL_sound_457 ?_
                refine x_goto (tgt := 462) B dL_sound_458 (by decide) ?_
                exact K462 _ (by omega)
            · refine x_cutI 474 (fun zz => (zz = 1 ∧ bi m b 7 = -4) ∨ (zz = 0 ∧ ¬ bi m b 7 = -4)) (fun K474 => ?_) (fun z474 h474 => ?_)
              · refine x_iload B dL_sound_462 rfl ?_
                refine x_bipush B dL_sound_464 (by decide) ?_
                refine x_icmp_ne (tgt := 473) B dL_sound_466 (by decide) (by first | assumption | omega) (by first | assumption | omega) (fun c466 => ?_) (fun c466 => ?_)
                · refine x_iconst B dL_sound_473 ?_
                  exact K474 _ (by omega)
                · refine x_iconst B dL_sound_469 ?_
                  refine x_goto (tgt := 474) B dL_sound_470 (by decide) ?_
                  exact K474 _ (by omega)
              · refine x_icmp_ne (tgt := 542) B dL_sound_474 (by decide) (by first | assumption | omega) (by first | assumption | omega) (fun c474 => ?_) (fun c474 => ?_)
                · exfalso; omega
                · refine x_cut0 490 (True) (fun K490 => ?_) (fun h490 => ?_)
                  · refine x_iload B dL_sound_477 rfl ?_
                    refine x_iconst B dL_sound_479 ?_
                    refine x_icmp_le (tgt := 490) B dL_sound_480 (by decide) (by first | assumption | omega) (by first | assumption | omega) (fun c480 => ?_) (fun c480 => ?_)
                    · exact K490 (trivial)
                    · refine x_iload B dL_sound_483 rfl ?_
                      refine x_bipush B dL_sound_485 (by decide) ?_
                      refine x_icmp_ne (tgt := 542) B dL_sound_487 (by decide) (by first | assumption | omega) (by first | assumption | omega) (fun c487 => ?_) (fun c487 => ?_)
                      · exfalso; omega
                      · exact K490 (trivial)
                  · refine x_cut0 507 (True) (fun K507 => ?_) (fun h507 => ?_)
                    · refine x_iload B dL_sound_490 rfl ?_
                      refine x_if_ne (tgt := 507) B dL_sound_492 (by decide) (by first | assumption | omega) (fun c492 => ?_) (fun c492 => ?_)
                      · exact K507 (trivial)
                      · refine x_iload B dL_sound_495 rfl ?_
                        refine x_bipush B dL_sound_497 (by decide) ?_
                        refine x_icmp_ne (tgt := 542) B dL_sound_499 (by decide) (by first | assumption | omega) (by first | assumption | omega) (fun c499 => ?_) (fun c499 => ?_)
                        · exfalso; omega
                        · refine x_iload B dL_sound_502 rfl ?_
                          refine x_if_ne (tgt := 542) B dL_sound_504 (by decide) (by first | assumption | omega) (fun c504 => ?_) (fun c504 => ?_)
                          · exfalso; omega
                          · exact K507 (trivial)
                    · refine x_cutI 523 (fun zz => (zz = 1 ∧ wi m b = -4) ∨ (zz = 0 ∧ ¬ wi m b = -4)) (fun K523 => ?_) (fun z523 h523 => ?_)
                      · refine x_aload_n B dL_sound_507 rfl ?_
                        refine x_iload B dL_sound_508 rfl ?_
                        refine x_qd B mvL_27 (q_waits (by first | assumption | omega) (by first | assumption | omega)) dL_sound_510 rfl rfl (by decide) (by decide) (Nat.le_of_ble_eq_true rfl) (fun _ h => h) (fun r510 => ?_)
                        refine x_bipush B dL_sound_513 (by decide) ?_
                        refine x_icmp_ne (tgt := 522) B dL_sound_515 (by decide) (by first | assumption | omega) (by first | assumption | omega) (fun c515 => ?_) (fun c515 => ?_)
                        · refine x_iconst B dL_sound_522 ?_
                          exact K523 _ (by omega)
                        · refine x_iconst B dL_sound_518 ?_
                          refine x_goto (tgt := 523) B dL_sound_519 (by decide) ?_
                          exact K523 _ (by omega)
                      · refine x_iload B dL_sound_523 rfl ?_
                        refine x_icmp_eq (tgt := 542) B dL_sound_525 (by decide) (by first | assumption | omega) (by first | assumption | omega) (fun c525 => ?_) (fun c525 => ?_)
                        · exfalso; omega
                        · refine x_iload B dL_sound_528 rfl ?_
                          refine x_bipush B dL_sound_530 (by decide) ?_
                          refine x_icmp_eq (tgt := 544) B dL_sound_532 (by decide) (by first | assumption | omega) (by first | assumption | omega) (fun c532 => ?_) (fun c532 => ?_)
                          · exact K
                          · refine x_iload B dL_sound_535 rfl ?_
                            refine x_iload B dL_sound_537 rfl ?_
                            refine x_icmp_lt (tgt := 544) B dL_sound_539 (by decide) (by first | assumption | omega) (by first | assumption | omega) (fun c539 => ?_) (fun c539 => ?_)
                            · exact K
                            · exfalso; omega
theorem snd_3 (B : XB Γ G cL_sound RL 18 ({ frames := 5, cells := 0, slots := 0, locals := 115 } : Room) (AE e)) (R : XR Γ "sound" (some .boolean) 0 0 (xQ (pZ True (PE G e m ρ)) (AE e))) (ho : OK m ρ) : ∀ (n : Nat) (b : Int), 0 ≤ b → b ≤ m 3 → m 3 - b < n → XJ Γ 0 0 (PE G e m ρ) 300 [(0, .ref e), (1, vi (m 2)), (2, vi (m 3)), (3, vi (cn m 1)), (4, vi (cn m 2)), (5, vi (cn m 16)), (6, vi (m 3)), (7, vi (snO m b)), (8, vi b)] [] := by
  have hI := ho.I
  have hb := hI.b
  intro n
  induction n with
  | zero => intro b _ _ _; omega
  | succ n ih =>
    intro b b0 b1 bn
    refine x_iload B dL_sound_300 rfl ?_
    refine x_iload_n B dL_sound_302 rfl ?_
    refine x_icmp_ge (tgt := 745) B dL_sound_303 (by decide) (by first | assumption | omega) (by first | assumption | omega) (fun c303 => ?_) (fun c303 => ?_)
    · obtain rfl : b = m 3 := by omega
      refine x_iconst B dL_sound_745 ?_
      refine x_istore B dL_sound_746 (by decide) ?_
      refine x_locs (L' := [(0, .ref e), (1, vi (m 2)), (2, vi (m 3)), (3, vi (cn m 1)), (4, vi (cn m 2)), (5, vi (cn m 16)), (6, vi (m 3)), (7, vi (snO m (m 3))), (8, vi 0)]) (xl_cons (rfl) (xl_cons (rfl) (xl_cons (rfl) (xl_cons (rfl) (xl_cons (rfl) (xl_cons (rfl) (xl_cons (rfl) (xl_cons (rfl) (xl_cons (rfl) xl_nil))))))))) ?_
      exact snd_4 B R ho 4 0 (by omega) (by omega) (by omega)
    · obtain ⟨⟨-, -, -, f4⟩, -⟩ := fb hI ho.Q b0 (show b < m 3 by omega)
      have hO := snO_r (m := m) (b := b)
      refine x_aload_n B dL_sound_306 rfl ?_
      refine x_iload B dL_sound_307 rfl ?_
      refine x_iconst B dL_sound_309 ?_
      refine x_qd B mvL_21 (q_batchInfo (by first | assumption | omega) (by first | assumption | omega) (by first | assumption | omega)) dL_sound_310 rfl rfl (by decide) (by decide) (Nat.le_of_ble_eq_true rfl) (fun _ h => h) (fun r310 => ?_)
      refine x_istore B dL_sound_313 (by decide) ?_
      refine x_aload_n B dL_sound_315 rfl ?_
      refine x_iload B dL_sound_316 rfl ?_
      refine x_bipush B dL_sound_318 (by decide) ?_
      refine x_qd B mvL_21 (q_batchInfo (by first | assumption | omega) (by first | assumption | omega) (by first | assumption | omega)) dL_sound_320 rfl rfl (by decide) (by decide) (Nat.le_of_ble_eq_true rfl) (fun _ h => h) (fun r320 => ?_)
      refine x_istore B dL_sound_323 (by decide) ?_
      refine x_aload_n B dL_sound_325 rfl ?_
      refine x_iload B dL_sound_326 rfl ?_
      refine x_iconst B dL_sound_328 ?_
      refine x_qd B mvL_21 (q_batchInfo (by first | assumption | omega) (by first | assumption | omega) (by first | assumption | omega)) dL_sound_329 rfl rfl (by decide) (by decide) (Nat.le_of_ble_eq_true rfl) (fun _ h => h) (fun r329 => ?_)
      refine x_istore B dL_sound_332 (by decide) ?_
      refine x_aload_n B dL_sound_334 rfl ?_
      refine x_iload B dL_sound_335 rfl ?_
      refine x_iconst B dL_sound_337 ?_
      refine x_qd B mvL_21 (q_batchInfo (by first | assumption | omega) (by first | assumption | omega) (by first | assumption | omega)) dL_sound_338 rfl rfl (by decide) (by decide) (Nat.le_of_ble_eq_true rfl) (fun _ h => h) (fun r338 => ?_)
      refine x_istore B dL_sound_341 (by decide) ?_
      refine x_aload_n B dL_sound_343 rfl ?_
      refine x_iload B dL_sound_344 rfl ?_
      refine x_bipush B dL_sound_346 (by decide) ?_
      refine x_qd B mvL_21 (q_batchInfo (by first | assumption | omega) (by first | assumption | omega) (by first | assumption | omega)) dL_sound_348 rfl rfl (by decide) (by decide) (Nat.le_of_ble_eq_true rfl) (fun _ h => h) (fun r348 => ?_)
      refine x_istore B dL_sound_351 (by decide) ?_
      refine x_aload_n B dL_sound_353 rfl ?_
      refine x_iload B dL_sound_354 rfl ?_
      refine x_bipush B dL_sound_356 (by decide) ?_
      refine x_qd B mvL_21 (q_batchInfo (by first | assumption | omega) (by first | assumption | omega) (by first | assumption | omega)) dL_sound_358 rfl rfl (by decide) (by decide) (Nat.le_of_ble_eq_true rfl) (fun _ h => h) (fun r358 => ?_)
      refine x_istore B dL_sound_361 (by decide) ?_
      refine x_aload_n B dL_sound_363 rfl ?_
      refine x_iload B dL_sound_364 rfl ?_
      refine x_iconst B dL_sound_366 ?_
      refine x_qd B mvL_21 (q_batchInfo (by first | assumption | omega) (by first | assumption | omega) (by first | assumption | omega)) dL_sound_367 rfl rfl (by decide) (by decide) (Nat.le_of_ble_eq_true rfl) (fun _ h => h) (fun r367 => ?_)
      refine x_istore B dL_sound_370 (by decide) ?_
      refine x_cutI 389 (fun zz => (zz = 1 ∧ (bi m b 5 = 1 ∨ bi m b 5 = 3)) ∨ (zz = 0 ∧ ¬ (bi m b 5 = 1 ∨ bi m b 5 = 3))) (fun K389 => ?_) (fun z389 h389 => ?_)
      · refine x_iload B dL_sound_372 rfl ?_
        refine x_iconst B dL_sound_374 ?_
        refine x_icmp_eq (tgt := 384) B dL_sound_375 (by decide) (by first | assumption | omega) (by first | assumption | omega) (fun c375 => ?_) (fun c375 => ?_)
        · refine x_iconst B dL_sound_384 ?_
          refine x_goto (tgt := 389) B dL_sound_385 (by decide) ?_
          exact K389 _ (by omega)
        · refine x_iload B dL_sound_378 rfl ?_
          refine x_iconst B dL_sound_380 ?_
          refine x_icmp_ne (tgt := 388) B dL_sound_381 (by decide) (by first | assumption | omega) (by first | assumption | omega) (fun c381 => ?_) (fun c381 => ?_)
          · refine x_iconst B dL_sound_388 ?_
            exact K389 _ (by omega)
          · refine x_iconst B dL_sound_384 ?_
            refine x_goto (tgt := 389) B dL_sound_385 (by decide) ?_
            exact K389 _ (by omega)
      · refine x_istore B dL_sound_389 (by decide) ?_
        refine x_iload B dL_sound_391 rfl ?_
        refine x_cutI 403 (fun zz => zz = z389) (fun K403 => ?_) (fun z403 h403 => ?_)
        · refine x_iload B dL_sound_393 rfl ?_
          refine x_if_eq (tgt := 402) B dL_sound_395 (by decide) (by first | assumption | omega) (fun c395 => ?_) (fun c395 => ?_)
          · refine x_iconst B dL_sound_402 ?_
            exact K403 _ (by omega)
          · refine x_iconst B dL_sound_398 ?_
            refine x_goto (tgt := 403) B dL_sound_399 (by decide) ?_
            exact K403 _ (by omega)
        · have e403 : z403 = (if bi m b 5 = 1 ∨ bi m b 5 = 3 then 1 else 0) := by
            rw [h403]
            split <;> omega
          refine x_iadd B dL_sound_403 ?_
          refine x_istore B dL_sound_404 (by decide) ?_
          refine x_locs (L' := [(0, .ref e), (1, vi (m 2)), (2, vi (m 3)), (3, vi (cn m 1)), (4, vi (cn m 2)), (5, vi (cn m 16)), (6, vi (m 3)), (7, vi (snO m (b + 1))), (8, vi b), (9, vi (bi m b 5)), (10, vi (bi m b 8)), (11, vi (bi m b 0)), (12, vi (bi m b 1)), (13, vi (bi m b 6)), (14, vi (bi m b 7)), (15, vi (bi m b 4)), (16, vi z389)]) (xl_cons (rfl) (xl_cons (rfl) (xl_cons (rfl) (xl_cons (rfl) (xl_cons (rfl) (xl_cons (rfl) (xl_cons (rfl) (xl_cons (by rw [snO_s b0, ← e403]; rfl) (xl_cons (rfl) (xl_cons (rfl) (xl_cons (rfl) (xl_cons (rfl) (xl_cons (rfl) (xl_cons (rfl) (xl_cons (rfl) (xl_cons (rfl) (xl_cons (rfl) xl_nil))))))))))))))))) ?_
          exact snd_3b B ho b0 (by omega) h389 r320 r348 r358 (snd_3c B ho b0 (by omega) h389 r320 r348 (snd_3d B ho b0 (by omega) r348 (ih (b + 1) (by omega) (by omega) (by omega))))
theorem snd_2b (B : XB Γ G cL_sound RL 18 ({ frames := 5, cells := 0, slots := 0, locals := 115 } : Room) (AE e)) (ho : OK m ρ) {st : Int} (s0 : 0 ≤ st ∧ st ≤ 6) (K : XJ Γ 0 0 (PE G e m ρ) 266 [(0, .ref e), (1, vi (m 2)), (2, vi (m 3)), (3, vi (cn m 1)), (4, vi (cn m 2)), (5, vi (cn m 16)), (6, vi (snT m st)), (7, vi st), (8, vi (snC m st (m 3)))] []) : ∀ (n : Nat) (b : Int), 0 ≤ b → b ≤ m 3 → m 3 - b < n → XJ Γ 0 0 (PE G e m ρ) 232 [(0, .ref e), (1, vi (m 2)), (2, vi (m 3)), (3, vi (cn m 1)), (4, vi (cn m 2)), (5, vi (cn m 16)), (6, vi (snT m st)), (7, vi st), (8, vi (snC m st b)), (9, vi b)] [] := by
  have hI := ho.I
  have hb := hI.b
  intro n
  induction n with
  | zero => intro b _ _ _; omega
  | succ n ih =>
    intro b b0 b1 bn
    refine x_iload B dL_sound_232 rfl ?_
    refine x_iload_n B dL_sound_234 rfl ?_
    refine x_icmp_ge (tgt := 266) B dL_sound_235 (by decide) (by first | assumption | omega) (by first | assumption | omega) (fun c235 => ?_) (fun c235 => ?_)
    · obtain rfl : b = m 3 := by omega
      refine x_locs (L' := [(0, .ref e), (1, vi (m 2)), (2, vi (m 3)), (3, vi (cn m 1)), (4, vi (cn m 2)), (5, vi (cn m 16)), (6, vi (snT m st)), (7, vi st), (8, vi (snC m st (m 3)))]) (xl_cons (rfl) (xl_cons (rfl) (xl_cons (rfl) (xl_cons (rfl) (xl_cons (rfl) (xl_cons (rfl) (xl_cons (rfl) (xl_cons (rfl) (xl_cons (rfl) xl_nil))))))))) ?_
      exact K
    · refine x_iload B dL_sound_238 rfl ?_
      refine x_cutI 257 (fun zz => zz = (if bi m b 5 = st then 1 else 0)) (fun K257 => ?_) (fun z257 h257 => ?_)
      · refine x_aload_n B dL_sound_240 rfl ?_
        refine x_iload B dL_sound_241 rfl ?_
        refine x_iconst B dL_sound_243 ?_
        refine x_qd B mvL_21 (q_batchInfo (by first | assumption | omega) (by first | assumption | omega) (by first | assumption | omega)) dL_sound_244 rfl rfl (by decide) (by decide) (Nat.le_of_ble_eq_true rfl) (fun _ h => h) (fun r244 => ?_)
        refine x_iload B dL_sound_247 rfl ?_
        refine x_icmp_ne (tgt := 256) B dL_sound_249 (by decide) (by first | assumption | omega) (by first | assumption | omega) (fun c249 => ?_) (fun c249 => ?_)
        · refine x_iconst B dL_sound_256 ?_
          exact K257 _ (by first | rw [if_pos (by omega)] | rw [if_neg (by omega)])
        · refine x_iconst B dL_sound_252 ?_
          refine x_goto (tgt := 257) B dL_sound_253 (by decide) ?_
          exact K257 _ (by first | rw [if_pos (by omega)] | rw [if_neg (by omega)])
      · refine x_iadd B dL_sound_257 ?_
        refine x_istore B dL_sound_258 (by decide) ?_
        refine x_iinc B dL_sound_260 rfl (by decide) ?_
        refine x_goto (tgt := 232) B dL_sound_263 (by decide) ?_
        refine x_locs (L' := [(0, .ref e), (1, vi (m 2)), (2, vi (m 3)), (3, vi (cn m 1)), (4, vi (cn m 2)), (5, vi (cn m 16)), (6, vi (snT m st)), (7, vi st), (8, vi (snC m st (b + 1))), (9, vi (b + 1))]) (xl_cons (rfl) (xl_cons (rfl) (xl_cons (rfl) (xl_cons (rfl) (xl_cons (rfl) (xl_cons (rfl) (xl_cons (rfl) (xl_cons (rfl) (xl_cons (by rw [snC_s b0, ← h257]; rfl) (xl_cons (rfl) xl_nil)))))))))) ?_
        exact ih (b + 1) (by omega) (by omega) (by omega)
theorem snd_2c (B : XB Γ G cL_sound RL 18 ({ frames := 5, cells := 0, slots := 0, locals := 115 } : Room) (AE e)) (ho : OK m ρ) {st : Int} (s0 : 0 ≤ st ∧ st ≤ 6) (K : XJ Γ 0 0 (PE G e m ρ) 219 [(0, .ref e), (1, vi (m 2)), (2, vi (m 3)), (3, vi (cn m 1)), (4, vi (cn m 2)), (5, vi (cn m 16)), (6, vi (snT m (st + 1))), (7, vi (st + 1))] []) : XJ Γ 0 0 (PE G e m ρ) 266 [(0, .ref e), (1, vi (m 2)), (2, vi (m 3)), (3, vi (cn m 1)), (4, vi (cn m 2)), (5, vi (cn m 16)), (6, vi (snT m st)), (7, vi st), (8, vi (snC m st (m 3)))] [] := by
  have hI := ho.I
  have hb := hI.b
  have hE := snC_e (m := m) (st := st) (by omega)
  have hC : 0 ≤ snC m st (m 3) ∧ snC m st (m 3) ≤ (m 3).toNat := cntB_rg m st _
  refine x_iload B dL_sound_266 rfl ?_
  refine x_iload B dL_sound_268 rfl ?_
  refine x_iadd B dL_sound_270 ?_
  refine x_istore B dL_sound_271 (by decide) ?_
  refine x_aload_n B dL_sound_273 rfl ?_
  refine x_iconst B dL_sound_274 ?_
  refine x_iload B dL_sound_275 rfl ?_
  refine x_iadd B dL_sound_277 ?_
  refine x_qd B mvL_9 (q_count (by first | assumption | omega) (by first | assumption | omega)) dL_sound_278 rfl rfl (by decide) (by decide) (Nat.le_of_ble_eq_true rfl) (fun _ h => h) (fun r278 => ?_)
  refine x_iload B dL_sound_281 rfl ?_
  refine x_icmp_eq (tgt := 288) B dL_sound_283 (by decide) (by first | assumption | omega) (by first | assumption | omega) (fun c283 => ?_) (fun c283 => ?_)
  · refine x_iinc B dL_sound_288 rfl (by decide) ?_
    refine x_goto (tgt := 219) B dL_sound_291 (by decide) ?_
    refine x_locs (L' := [(0, .ref e), (1, vi (m 2)), (2, vi (m 3)), (3, vi (cn m 1)), (4, vi (cn m 2)), (5, vi (cn m 16)), (6, vi (snT m (st + 1))), (7, vi (st + 1))]) (xl_cons (rfl) (xl_cons (rfl) (xl_cons (rfl) (xl_cons (rfl) (xl_cons (rfl) (xl_cons (rfl) (xl_cons (by rw [snT_s s0.1, ← hE]; rfl) (xl_cons (rfl) xl_nil)))))))) ?_
    exact K
  · exfalso; omega
theorem snd_2 (B : XB Γ G cL_sound RL 18 ({ frames := 5, cells := 0, slots := 0, locals := 115 } : Room) (AE e)) (R : XR Γ "sound" (some .boolean) 0 0 (xQ (pZ True (PE G e m ρ)) (AE e))) (ho : OK m ρ) : ∀ (n : Nat) (st : Int), 0 ≤ st → st ≤ 7 → 7 - st < n → XJ Γ 0 0 (PE G e m ρ) 219 [(0, .ref e), (1, vi (m 2)), (2, vi (m 3)), (3, vi (cn m 1)), (4, vi (cn m 2)), (5, vi (cn m 16)), (6, vi (snT m st)), (7, vi st)] [] := by
  have hI := ho.I
  have hb := hI.b
  intro n
  induction n with
  | zero => intro st _ _ _; omega
  | succ n ih =>
    intro st s0 s1 sn
    refine x_iload B dL_sound_219 rfl ?_
    refine x_bipush B dL_sound_221 (by decide) ?_
    refine x_icmp_ge (tgt := 294) B dL_sound_223 (by decide) (by first | assumption | omega) (by first | assumption | omega) (fun c223 => ?_) (fun c223 => ?_)
    · obtain rfl : st = 7 := by omega
      refine x_iconst B dL_sound_294 ?_
      refine x_istore B dL_sound_295 (by decide) ?_
      refine x_iconst B dL_sound_297 ?_
      refine x_istore B dL_sound_298 (by decide) ?_
      refine x_locs (L' := [(0, .ref e), (1, vi (m 2)), (2, vi (m 3)), (3, vi (cn m 1)), (4, vi (cn m 2)), (5, vi (cn m 16)), (6, vi (m 3)), (7, vi (snO m 0)), (8, vi 0)]) (xl_cons (rfl) (xl_cons (rfl) (xl_cons (rfl) (xl_cons (rfl) (xl_cons (rfl) (xl_cons (rfl) (xl_cons (by rw [← snT_7 hI]; rfl) (xl_cons (rfl) (xl_cons (rfl) xl_nil))))))))) ?_
      exact snd_3 B R ho 13 0 (by omega) (by omega) (by omega)
    · refine x_iconst B dL_sound_226 ?_
      refine x_istore B dL_sound_227 (by decide) ?_
      refine x_iconst B dL_sound_229 ?_
      refine x_istore B dL_sound_230 (by decide) ?_
      refine x_locs (L' := [(0, .ref e), (1, vi (m 2)), (2, vi (m 3)), (3, vi (cn m 1)), (4, vi (cn m 2)), (5, vi (cn m 16)), (6, vi (snT m st)), (7, vi st), (8, vi (snC m st 0)), (9, vi 0)]) (xl_cons (rfl) (xl_cons (rfl) (xl_cons (rfl) (xl_cons (rfl) (xl_cons (rfl) (xl_cons (rfl) (xl_cons (rfl) (xl_cons (rfl) (xl_cons (rfl) (xl_cons (rfl) xl_nil)))))))))) ?_
      exact snd_2b B ho ⟨s0, by omega⟩ (snd_2c B ho ⟨s0, by omega⟩ (ih (st + 1) (by omega) (by omega) (by omega))) 13 0 (by omega) (by omega) (by omega)
theorem snd_1 (B : XB Γ G cL_sound RL 18 ({ frames := 5, cells := 0, slots := 0, locals := 115 } : Room) (AE e)) (R : XR Γ "sound" (some .boolean) 0 0 (xQ (pZ True (PE G e m ρ)) (AE e))) (ho : OK m ρ) : ∀ (n : Nat) (u : Int), 0 ≤ u → u ≤ m 2 → m 2 - u < n → XJ Γ 0 0 (PE G e m ρ) 26 [(0, .ref e), (1, vi (m 2)), (2, vi (m 3)), (3, vi (snB m u)), (4, vi (snF m u)), (5, vi (snW m u)), (6, vi 0), (7, vi u)] [] := by
  have hI := ho.I
  have hb := hI.b
  intro n
  induction n with
  | zero => intro u _ _ _; omega
  | succ n ih =>
    intro u u0 u1 un
    refine x_iload B dL_sound_26 rfl ?_
    refine x_iload_n B dL_sound_28 rfl ?_
    refine x_icmp_ge (tgt := 216) B dL_sound_29 (by decide) (by first | assumption | omega) (by first | assumption | omega) (fun c29 => ?_) (fun c29 => ?_)
    · obtain rfl : u = m 2 := by omega
      refine x_iconst B dL_sound_216 ?_
      refine x_istore B dL_sound_217 (by decide) ?_
      refine x_locs (L' := [(0, .ref e), (1, vi (m 2)), (2, vi (m 3)), (3, vi (cn m 1)), (4, vi (cn m 2)), (5, vi (cn m 16)), (6, vi (snT m 0)), (7, vi 0)]) (xl_cons (rfl) (xl_cons (rfl) (xl_cons (rfl) (xl_cons (rfl) (xl_cons (rfl) (xl_cons (rfl) (xl_cons (rfl) (xl_cons (rfl) xl_nil)))))))) ?_
      exact snd_2 B R ho 8 0 (by omega) (by omega) (by omega)
    · obtain ⟨f1, f2, f3, f4, f5⟩ := fu hI ho.Q u0 (show u < m 2 by omega)
      refine x_aload_n B dL_sound_32 rfl ?_
      refine x_iload B dL_sound_33 rfl ?_
      refine x_iconst B dL_sound_35 ?_
      refine x_qd B mvL_15 (q_unitInfo (by first | assumption | omega) (by first | assumption | omega) (by first | assumption | omega)) dL_sound_36 rfl rfl (by decide) (by decide) (Nat.le_of_ble_eq_true rfl) (fun _ h => h) (fun r36 => ?_)
      refine x_istore B dL_sound_39 (by decide) ?_
      refine x_aload_n B dL_sound_41 rfl ?_
      refine x_iload B dL_sound_42 rfl ?_
      refine x_iconst B dL_sound_44 ?_
      refine x_qd B mvL_15 (q_unitInfo (by first | assumption | omega) (by first | assumption | omega) (by first | assumption | omega)) dL_sound_45 rfl rfl (by decide) (by decide) (Nat.le_of_ble_eq_true rfl) (fun _ h => h) (fun r45 => ?_)
      refine x_istore B dL_sound_48 (by decide) ?_
      refine x_iload_n B dL_sound_50 rfl ?_
      refine x_aload_n B dL_sound_51 rfl ?_
      refine x_iload B dL_sound_52 rfl ?_
      refine x_iconst B dL_sound_54 ?_
      refine x_qd B mvL_15 (q_unitInfo (by first | assumption | omega) (by first | assumption | omega) (by first | assumption | omega)) dL_sound_55 rfl rfl (by decide) (by decide) (Nat.le_of_ble_eq_true rfl) (fun _ h => h) (fun r55 => ?_)
      refine x_iadd B dL_sound_58 ?_
      refine x_istore_n B dL_sound_59 (by decide) ?_
      refine x_iload B dL_sound_60 rfl ?_
      refine x_aload_n B dL_sound_62 rfl ?_
      refine x_iload B dL_sound_63 rfl ?_
      refine x_iconst B dL_sound_65 ?_
      refine x_qd B mvL_15 (q_unitInfo (by first | assumption | omega) (by first | assumption | omega) (by first | assumption | omega)) dL_sound_66 rfl rfl (by decide) (by decide) (Nat.le_of_ble_eq_true rfl) (fun _ h => h) (fun r66 => ?_)
      refine x_iadd B dL_sound_69 ?_
      refine x_istore B dL_sound_70 (by decide) ?_
      refine x_iload B dL_sound_72 rfl ?_
      refine x_aload_n B dL_sound_74 rfl ?_
      refine x_iload B dL_sound_75 rfl ?_
      refine x_bipush B dL_sound_77 (by decide) ?_
      refine x_qd B mvL_15 (q_unitInfo (by first | assumption | omega) (by first | assumption | omega) (by first | assumption | omega)) dL_sound_79 rfl rfl (by decide) (by decide) (Nat.le_of_ble_eq_true rfl) (fun _ h => h) (fun r79 => ?_)
      refine x_iadd B dL_sound_82 ?_
      refine x_istore B dL_sound_83 (by decide) ?_
      refine x_cut0 149 (True) (fun K149 => ?_) (fun h149 => ?_)
      · refine x_iload B dL_sound_85 rfl ?_
        refine x_bipush B dL_sound_87 (by decide) ?_
        refine x_icmp_eq (tgt := 149) B dL_sound_89 (by decide) (by first | assumption | omega) (by first | assumption | omega) (fun c89 => ?_) (fun c89 => ?_)
        · exact K149 (trivial)
        · refine x_aload_n B dL_sound_92 rfl ?_
          refine x_iload B dL_sound_93 rfl ?_
          refine x_bipush B dL_sound_95 (by decide) ?_
          refine x_qd B mvL_21 (q_batchInfo (by first | assumption | omega) (by first | assumption | omega) (by first | assumption | omega)) dL_sound_97 rfl rfl (by decide) (by decide) (Nat.le_of_ble_eq_true rfl) (fun _ h => h) (fun r97 => ?_)
          refine x_iload B dL_sound_100 rfl ?_
          refine x_icmp_ne (tgt := 208) B dL_sound_102 (by decide) (by first | assumption | omega) (by first | assumption | omega) (fun c102 => ?_) (fun c102 => ?_)
          · exfalso; omega
          · refine x_iload B dL_sound_105 rfl ?_
            refine x_if_ne (tgt := 208) B dL_sound_107 (by decide) (by first | assumption | omega) (fun c107 => ?_) (fun c107 => ?_)
            · exfalso; omega
            · refine x_aload_n B dL_sound_110 rfl ?_
              refine x_iload B dL_sound_111 rfl ?_
              refine x_iconst B dL_sound_113 ?_
              refine x_qd B mvL_15 (q_unitInfo (by first | assumption | omega) (by first | assumption | omega) (by first | assumption | omega)) dL_sound_114 rfl rfl (by decide) (by decide) (Nat.le_of_ble_eq_true rfl) (fun _ h => h) (fun r114 => ?_)
              refine x_aload_n B dL_sound_117 rfl ?_
              refine x_iload B dL_sound_118 rfl ?_
              refine x_iconst B dL_sound_120 ?_
              refine x_qd B mvL_21 (q_batchInfo (by first | assumption | omega) (by first | assumption | omega) (by first | assumption | omega)) dL_sound_121 rfl rfl (by decide) (by decide) (Nat.le_of_ble_eq_true rfl) (fun _ h => h) (fun r121 => ?_)
              refine x_icmp_lt (tgt := 208) B dL_sound_124 (by decide) (by first | assumption | omega) (by first | assumption | omega) (fun c124 => ?_) (fun c124 => ?_)
              · exfalso; omega
              · refine x_aload_n B dL_sound_127 rfl ?_
                refine x_iload B dL_sound_128 rfl ?_
                refine x_iconst B dL_sound_130 ?_
                refine x_qd B mvL_21 (q_batchInfo (by first | assumption | omega) (by first | assumption | omega) (by first | assumption | omega)) dL_sound_131 rfl rfl (by decide) (by decide) (Nat.le_of_ble_eq_true rfl) (fun _ h => h) (fun r131 => ?_)
                refine x_iconst B dL_sound_134 ?_
                refine x_icmp_lt (tgt := 208) B dL_sound_135 (by decide) (by first | assumption | omega) (by first | assumption | omega) (fun c135 => ?_) (fun c135 => ?_)
                · exfalso; omega
                · refine x_aload_n B dL_sound_138 rfl ?_
                  refine x_iload B dL_sound_139 rfl ?_
                  refine x_iconst B dL_sound_141 ?_
                  refine x_qd B mvL_21 (q_batchInfo (by first | assumption | omega) (by first | assumption | omega) (by first | assumption | omega)) dL_sound_142 rfl rfl (by decide) (by decide) (Nat.le_of_ble_eq_true rfl) (fun _ h => h) (fun r142 => ?_)
                  refine x_iconst B dL_sound_145 ?_
                  refine x_icmp_gt (tgt := 208) B dL_sound_146 (by decide) (by first | assumption | omega) (by first | assumption | omega) (fun c146 => ?_) (fun c146 => ?_)
                  · exfalso; omega
                  · exact K149 (trivial)
      · refine x_iload B dL_sound_149 rfl ?_
        refine x_if_lt (tgt := 208) B dL_sound_151 (by decide) (by first | assumption | omega) (fun c151 => ?_) (fun c151 => ?_)
        · exfalso; omega
        · refine x_iload B dL_sound_154 rfl ?_
          refine x_bipush B dL_sound_156 (by decide) ?_
          refine x_icmp_gt (tgt := 208) B dL_sound_158 (by decide) (by first | assumption | omega) (by first | assumption | omega) (fun c158 => ?_) (fun c158 => ?_)
          · exfalso; omega
          · refine x_cutI 178 (fun zz => (zz = 1 ∧ ui m u 6 = 1) ∨ (zz = 0 ∧ ¬ ui m u 6 = 1)) (fun K178 => ?_) (fun z178 h178 => ?_)
            · refine x_aload_n B dL_sound_161 rfl ?_
              refine x_iload B dL_sound_162 rfl ?_
              refine x_bipush B dL_sound_164 (by decide) ?_
              refine x_qd B mvL_15 (q_unitInfo (by first | assumption | omega) (by first | assumption | omega) (by first | assumption | omega)) dL_sound_166 rfl rfl (by decide) (by decide) (Nat.le_of_ble_eq_true rfl) (fun _ h => h) (fun r166 => ?_)
              refine x_iconst B dL_sound_169 ?_
              refine x_icmp_ne (tgt := 177) B dL_sound_170 (by decide) (by first | assumption | omega) (by first | assumption | omega) (fun c170 => ?_) (fun c170 => ?_)
              · refine x_iconst B dL_sound_177 ?_
                exact K178 _ (by omega)
              · refine x_iconst B dL_sound_173 ?_
                refine x_goto (tgt := 178) B dL_sound_174 (by decide) ?_
                exact K178 _ (by omega)
            · refine x_cutI 205 (fun zz => (zz = 1 ∧ (ui m u 2 = -4 ∧ ui m u 4 = 0 ∧ ui m u 3 = 0)) ∨ (zz = 0 ∧ ¬ (ui m u 2 = -4 ∧ ui m u 4 = 0 ∧ ui m u 3 = 0))) (fun K205 => ?_) (fun z205 h205 => ?_)
              · refine x_iload B dL_sound_178 rfl ?_
                refine x_bipush B dL_sound_180 (by decide) ?_
                refine x_icmp_ne (tgt := 204) B dL_sound_182 (by decide) (by first | assumption | omega) (by first | assumption | omega) (fun c182 => ?_) (fun c182 => ?_)
                · refine x_iconst B dL_sound_204 ?_
                  exact K205 _ (by omega)
                · refine x_iload B dL_sound_185 rfl ?_
                  refine x_if_ne (tgt := 204) B dL_sound_187 (by decide) (by first | assumption | omega) (fun c187 => ?_) (fun c187 => ?_)
                  · refine x_iconst B dL_sound_204 ?_
                    exact K205 _ (by omega)
                  · refine x_aload_n B dL_sound_190 rfl ?_
                    refine x_iload B dL_sound_191 rfl ?_
                    refine x_iconst B dL_sound_193 ?_
                    refine x_qd B mvL_15 (q_unitInfo (by first | assumption | omega) (by first | assumption | omega) (by first | assumption | omega)) dL_sound_194 rfl rfl (by decide) (by decide) (Nat.le_of_ble_eq_true rfl) (fun _ h => h) (fun r194 => ?_)
                    refine x_if_ne (tgt := 204) B dL_sound_197 (by decide) (by first | assumption | omega) (fun c197 => ?_) (fun c197 => ?_)
                    · refine x_iconst B dL_sound_204 ?_
                      exact K205 _ (by omega)
                    · refine x_iconst B dL_sound_200 ?_
                      refine x_goto (tgt := 205) B dL_sound_201 (by decide) ?_
                      exact K205 _ (by omega)
              · refine x_icmp_eq (tgt := 210) B dL_sound_205 (by decide) (by first | assumption | omega) (by first | assumption | omega) (fun c205 => ?_) (fun c205 => ?_)
                · refine x_iinc B dL_sound_210 rfl (by decide) ?_
                  refine x_goto (tgt := 26) B dL_sound_213 (by decide) ?_
                  refine x_locs (L' := [(0, .ref e), (1, vi (m 2)), (2, vi (m 3)), (3, vi (snB m (u + 1))), (4, vi (snF m (u + 1))), (5, vi (snW m (u + 1))), (6, vi 0), (7, vi (u + 1))]) (xl_cons (rfl) (xl_cons (rfl) (xl_cons (rfl) (xl_cons (by rw [snB_s u0]; rfl) (xl_cons (by rw [snF_s u0]; rfl) (xl_cons (by rw [snW_s u0]; rfl) (xl_cons (rfl) (xl_cons (rfl) xl_nil)))))))) ?_
                  exact ih (u + 1) (by omega) (by omega) (by omega)
                · exfalso; omega
end SND
theorem c_L_sound {G : xG} {l : Launch} {e : Nat} {m : Int → Int} {ρ : Nat → Int → Int} (h1 : OK m ρ) : CT G l yL_sound cL_sound 18 (some .boolean) ({ frames := 5, cells := 0, slots := 0, locals := 115 } : Room) 0 0 [.ref e] (PE G e m ρ) (pZ True (PE G e m ρ)) (AE e) := by
  refine x_met1 (own := RL) (nm := "sound") (L := [(0, .ref e)]) (by decide) rfl rfl (fun _ => rfl) (Nat.le_of_ble_eq_true rfl) rfl rfl ?_
  intro Γ B R
  have hI := h1.I
  have hb := hI.b
  refine x_aload_n B dL_sound_0 rfl ?_
  refine x_iconst B dL_sound_1 ?_
  refine x_qd B mvL_9 (q_count (by first | assumption | omega) (by first | assumption | omega)) dL_sound_2 rfl rfl (by decide) (by decide) (Nat.le_of_ble_eq_true rfl) (fun _ h => h) (fun r2 => ?_)
  refine x_istore_n B dL_sound_5 (by decide) ?_
  refine x_aload_n B dL_sound_6 rfl ?_
  refine x_iconst B dL_sound_7 ?_
  refine x_qd B mvL_9 (q_count (by first | assumption | omega) (by first | assumption | omega)) dL_sound_8 rfl rfl (by decide) (by decide) (Nat.le_of_ble_eq_true rfl) (fun _ h => h) (fun r8 => ?_)
  refine x_istore_n B dL_sound_11 (by decide) ?_
  refine x_iconst B dL_sound_12 ?_
  refine x_istore_n B dL_sound_13 (by decide) ?_
  refine x_iconst B dL_sound_14 ?_
  refine x_istore B dL_sound_15 (by decide) ?_
  refine x_iconst B dL_sound_17 ?_
  refine x_istore B dL_sound_18 (by decide) ?_
  refine x_iconst B dL_sound_20 ?_
  refine x_istore B dL_sound_21 (by decide) ?_
  refine x_iconst B dL_sound_23 ?_
  refine x_istore B dL_sound_24 (by decide) ?_
  refine x_locs (L' := [(0, .ref e), (1, vi (m 2)), (2, vi (m 3)), (3, vi (snB m 0)), (4, vi (snF m 0)), (5, vi (snW m 0)), (6, vi 0), (7, vi 0)]) (xl_cons (rfl) (xl_cons (rfl) (xl_cons (rfl) (xl_cons (rfl) (xl_cons (rfl) (xl_cons (rfl) (xl_cons (rfl) (xl_cons (rfl) xl_nil)))))))) ?_
  exact snd_1 B R h1 9 0 (by omega) (by omega) (by omega)
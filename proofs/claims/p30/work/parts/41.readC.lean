/-! ===== the class's Text: a phase, a text ===== -/
section DG
variable {T : Int → Int} {n : Int}
theorem ph3_digit {kd dr pc yl a : Int} (hd : 48 ≤ t_cur T n a ∧ t_cur T n a ≤ 57) : t_ph3 T n kd dr pc yl a = (t_flt n a, a, 0) := by
  have hm : t_mk T n a = 0 := by unfold t_mk; rw [if_neg (by omega)]
  unfold t_ph3
  rw [hm, Int.add_zero, if_neg (by omega)]
theorem ph1_digit {kd dr a : Int} (hd : 48 ≤ t_cur T n a ∧ t_cur T n a ≤ 57) : t_ph1 T n kd dr a = (t_flt n a, a, 0) := by
  have hy : t_yld T n a = (0, a, 100) := by unfold t_yld; rw [if_neg (by omega)]
  unfold t_ph1
  rw [if_neg (by omega)]
  unfold t_ph2
  rw [hy]
  simp only [ne_eq, not_true_eq_false, if_false]
  exact ph3_digit hd
end DG
/-- where reading a phase has come to -/
def RX (G : xG) (t : Nat) (T : Int → Int) (n pc k : Int) (w0 : Int) (vs0 : Nat → Int → Int) (r : Int × Int × Int) (H : Heap) : Prop := ∃ pl at_ vs, TX G t T n (if r.1 = 0 then pc + 1 else pc) r.1 pl at_ vs H ∧ (r.1 = 0 → at_ = r.2.1 ∧ ∀ w : Int, w0 ≤ w → w < 5 → vs w.toNat k = pt r.2.2 w) ∧ (r.1 ≠ 0 → pl = r.2.1) ∧ ∀ (w : Nat) (j : Int), (j ≠ k ∨ (w : Int) < w0) → vs w j = vs0 w j
theorem ur_at {vs : Nat → Int → Int} {w : Nat} {k v : Int} : ur vs w (up (vs w) k v) w k = v := by rw [ur_eq, up_eq rfl]
theorem ur_off {vs : Nat → Int → Int} {w w' : Nat} {k j v : Int} (h : w' ≠ w ∨ j ≠ k) : ur vs w (up (vs w) k v) w' j = vs w' j := by
  by_cases e : w' = w
  · subst e
    rw [ur_eq, up_ne (by omega)]
  · rw [ur_ne e]
theorem c_X4_readRest {G : xG} {l : Launch} {t : Nat} {T : Int → Int} {n pc pl a k kd : Int} {vs0 : Nat → Int → Int} {r : Int × Int × Int} (hT : okT T n) (ha : 0 ≤ a ∧ a ≤ n) (hk : 0 ≤ k ∧ k < 8) (hpc : 0 ≤ pc ∧ pc ≤ 8) (hkd : 0 ≤ kd ∧ kd ≤ 3) (hr : r = if (t_num T n 2 99 a).1 ≠ 0 then ((t_num T n 2 99 a).1, (t_num T n 2 99 a).2.1, 0) else t_ph1 T n kd (t_num T n 2 99 a).2.2 (t_num T n 2 99 a).2.1) : CT G l yX4_readRest cX4_readRest 2 none ({ frames := 3, cells := 0, slots := 0, locals := 67 } : Room) 0 0 [.ref t, vi k] (TX G t T n pc 0 pl a vs0) (pV (RX G t T n pc k 1 vs0 r)) (AT t) := by
  refine x_met1 (own := RX4) (nm := "readRest") (L := [(0, .ref t), (1, vi k)]) (by decide) rfl rfl (fun _ => rfl) (Nat.le_of_ble_eq_true rfl) rfl rfl ?_
  intro Γ B R
  have hn := hT.1
  have hfl := fun z => flt_rg (n := n) z
  have tail86 : ∀ (rs pl a p : Int) (vs : Nat → Int → Int), (0 ≤ a ∧ a ≤ 200) → (rs ≠ 0 → r.1 = rs ∧ r.2.1 = pl) → (rs = 0 → a ≤ n ∧ r = (if t_cur T n a = 59 then (0, a + 1, p) else (t_flt n a, a, 0)) ∧ ∀ w : Int, 1 ≤ w → w < 5 → vs w.toNat k = pt p w) → (∀ (w : Nat) (j : Int), (j ≠ k ∨ (w : Int) < 1) → vs w j = vs0 w j) → XJ Γ 0 0 (TX G t T n pc rs pl a vs) 86 [(0, .ref t), (1, vi k)] [] := by
    intro rs pl a p vs ha hA hB hC
    have q := hfl a
    refine x_aload_n B dX4_readRest_86 rfl ?_
    refine x_bipush B dX4_readRest_87 (by decide) ?_
    refine x_mZ B mvX4_62 (fun l => c_X4_passes hT (by omega) (by omega)) dX4_readRest_89 rfl rfl (by decide) (by decide) (Nat.le_of_ble_eq_true rfl) TX.rv ?_
    refine x_ifz_eq (tgt := 108) B dX4_readRest_92 (by decide) (fun c92 => ?_) (fun c92 => ?_)
    · rw [if_neg (by assumption)]
      refine x_aload_n B dX4_readRest_108 rfl ?_
      refine x_getI B fgX4_30 dX4_readRest_109 TX.g4 (fun r109 => ?_)
      refine x_if_ne (tgt := 119) B dX4_readRest_112 (by decide) (by omega) (fun c112 => ?_) (fun c112 => ?_)
      · exact x_retV B R dX4_readRest_119 (fun H h => by first
  | (obtain ⟨g1, g2⟩ := hA (by omega); exact ⟨pl, a, vs, by rw [g1, if_neg (by omega)]; exact h, fun z => by omega, fun _ => g2.symm, hC⟩)
  | (rw [b2]; exact ⟨pl, a + 1, vs, by rw [if_pos rfl, show (0 : Int) = rs by omega]; exact h, fun _ => ⟨rfl, b3⟩, fun z => absurd rfl z, hC⟩)
  | (rw [b2]; exact ⟨a, a, vs, by rw [if_neg (by simp only; omega)]; exact h, fun z => by simp only at z; omega, fun _ => rfl, hC⟩))
      · obtain ⟨b1, b2, b3⟩ := hB (by omega)
        rw [if_neg (by omega)] at b2
        refine x_aload_n B dX4_readRest_115 rfl ?_
        refine x_mN B mvX4_47 (fun l => c_X4_blameCurrent (by omega)) dX4_readRest_116 rfl rfl (by decide) (by decide) (Nat.le_of_ble_eq_true rfl) TX.rv ?_
        exact x_retV B R dX4_readRest_119 (fun H h => by first
  | (obtain ⟨g1, g2⟩ := hA (by omega); exact ⟨pl, a, vs, by rw [g1, if_neg (by omega)]; exact h, fun z => by omega, fun _ => g2.symm, hC⟩)
  | (rw [b2]; exact ⟨pl, a + 1, vs, by rw [if_pos rfl, show (0 : Int) = rs by omega]; exact h, fun _ => ⟨rfl, b3⟩, fun z => absurd rfl z, hC⟩)
  | (rw [b2]; exact ⟨a, a, vs, by rw [if_neg (by simp only; omega)]; exact h, fun z => by simp only at z; omega, fun _ => rfl, hC⟩))
    · obtain ⟨b1, b2, b3⟩ := hB (by omega)
      rw [if_pos (by omega)] at b2
      rw [if_pos (by omega)]
      refine x_aload_n B dX4_readRest_95 rfl ?_
      refine x_dup B dX4_readRest_96 rfl ?_
      refine x_getI B fgX4_33 dX4_readRest_97 TX.g3 (fun r97 => ?_)
      refine x_iconst B dX4_readRest_100 ?_
      refine x_iadd B dX4_readRest_101 ?_
      refine x_put B fpX4_33 dX4_readRest_102 rfl rfl (by unfold AT; omega) (TX.p3 (by omega)) ?_
      refine x_goto (tgt := 119) B dX4_readRest_105 (by decide) ?_
      exact x_retV B R dX4_readRest_119 (fun H h => by first
  | (obtain ⟨g1, g2⟩ := hA (by omega); exact ⟨pl, a, vs, by rw [g1, if_neg (by omega)]; exact h, fun z => by omega, fun _ => g2.symm, hC⟩)
  | (rw [b2]; exact ⟨pl, a + 1, vs, by rw [if_pos rfl, show (0 : Int) = rs by omega]; exact h, fun _ => ⟨rfl, b3⟩, fun z => absurd rfl z, hC⟩)
  | (rw [b2]; exact ⟨a, a, vs, by rw [if_neg (by simp only; omega)]; exact h, fun z => by simp only at z; omega, fun _ => rfl, hC⟩))
  have tail69 : ∀ (rs pl a dr ps yl : Int) (vs : Nat → Int → Int), (0 ≤ a ∧ a ≤ 150) → (rs ≠ 0 → r.1 = rs ∧ r.2.1 = pl) → (rs = 0 → a ≤ n ∧ r = t_ph3 T n kd dr ps yl a ∧ vs 1 k = dr ∧ vs 2 k = ps ∧ vs 3 k = yl ∧ (1 ≤ dr ∧ dr ≤ 99) ∧ (-1 ≤ ps ∧ ps ≤ 2) ∧ (1 ≤ yl ∧ yl ≤ 100)) → (∀ (w : Nat) (j : Int), (j ≠ k ∨ (w : Int) < 1) → vs w j = vs0 w j) → XJ Γ 0 0 (TX G t T n pc rs pl a vs) 69 [(0, .ref t), (1, vi k)] [] := by
    intro rs pl a dr ps yl vs ha hA hB hC
    have hc := cur_rg hT ha.1
    refine x_aload_n B dX4_readRest_69 rfl ?_
    refine x_get B fgX4_17 dX4_readRest_70 (fun _ h => ⟨_, TX.o h, rfl⟩) ?_
    refine x_iconst B dX4_readRest_73 ?_
    refine x_aaldA (j := 2) B dX4_readRest_74 rfl (by omega) (by decide) (fun H h => ⟨h.2.2.1, rfl⟩) ?_
    refine x_iload_n B dX4_readRest_75 rfl ?_
    refine x_aload_n B dX4_readRest_76 rfl ?_
    refine x_bipush B dX4_readRest_77 (by decide) ?_
    refine x_mZ B mvX4_62 (fun l => c_X4_passes hT (by omega) (by omega)) dX4_readRest_79 rfl rfl (by decide) (by decide) (Nat.le_of_ble_eq_true rfl) TX.rv ?_
    refine x_snV B mnX4_69 nestX4_69 (fun l => c_X6_oneIf ) dX4_readRest_82 rfl rfl (by decide) (by decide) (Nat.le_of_ble_eq_true rfl) (fun r82 => ?_)
    refine x_iast B dX4_readRest_85 (by omega) (by decide) (by unfold AT; omega) (TX.sv (w := 4) (by omega) (by omega)) ?_
    have hbz := bz_rg (rs = 0 ∧ t_cur T n a = 97)
    have hmk : rs = 0 → t_mk T n a = bz (rs = 0 ∧ t_cur T n a = 97) := fun z => by
      unfold t_mk
      by_cases q : t_cur T n a = 97
      · rw [if_pos q, bz_t ⟨z, q⟩]
      · rw [if_neg q, bz_f (fun y => q y.2)]
    have hat : (if rs = 0 ∧ t_cur T n a = 97 then a + 1 else a) = a + bz (rs = 0 ∧ t_cur T n a = 97) := by
      by_cases q : rs = 0 ∧ t_cur T n a = 97
      · rw [if_pos q, bz_t q]
      · rw [if_neg q, bz_f q]; omega
    have hlt : bz (rs = 0 ∧ t_cur T n a = 97) = 1 → a < n := fun z => by
      have := bz_ne.mp (show bz (rs = 0 ∧ t_cur T n a = 97) ≠ 0 by omega)
      omega
    rw [hat]
    generalize bz (rs = 0 ∧ t_cur T n a = 97) = mk at *
    refine tail86 rs pl (a + mk) (kd + dr * 4 + (ps + 1) * 512 + yl * 2048 + mk * 262144) _ (by omega) hA (fun z => ?_) (fun w j hw => by rw [ur_off (by omega)]; exact hC w j hw)
    obtain ⟨b1, b2, b3, b4, b5, b6, b7, b8⟩ := hB z
    have hm := hmk z
    refine ⟨by omega, ?_, fun w w0 w1 => ?_⟩
    · rw [b2]
      unfold t_ph3
      rw [hm]
    · have hw : w = 1 ∨ w = 2 ∨ w = 3 ∨ w = 4 := by omega
      unfold pt
      rcases hw with hw | hw | hw | hw <;> subst hw
      · rw [ur_off (Or.inl (by decide)), show vs (Int.toNat 1) k = dr from b3, if_neg (by decide), if_pos rfl]; omega
      · rw [ur_off (Or.inl (by decide)), show vs (Int.toNat 2) k = ps from b4, if_neg (by decide), if_neg (by decide), if_pos rfl]; omega
      · rw [ur_off (Or.inl (by decide)), show vs (Int.toNat 3) k = yl from b5, if_neg (by decide), if_neg (by decide), if_neg (by decide), if_pos rfl]; omega
      · rw [show Int.toNat 4 = 4 from rfl, ur_at, if_neg (by decide), if_neg (by decide), if_neg (by decide), if_neg (by decide)]; omega
  have tail40 : ∀ (rs pl a dr ps : Int) (vs : Nat → Int → Int), (0 ≤ a ∧ a ≤ 120) → (rs ≠ 0 → r.1 = rs ∧ r.2.1 = pl) → (rs = 0 → a ≤ n ∧ r = t_ph2 T n kd dr ps a ∧ vs 1 k = dr ∧ vs 2 k = ps ∧ (1 ≤ dr ∧ dr ≤ 99) ∧ (-1 ≤ ps ∧ ps ≤ 2)) → (∀ (w : Nat) (j : Int), (j ≠ k ∨ (w : Int) < 1) → vs w j = vs0 w j) → XJ Γ 0 0 (TX G t T n pc rs pl a vs) 40 [(0, .ref t), (1, vi k)] [] := by
    intro rs pl a dr ps vs ha hA hB hC
    have hc := cur_rg hT ha.1
    have hy : t_yld T n a = if t_cur T n a = 121 then t_num T n 3 100 (a + 1) else (0, a, 100) := rfl
    have h2 : t_ph2 T n kd dr ps a = if (t_yld T n a).1 ≠ 0 then ((t_yld T n a).1, (t_yld T n a).2.1, 0) else t_ph3 T n kd dr ps (t_yld T n a).2.2 (t_yld T n a).2.1 := rfl
    refine x_aload_n B dX4_readRest_40 rfl ?_
    refine x_get B fgX4_17 dX4_readRest_41 (fun _ h => ⟨_, TX.o h, rfl⟩) ?_
    refine x_iconst B dX4_readRest_44 ?_
    refine x_aaldA (j := 2) B dX4_readRest_45 rfl (by omega) (by decide) (fun H h => ⟨h.2.2.1, rfl⟩) ?_
    refine x_iload_n B dX4_readRest_46 rfl ?_
    refine x_aload_n B dX4_readRest_47 rfl ?_
    refine x_bipush B dX4_readRest_48 (by decide) ?_
    refine x_mZ B mvX4_62 (fun l => c_X4_passes hT (by omega) (by omega)) dX4_readRest_50 rfl rfl (by decide) (by decide) (Nat.le_of_ble_eq_true rfl) TX.rv ?_
    refine x_ifz_eq (tgt := 66) B dX4_readRest_53 (by decide) (fun c53 => ?_) (fun c53 => ?_)
    · rw [if_neg (by assumption)]
      refine x_bipush B dX4_readRest_66 (by decide) ?_
      refine x_iast B dX4_readRest_68 (by omega) (by decide) (by unfold AT; omega) (TX.sv (w := 3) (by omega) (by omega)) ?_
      first
        | (refine tail69 rs pl a dr ps 100 _ (by omega) hA (fun z => ?_) (fun w j hw => by rw [ur_off (by omega)]; exact hC w j hw)
           obtain ⟨b1, b2, b3, b4, b5, b6⟩ := hB z
           rw [if_neg (fun q => by omega)] at hy
           refine ⟨b1, ?_, by rw [ur_off (Or.inl (by decide))]; exact b3, by rw [ur_off (Or.inl (by decide))]; exact b4, ur_at, b5, b6, by omega⟩
           rw [b2, h2, hy]
           simp only [ne_eq, not_true_eq_false, if_false])
        | (have q1 := hfl (a + 1)
           have q2 := hfl s.1
           refine tail69 _ _ s.1 dr ps s.2 _ (by omega) (fun z => ?_) (fun z => ?_) (fun w j hw => by rw [ur_off (by omega)]; exact hC w j hw)
           · rw [b2, h2, hy, hnm]
             by_cases e1 : s.1 = a + 1
             · rw [if_pos e1] at z ⊢
               rw [if_pos (by simp only; exact z), if_pos e1]
               exact ⟨rfl, (if_pos e1).symm⟩
             · rw [if_neg e1] at z ⊢
               by_cases e2 : ¬ (1 ≤ s.2 ∧ s.2 ≤ 100)
               · rw [if_pos e2] at z ⊢
                 rw [if_pos (show (2 : Int) ≠ 0 by decide), if_neg e1, if_pos e2]
                 exact ⟨rfl, by rw [if_neg e1, if_pos e2]⟩
               · rw [if_neg e2] at z; omega
           · by_cases e1 : s.1 = a + 1
             · rw [if_pos e1] at z; omega
             · rw [if_neg e1] at z
               by_cases e2 : ¬ (1 ≤ s.2 ∧ s.2 ≤ 100)
               · rw [if_pos e2] at z; omega
               · refine ⟨by omega, ?_, by rw [ur_off (Or.inl (by decide))]; exact b3, by rw [ur_off (Or.inl (by decide))]; exact b4, ur_at, b5, b6, by omega⟩
                 rw [b2, h2, hy, hnm, if_neg e1, if_neg e2]
                 by_cases e3 : 48 ≤ t_cur T n s.1 ∧ t_cur T n s.1 ≤ 57
                 · rw [if_pos e3, if_pos (by simp only; omega), ph3_digit e3]
                 · rw [if_neg e3]
                   simp only [ne_eq, not_true_eq_false, if_false])
    · rw [if_pos (by assumption)]
      obtain ⟨b1, b2, b3, b4, b5, b6⟩ := hB (by omega)
      rw [if_pos (by omega)] at hy
      have hs := scan_rg hT 3 (a + 1) 0 (by omega) (Int.le_refl 0)
      have hs5 : (t_scan T n 3 (a + 1) 0).2 + 1 ≤ 1000 := hs.2.2.2.2
      have hnm : t_num T n 3 100 (a + 1) = if (t_scan T n 3 (a + 1) 0).1 = a + 1 then (t_flt n (a + 1), a + 1, (t_scan T n 3 (a + 1) 0).2) else if ¬ (1 ≤ (t_scan T n 3 (a + 1) 0).2 ∧ (t_scan T n 3 (a + 1) 0).2 ≤ 100) then (2, a + 1, (t_scan T n 3 (a + 1) 0).2) else if 48 ≤ t_cur T n (t_scan T n 3 (a + 1) 0).1 ∧ t_cur T n (t_scan T n 3 (a + 1) 0).1 ≤ 57 then (t_flt n (t_scan T n 3 (a + 1) 0).1, (t_scan T n 3 (a + 1) 0).1, (t_scan T n 3 (a + 1) 0).2) else (0, (t_scan T n 3 (a + 1) 0).1, (t_scan T n 3 (a + 1) 0).2) := rfl
      refine x_aload_n B dX4_readRest_56 rfl ?_
      refine x_iconst B dX4_readRest_57 ?_
      refine x_bipush B dX4_readRest_58 (by decide) ?_
      refine x_mV B mvX4_58 (fun l => c_X4_readNumber (f := 3) hT (by omega) (by omega) (by omega)) dX4_readRest_60 rfl rfl (by decide) (by decide) (Nat.le_of_ble_eq_true rfl) TX.rv (fun r60 => ?_)
      generalize t_scan T n 3 (a + 1) 0 = s at *
      refine x_goto (tgt := 68) B dX4_readRest_63 (by decide) ?_
      refine x_iast B dX4_readRest_68 (by omega) (by decide) (by unfold AT; omega) (TX.sv (w := 3) (by omega) (by omega)) ?_
      first
        | (refine tail69 rs pl a dr ps 100 _ (by omega) hA (fun z => ?_) (fun w j hw => by rw [ur_off (by omega)]; exact hC w j hw)
           obtain ⟨b1, b2, b3, b4, b5, b6⟩ := hB z
           rw [if_neg (fun q => by omega)] at hy
           refine ⟨b1, ?_, by rw [ur_off (Or.inl (by decide))]; exact b3, by rw [ur_off (Or.inl (by decide))]; exact b4, ur_at, b5, b6, by omega⟩
           rw [b2, h2, hy]
           simp only [ne_eq, not_true_eq_false, if_false])
        | (have q1 := hfl (a + 1)
           have q2 := hfl s.1
           refine tail69 _ _ s.1 dr ps s.2 _ (by omega) (fun z => ?_) (fun z => ?_) (fun w j hw => by rw [ur_off (by omega)]; exact hC w j hw)
           · rw [b2, h2, hy, hnm]
             by_cases e1 : s.1 = a + 1
             · rw [if_pos e1] at z ⊢
               rw [if_pos (by simp only; exact z), if_pos e1]
               exact ⟨rfl, (if_pos e1).symm⟩
             · rw [if_neg e1] at z ⊢
               by_cases e2 : ¬ (1 ≤ s.2 ∧ s.2 ≤ 100)
               · rw [if_pos e2] at z ⊢
                 rw [if_pos (show (2 : Int) ≠ 0 by decide), if_neg e1, if_pos e2]
                 exact ⟨rfl, by rw [if_neg e1, if_pos e2]⟩
               · rw [if_neg e2] at z; omega
           · by_cases e1 : s.1 = a + 1
             · rw [if_pos e1] at z; omega
             · rw [if_neg e1] at z
               by_cases e2 : ¬ (1 ≤ s.2 ∧ s.2 ≤ 100)
               · rw [if_pos e2] at z; omega
               · refine ⟨by omega, ?_, by rw [ur_off (Or.inl (by decide))]; exact b3, by rw [ur_off (Or.inl (by decide))]; exact b4, ur_at, b5, b6, by omega⟩
                 rw [b2, h2, hy, hnm, if_neg e1, if_neg e2]
                 by_cases e3 : 48 ≤ t_cur T n s.1 ∧ t_cur T n s.1 ≤ 57
                 · rw [if_pos e3, if_pos (by simp only; omega), ph3_digit e3]
                 · rw [if_neg e3]
                   simp only [ne_eq, not_true_eq_false, if_false])
  have tail15 : ∀ (rs pl a dr : Int) (vs : Nat → Int → Int), (0 ≤ a ∧ a ≤ 110) → (rs ≠ 0 → r.1 = rs ∧ r.2.1 = pl) → (rs = 0 → a ≤ n ∧ r = t_ph1 T n kd dr a ∧ vs 1 k = dr ∧ (1 ≤ dr ∧ dr ≤ 99)) → (∀ (w : Nat) (j : Int), (j ≠ k ∨ (w : Int) < 1) → vs w j = vs0 w j) → XJ Γ 0 0 (TX G t T n pc rs pl a vs) 15 [(0, .ref t), (1, vi k)] [] := by
    intro rs pl a dr vs ha hA hB hC
    have hc := cur_rg hT ha.1
    have hc1 := cur_rg hT (a := a + 1) (by omega)
    have h1 : t_ph1 T n kd dr a = if t_cur T n a = 115 then (if 48 ≤ t_cur T n (a + 1) ∧ t_cur T n (a + 1) ≤ 50 then t_ph2 T n kd dr (t_cur T n (a + 1) - 48) (a + 2) else (t_flt n (a + 1), a + 1, 0)) else t_ph2 T n kd dr (-1) a := rfl
    refine x_aload_n B dX4_readRest_15 rfl ?_
    refine x_get B fgX4_17 dX4_readRest_16 (fun _ h => ⟨_, TX.o h, rfl⟩) ?_
    refine x_iconst B dX4_readRest_19 ?_
    refine x_aaldA (j := 2) B dX4_readRest_20 rfl (by omega) (by decide) (fun H h => ⟨h.2.2.1, rfl⟩) ?_
    refine x_iload_n B dX4_readRest_21 rfl ?_
    refine x_aload_n B dX4_readRest_22 rfl ?_
    refine x_bipush B dX4_readRest_23 (by decide) ?_
    refine x_mZ B mvX4_62 (fun l => c_X4_passes hT (by omega) (by omega)) dX4_readRest_25 rfl rfl (by decide) (by decide) (Nat.le_of_ble_eq_true rfl) TX.rv ?_
    refine x_ifz_eq (tgt := 38) B dX4_readRest_28 (by decide) (fun c28 => ?_) (fun c28 => ?_)
    · rw [if_neg (by assumption)]
      refine x_iconst B dX4_readRest_38 ?_
      refine x_iast B dX4_readRest_39 (by omega) (by decide) (by unfold AT; omega) (TX.sv (w := 2) (by omega) (by omega)) ?_
      first
        | (refine tail40 rs pl a dr (-1) _ (by omega) hA (fun z => ?_) (fun w j hw => by rw [ur_off (by omega)]; exact hC w j hw)
           obtain ⟨b1, b2, b3, b4⟩ := hB z
           rw [if_neg (fun q => by omega)] at h1
           exact ⟨b1, by rw [b2, h1], by rw [ur_off (Or.inl (by decide))]; exact b3, ur_at, b4, by omega⟩)
        | (have q1 := hfl (a + 1)
           by_cases e : 48 ≤ t_cur T n (a + 1) ∧ t_cur T n (a + 1) ≤ 50
           · rw [if_pos e] at h1
             rw [if_pos e, if_pos e, if_pos e, if_pos e]
             exact tail40 rs pl (a + 1 + 1) dr (t_cur T n (a + 1) - 48) _ (by omega) hA (fun z => ⟨by omega, by rw [b2, h1, show a + 1 + 1 = a + 2 by omega], by rw [ur_off (Or.inl (by decide))]; exact b3, ur_at, b4, by omega⟩) (fun w j hw => by rw [ur_off (by omega)]; exact hC w j hw)
           · rw [if_neg e] at h1
             rw [if_neg e, if_neg e, if_neg e, if_neg e]
             exact tail40 (t_flt n (a + 1)) (a + 1) (a + 1) dr (-1) _ (by omega) (fun z => by rw [b2, h1]; exact ⟨rfl, rfl⟩) (fun z => by omega) (fun w j hw => by rw [ur_off (by omega)]; exact hC w j hw))
    · rw [if_pos (by assumption)]
      obtain ⟨b1, b2, b3, b4⟩ := hB (by omega)
      rw [if_pos (by omega)] at h1
      refine x_aload_n B dX4_readRest_31 rfl ?_
      refine x_mV B mvX4_66 (fun l => c_X4_readPiece hT (by omega)) dX4_readRest_32 rfl rfl (by decide) (by decide) (Nat.le_of_ble_eq_true rfl) TX.rv (fun r32 => ?_)
      refine x_goto (tgt := 39) B dX4_readRest_35 (by decide) ?_
      refine x_iast B dX4_readRest_39 (by omega) (by decide) (by unfold AT; omega) (TX.sv (w := 2) (by omega) (by omega)) ?_
      first
        | (refine tail40 rs pl a dr (-1) _ (by omega) hA (fun z => ?_) (fun w j hw => by rw [ur_off (by omega)]; exact hC w j hw)
           obtain ⟨b1, b2, b3, b4⟩ := hB z
           rw [if_neg (fun q => by omega)] at h1
           exact ⟨b1, by rw [b2, h1], by rw [ur_off (Or.inl (by decide))]; exact b3, ur_at, b4, by omega⟩)
        | (have q1 := hfl (a + 1)
           by_cases e : 48 ≤ t_cur T n (a + 1) ∧ t_cur T n (a + 1) ≤ 50
           · rw [if_pos e] at h1
             rw [if_pos e, if_pos e, if_pos e, if_pos e]
             exact tail40 rs pl (a + 1 + 1) dr (t_cur T n (a + 1) - 48) _ (by omega) hA (fun z => ⟨by omega, by rw [b2, h1, show a + 1 + 1 = a + 2 by omega], by rw [ur_off (Or.inl (by decide))]; exact b3, ur_at, b4, by omega⟩) (fun w j hw => by rw [ur_off (by omega)]; exact hC w j hw)
           · rw [if_neg e] at h1
             rw [if_neg e, if_neg e, if_neg e, if_neg e]
             exact tail40 (t_flt n (a + 1)) (a + 1) (a + 1) dr (-1) _ (by omega) (fun z => by rw [b2, h1]; exact ⟨rfl, rfl⟩) (fun z => by omega) (fun w j hw => by rw [ur_off (by omega)]; exact hC w j hw))
  have hs := scan_rg hT 2 a 0 (by omega) (Int.le_refl 0)
  have hs5 : (t_scan T n 2 a 0).2 + 1 ≤ 100 := hs.2.2.2.2
  have hnm : t_num T n 2 99 a = if (t_scan T n 2 a 0).1 = a then (t_flt n a, a, (t_scan T n 2 a 0).2) else if ¬ (1 ≤ (t_scan T n 2 a 0).2 ∧ (t_scan T n 2 a 0).2 ≤ 99) then (2, a, (t_scan T n 2 a 0).2) else if 48 ≤ t_cur T n (t_scan T n 2 a 0).1 ∧ t_cur T n (t_scan T n 2 a 0).1 ≤ 57 then (t_flt n (t_scan T n 2 a 0).1, (t_scan T n 2 a 0).1, (t_scan T n 2 a 0).2) else (0, (t_scan T n 2 a 0).1, (t_scan T n 2 a 0).2) := rfl
  refine x_aload_n B dX4_readRest_0 rfl ?_
  refine x_get B fgX4_17 dX4_readRest_1 (fun _ h => ⟨_, TX.o h, rfl⟩) ?_
  refine x_iconst B dX4_readRest_4 ?_
  refine x_aaldA (j := 2) B dX4_readRest_5 rfl (by omega) (by decide) (fun H h => ⟨h.2.2.1, rfl⟩) ?_
  refine x_iload_n B dX4_readRest_6 rfl ?_
  refine x_aload_n B dX4_readRest_7 rfl ?_
  refine x_iconst B dX4_readRest_8 ?_
  refine x_bipush B dX4_readRest_9 (by decide) ?_
  refine x_mV B mvX4_58 (fun l => c_X4_readNumber (f := 2) hT (by omega) (by omega) (by omega)) dX4_readRest_11 rfl rfl (by decide) (by decide) (Nat.le_of_ble_eq_true rfl) TX.rv (fun r11 => ?_)
  generalize t_scan T n 2 a 0 = s at *
  refine x_iast B dX4_readRest_14 (by omega) (by decide) (by unfold AT; omega) (TX.sv (w := 1) (by omega) (by omega)) ?_
  have q1 := hfl a
  have q2 := hfl s.1
  refine tail15 _ _ s.1 s.2 _ (by omega) (fun z => ?_) (fun z => ?_) (fun w j hw => by rw [ur_off (by omega)])
  · rw [hr, hnm]
    by_cases e1 : s.1 = a
    · rw [if_pos e1] at z ⊢
      rw [if_pos (by simp only; exact z), if_pos e1]
      exact ⟨rfl, (if_pos e1).symm⟩
    · rw [if_neg e1] at z ⊢
      by_cases e2 : ¬ (1 ≤ s.2 ∧ s.2 ≤ 99)
      · rw [if_pos e2] at z ⊢
        rw [if_pos (show (2 : Int) ≠ 0 by decide), if_neg e1, if_pos e2]
        exact ⟨rfl, by rw [if_neg e1, if_pos e2]⟩
      · rw [if_neg e2] at z; exact absurd rfl z
  · by_cases e1 : s.1 = a
    · rw [if_pos e1] at z; omega
    · rw [if_neg e1] at z
      by_cases e2 : ¬ (1 ≤ s.2 ∧ s.2 ≤ 99)
      · rw [if_pos e2] at z; omega
      · refine ⟨by omega, ?_, ur_at, by omega⟩
        rw [hr, hnm, if_neg e1, if_neg e2]
        by_cases e3 : 48 ≤ t_cur T n s.1 ∧ t_cur T n s.1 ≤ 57
        · rw [if_pos e3, if_pos (by simp only; omega), ph1_digit e3]
        · rw [if_neg e3]
          simp only [ne_eq, not_true_eq_false, if_false]

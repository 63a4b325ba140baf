/-! ===== the class's Text: a phase, a whole text, a character more ===== -/
section KD
variable {T : Int → Int} {n : Int}
theorem ph3_kd {kd dr pc yl a : Int} (hk : 0 ≤ kd ∧ kd ≤ 3) : (t_ph3 T n kd dr pc yl a).1 = 0 → (t_ph3 T n kd dr pc yl a).2.2 % 4 = kd := by
  have q := flt_rg (n := n) (a + t_mk T n a)
  unfold t_ph3
  split
  · intro _; simp only; omega
  · intro z; simp only at z; omega
theorem ph2_kd {kd dr pc a : Int} (hk : 0 ≤ kd ∧ kd ≤ 3) : (t_ph2 T n kd dr pc a).1 = 0 → (t_ph2 T n kd dr pc a).2.2 % 4 = kd := by
  unfold t_ph2
  split
  · next q => intro z; exact absurd z q
  · exact ph3_kd hk
theorem ph1_kd {kd dr a : Int} (hk : 0 ≤ kd ∧ kd ≤ 3) : (t_ph1 T n kd dr a).1 = 0 → (t_ph1 T n kd dr a).2.2 % 4 = kd := by
  have q := flt_rg (n := n) (a + 1)
  unfold t_ph1
  split
  · split
    · exact ph2_kd hk
    · intro z; simp only at z; omega
  · exact ph2_kd hk
end KD
theorem c_X4_readPhase {G : xG} {l : Launch} {t : Nat} {T : Int → Int} {n pl a k : Int} {vs : Nat → Int → Int} (hT : okT T n) (ha : 0 ≤ a ∧ a ≤ n) (hk : 0 ≤ k ∧ k ≤ 8) : CT G l yX4_readPhase cX4_readPhase 2 none ({ frames := 4, cells := 0, slots := 0, locals := 88 } : Room) 0 0 [.ref t] (TX G t T n k 0 pl a vs) (pV (RX G t T n k k 0 vs (t_phase T n k a))) (AT t) := by
  refine x_met1 (own := RX4) (nm := "readPhase") (L := [(0, .ref t)]) (by decide) rfl rfl (fun _ => rfl) (Nat.le_of_ble_eq_true rfl) rfl rfl ?_
  intro Γ B R
  have hn := hT.1
  have hc := cur_rg hT ha.1
  have hkd := kind_rg (t_cur T n a)
  have hf := flt_rg (n := n) a
  have hP1 : t_phase T n k a = if t_kind (t_cur T n a) = -1 then (t_flt n a, a, 0) else if k = 8 then (4, a, 0) else if (t_num T n 2 99 (a + 1)).1 ≠ 0 then ((t_num T n 2 99 (a + 1)).1, (t_num T n 2 99 (a + 1)).2.1, 0) else t_ph1 T n (t_kind (t_cur T n a)) (t_num T n 2 99 (a + 1)).2.2 (t_num T n 2 99 (a + 1)).2.1 := rfl
  generalize hr : t_phase T n k a = r at *
  refine x_aload_n B dX4_readPhase_0 rfl ?_
  refine x_mV B mvX4_39 (fun l => c_X4_current hT (by omega)) dX4_readPhase_1 rfl rfl (by decide) (by decide) (Nat.le_of_ble_eq_true rfl) TX.rv (fun r1 => ?_)
  refine x_sV B msX4_43 (fun l => c_X4_kindOf (by omega)) dX4_readPhase_4 rfl rfl (by decide) (by decide) (Nat.le_of_ble_eq_true rfl) (fun r4 => ?_)
  refine x_istore_n B dX4_readPhase_7 (by decide) ?_
  refine x_iload_n B dX4_readPhase_8 rfl ?_
  refine x_iconst B dX4_readPhase_9 ?_
  refine x_icmp_ne (tgt := 20) B dX4_readPhase_10 (by decide) (by omega) (by omega) (fun c10 => ?_) (fun c10 => ?_)
  · refine x_aload_n B dX4_readPhase_20 rfl ?_
    refine x_getI B fgX4_33 dX4_readPhase_21 TX.g3 (fun r21 => ?_)
    refine x_bipush B dX4_readPhase_24 (by decide) ?_
    refine x_icmp_lt (tgt := 41) B dX4_readPhase_26 (by decide) (by omega) (by omega) (fun c26 => ?_) (fun c26 => ?_)
    · refine x_aload_n B dX4_readPhase_41 rfl ?_
      refine x_dup B dX4_readPhase_42 rfl ?_
      refine x_getI B fgX4_24 dX4_readPhase_43 TX.g6 (fun r43 => ?_)
      refine x_iconst B dX4_readPhase_46 ?_
      refine x_iadd B dX4_readPhase_47 ?_
      refine x_put B fpX4_24 dX4_readPhase_48 rfl rfl (by unfold AT; omega) (TX.p6 (by omega)) ?_
      refine x_aload_n B dX4_readPhase_51 rfl ?_
      refine x_get B fgX4_17 dX4_readPhase_52 (fun _ h => ⟨_, TX.o h, rfl⟩) ?_
      refine x_iconst B dX4_readPhase_55 ?_
      refine x_aaldA (j := 2) B dX4_readPhase_56 rfl (by omega) (by decide) (fun H h => ⟨h.2.2.1, rfl⟩) ?_
      refine x_aload_n B dX4_readPhase_57 rfl ?_
      refine x_getI B fgX4_33 dX4_readPhase_58 TX.g3 (fun r58 => ?_)
      refine x_iload_n B dX4_readPhase_61 rfl ?_
      refine x_iast B dX4_readPhase_62 (by omega) (by decide) (by unfold AT; omega) (TX.sv (w := 0) (by omega) (by omega)) ?_
      refine x_aload_n B dX4_readPhase_63 rfl ?_
      refine x_aload_n B dX4_readPhase_64 rfl ?_
      refine x_getI B fgX4_33 dX4_readPhase_65 TX.g3 (fun r65 => ?_)
      refine x_mN B mvX4_54 (fun l => c_X4_readRest (a := a + 1) (kd := t_kind (t_cur T n a)) hT (by omega) (by omega) (by omega) (by omega) rfl) dX4_readPhase_68 rfl rfl (by decide) (by decide) (Nat.le_of_ble_eq_true rfl) TX.rv ?_
      exact x_retV B R dX4_readPhase_71 (fun H h => by first
  | (rw [if_pos (by omega)] at hP1
     rw [hP1]
     exact ⟨a, a, vs, by rw [if_neg (by simp only; omega)]; exact h, fun z => by simp only at z; omega, fun _ => rfl, fun w j _ => rfl⟩)
  | (rw [if_neg (by omega), if_pos (by omega)] at hP1
     rw [hP1]
     exact ⟨a, a, vs, by rw [if_neg (by simp only; omega)]; exact h, fun z => by simp only at z; omega, fun _ => rfl, fun w j _ => rfl⟩)
  | (rw [if_neg (by omega), if_neg (by omega)] at hP1
     rw [← hP1] at h
     obtain ⟨pl', at_, vs', g1, g2, g3, g4⟩ := h
     refine ⟨pl', at_, vs', g1, fun z => ⟨(g2 z).1, fun w w0 w1 => ?_⟩, g3, fun w j hw => ?_⟩
     · by_cases e : w = 0
       · subst e
         have e1 : vs' 0 k = t_kind (t_cur T n a) := by rw [g4 0 k (by omega), ur_at]
         have e2 : r.2.2 % 4 = t_kind (t_cur T n a) := by
           by_cases q : (t_num T n 2 99 (a + 1)).1 ≠ 0
           · rw [if_pos q] at hP1
             rw [hP1] at z
             exact absurd z q
           · rw [if_neg q] at hP1
             rw [hP1] at z ⊢
             exact ph1_kd (by omega) z
         show vs' (Int.toNat 0) k = pt r.2.2 0
         unfold pt
         rw [if_pos rfl, e2]
         exact e1
       · exact (g2 z).2 w (by omega) w1
     · rw [g4 w j (by omega), ur_off (by omega)]))
    · refine x_aload_n B dX4_readPhase_29 rfl ?_
      refine x_aload_n B dX4_readPhase_30 rfl ?_
      refine x_getI B fgX4_24 dX4_readPhase_31 TX.g6 (fun r31 => ?_)
      refine x_iconst B dX4_readPhase_34 ?_
      refine x_mN B mvX4_50 (fun l => c_X4_blame (by omega) (by omega)) dX4_readPhase_35 rfl rfl (by decide) (by decide) (Nat.le_of_ble_eq_true rfl) TX.rv ?_
      refine x_goto (tgt := 71) B dX4_readPhase_38 (by decide) ?_
      exact x_retV B R dX4_readPhase_71 (fun H h => by first
  | (rw [if_pos (by omega)] at hP1
     rw [hP1]
     exact ⟨a, a, vs, by rw [if_neg (by simp only; omega)]; exact h, fun z => by simp only at z; omega, fun _ => rfl, fun w j _ => rfl⟩)
  | (rw [if_neg (by omega), if_pos (by omega)] at hP1
     rw [hP1]
     exact ⟨a, a, vs, by rw [if_neg (by simp only; omega)]; exact h, fun z => by simp only at z; omega, fun _ => rfl, fun w j _ => rfl⟩)
  | (rw [if_neg (by omega), if_neg (by omega)] at hP1
     rw [← hP1] at h
     obtain ⟨pl', at_, vs', g1, g2, g3, g4⟩ := h
     refine ⟨pl', at_, vs', g1, fun z => ⟨(g2 z).1, fun w w0 w1 => ?_⟩, g3, fun w j hw => ?_⟩
     · by_cases e : w = 0
       · subst e
         have e1 : vs' 0 k = t_kind (t_cur T n a) := by rw [g4 0 k (by omega), ur_at]
         have e2 : r.2.2 % 4 = t_kind (t_cur T n a) := by
           by_cases q : (t_num T n 2 99 (a + 1)).1 ≠ 0
           · rw [if_pos q] at hP1
             rw [hP1] at z
             exact absurd z q
           · rw [if_neg q] at hP1
             rw [hP1] at z ⊢
             exact ph1_kd (by omega) z
         show vs' (Int.toNat 0) k = pt r.2.2 0
         unfold pt
         rw [if_pos rfl, e2]
         exact e1
       · exact (g2 z).2 w (by omega) w1
     · rw [g4 w j (by omega), ur_off (by omega)]))
  · refine x_aload_n B dX4_readPhase_13 rfl ?_
    refine x_mN B mvX4_47 (fun l => c_X4_blameCurrent (by omega)) dX4_readPhase_14 rfl rfl (by decide) (by decide) (Nat.le_of_ble_eq_true rfl) TX.rv ?_
    refine x_goto (tgt := 71) B dX4_readPhase_17 (by decide) ?_
    exact x_retV B R dX4_readPhase_71 (fun H h => by first
  | (rw [if_pos (by omega)] at hP1
     rw [hP1]
     exact ⟨a, a, vs, by rw [if_neg (by simp only; omega)]; exact h, fun z => by simp only at z; omega, fun _ => rfl, fun w j _ => rfl⟩)
  | (rw [if_neg (by omega), if_pos (by omega)] at hP1
     rw [hP1]
     exact ⟨a, a, vs, by rw [if_neg (by simp only; omega)]; exact h, fun z => by simp only at z; omega, fun _ => rfl, fun w j _ => rfl⟩)
  | (rw [if_neg (by omega), if_neg (by omega)] at hP1
     rw [← hP1] at h
     obtain ⟨pl', at_, vs', g1, g2, g3, g4⟩ := h
     refine ⟨pl', at_, vs', g1, fun z => ⟨(g2 z).1, fun w w0 w1 => ?_⟩, g3, fun w j hw => ?_⟩
     · by_cases e : w = 0
       · subst e
         have e1 : vs' 0 k = t_kind (t_cur T n a) := by rw [g4 0 k (by omega), ur_at]
         have e2 : r.2.2 % 4 = t_kind (t_cur T n a) := by
           by_cases q : (t_num T n 2 99 (a + 1)).1 ≠ 0
           · rw [if_pos q] at hP1
             rw [hP1] at z
             exact absurd z q
           · rw [if_neg q] at hP1
             rw [hP1] at z ⊢
             exact ph1_kd (by omega) z
         show vs' (Int.toNat 0) k = pt r.2.2 0
         unfold pt
         rw [if_pos rfl, e2]
         exact e1
       · exact (g2 z).2 w (by omega) w1
     · rw [g4 w j (by omega), ur_off (by omega)]))
/-- a text that was read -/
def RT (G : xG) (t : Nat) (T : Int → Int) (n : Int) (r : Int × Int × List Int) (H : Heap) : Prop := ∃ k pl at_ vs, TX G t T n k r.1 pl at_ vs H ∧ (r.1 ≠ 0 → pl = r.2.1) ∧ (r.1 = 0 → k = r.2.2.length ∧ ∀ w : Nat, w < 5 → ∀ j : Nat, j < r.2.2.length → vs w j = pt (r.2.2.getD j 0) w)
theorem vsL_app {vs vs' : Nat → Int → Int} {l : List Int} {p : Int} (h : ∀ w : Nat, w < 5 → ∀ j : Nat, j < l.length → vs w j = pt (l.getD j 0) w) (h1 : ∀ w : Int, 0 ≤ w → w < 5 → vs' w.toNat (l.length : Int) = pt p w) (h2 : ∀ (w : Nat) (j : Int), j ≠ (l.length : Int) → vs' w j = vs w j) : ∀ w : Nat, w < 5 → ∀ j : Nat, j < (l ++ [p]).length → vs' w j = pt ((l ++ [p]).getD j 0) w := by
  intro w hw j hj
  rw [List.length_append] at hj
  simp only [List.length_singleton] at hj
  rw [List.getD_eq_getElem?_getD, List.getElem?_append]
  by_cases e : j = l.length
  · subst e
    rw [if_neg (by omega), Nat.sub_self]
    exact h1 w (by omega) (by omega)
  · rw [if_pos (by omega), h2 w j (by omega), h w hw j (by omega), List.getD_eq_getElem?_getD]
theorem c_X4_read {G : xG} {l : Launch} {t : Nat} {T : Int → Int} {n pc rs pl a : Int} {vs : Nat → Int → Int} (hT : okT T n) : CT G l yX4_read cX4_read 2 none ({ frames := 5, cells := 0, slots := 0, locals := 109 } : Room) 0 0 [.ref t] (TX G t T n pc rs pl a vs) (pV (RT G t T n (t_all T n))) (AT t) := by
  refine x_met1 (own := RX4) (nm := "read") (L := [(0, .ref t)]) (by decide) rfl rfl (fun _ => rfl) (Nat.le_of_ble_eq_true rfl) rfl rfl ?_
  intro Γ B R
  have hn := hT.1
  have loop : ∀ (f : Nat) (i k a pl rs : Int) (vs : Nat → Int → Int) (lst : List Int) (L : List (Nat × Value)), (0 ≤ i ∧ i + f ≤ 9) → (rs ≠ 0 → (t_all T n).1 = rs ∧ (t_all T n).2.1 = pl) → (rs = 0 → k + f = 9 ∧ 1 ≤ f ∧ (1 ≤ k ∧ k ≤ 8) ∧ (0 ≤ a ∧ a ≤ n) ∧ (lst.length : Int) = k ∧ t_all T n = (if a < n then t_go T n f k a lst else (0, a, lst)) ∧ ∀ w : Nat, w < 5 → ∀ j : Nat, j < lst.length → vs w j = pt (lst.getD j 0) w) → (∀ q ∈ [(0, Value.ref t), (1, vi i)], lget L q.1 = some q.2) → XJ Γ 0 0 (TX G t T n k rs pl a vs) 26 L [] := by
    intro f
    induction f with
    | zero =>
      intro i k a pl rs vs lst L hi hA hB hL
      refine x_locs hL ?_
      by_cases z : rs = 0
      · obtain ⟨b1, b2, -⟩ := hB z
        omega
      · obtain ⟨g1, g2⟩ := hA z
        refine x_iload_n B dX4_read_26 rfl ?_
        refine x_bipush B dX4_read_27 (by decide) ?_
        refine x_icmp_ge (tgt := 60) B dX4_read_29 (by decide) (by omega) (by omega) (fun c29 => ?_) (fun c29 => ?_)
        · exact x_retV B R dX4_read_60 (fun H h => by exact ⟨k, pl, a, vs, by rw [g1]; exact h, fun _ => g2.symm, fun y => by omega⟩)
        · refine x_aload_n B dX4_read_32 rfl ?_
          refine x_getI B fgX4_30 dX4_read_33 TX.g4 (fun r33 => ?_)
          refine x_if_ne (tgt := 60) B dX4_read_36 (by decide) (by omega) (fun c36 => ?_) (fun c36 => ?_)
          · exact x_retV B R dX4_read_60 (fun H h => by exact ⟨k, pl, a, vs, by rw [g1]; exact h, fun _ => g2.symm, fun y => by omega⟩)
          · omega
    | succ f ih =>
      intro i k a pl rs vs lst L hi hA hB hL
      refine x_locs hL ?_
      refine x_iload_n B dX4_read_26 rfl ?_
      refine x_bipush B dX4_read_27 (by decide) ?_
      refine x_icmp_ge (tgt := 60) B dX4_read_29 (by decide) (by omega) (by omega) (fun c29 => ?_) (fun c29 => ?_)
      · exact x_retV B R dX4_read_60 (fun H h => by first
  | (obtain ⟨g1, g2⟩ := hA (by omega)
     exact ⟨k, pl, a, vs, by rw [g1]; exact h, fun _ => g2.symm, fun y => by omega⟩)
  | (rw [if_neg (by omega)] at b6
     rw [b6]
     exact ⟨k, pl, a, vs, by rw [show (0 : Int) = rs by omega]; exact h, fun z => absurd rfl z, fun _ => ⟨b5.symm, b7⟩⟩))
      · refine x_aload_n B dX4_read_32 rfl ?_
        refine x_getI B fgX4_30 dX4_read_33 TX.g4 (fun r33 => ?_)
        refine x_if_ne (tgt := 60) B dX4_read_36 (by decide) (by omega) (fun c36 => ?_) (fun c36 => ?_)
        · exact x_retV B R dX4_read_60 (fun H h => by first
  | (obtain ⟨g1, g2⟩ := hA (by omega)
     exact ⟨k, pl, a, vs, by rw [g1]; exact h, fun _ => g2.symm, fun y => by omega⟩)
  | (rw [if_neg (by omega)] at b6
     rw [b6]
     exact ⟨k, pl, a, vs, by rw [show (0 : Int) = rs by omega]; exact h, fun z => absurd rfl z, fun _ => ⟨b5.symm, b7⟩⟩))
        · obtain ⟨b1, b2, b3, b4, b5, b6, b7⟩ := hB (by omega)
          refine x_aload_n B dX4_read_39 rfl ?_
          refine x_getI B fgX4_24 dX4_read_40 TX.g6 (fun r40 => ?_)
          refine x_aload_n B dX4_read_43 rfl ?_
          refine x_getI B fgX4_20 dX4_read_44 TX.g2 (fun r44 => ?_)
          refine x_icmp_ge (tgt := 60) B dX4_read_47 (by decide) (by omega) (by omega) (fun c47 => ?_) (fun c47 => ?_)
          · exact x_retV B R dX4_read_60 (fun H h => by first
  | (obtain ⟨g1, g2⟩ := hA (by omega)
     exact ⟨k, pl, a, vs, by rw [g1]; exact h, fun _ => g2.symm, fun y => by omega⟩)
  | (rw [if_neg (by omega)] at b6
     rw [b6]
     exact ⟨k, pl, a, vs, by rw [show (0 : Int) = rs by omega]; exact h, fun z => absurd rfl z, fun _ => ⟨b5.symm, b7⟩⟩))
          · rw [if_pos (by omega)] at b6
            refine x_weak (P' := TX G t T n k 0 pl a vs) (fun H h => by rw [show (0 : Int) = rs by omega]; exact h) ?_
            obtain ⟨g1, g2, g3⟩ := phase_rg hT (k := k) b4
            have hG : t_go T n (f + 1) k a lst = if (t_phase T n k a).1 ≠ 0 then ((t_phase T n k a).1, (t_phase T n k a).2.1, lst) else if (t_phase T n k a).2.1 < n then t_go T n f (k + 1) (t_phase T n k a).2.1 (lst ++ [(t_phase T n k a).2.2]) else (0, (t_phase T n k a).2.1, lst ++ [(t_phase T n k a).2.2]) := rfl
            rw [hG] at b6
            refine x_aload_n B dX4_read_50 rfl ?_
            refine x_mN B mvX4_36 (fun l => c_X4_readPhase (a := a) (k := k) (vs := vs) (pl := pl) hT (by omega) (by omega)) dX4_read_51 rfl rfl (by decide) (by decide) (Nat.le_of_ble_eq_true rfl) TX.rv ?_
            generalize t_phase T n k a = r at *
            refine x_ex (P' := fun p : Int × Int × (Nat → Int → Int) => fun H => ((r.1 = 0 → p.2.1 = r.2.1 ∧ ∀ w : Int, 0 ≤ w → w < 5 → p.2.2 w.toNat k = pt r.2.2 w) ∧ (r.1 ≠ 0 → p.1 = r.2.1) ∧ ∀ (w : Nat) (j : Int), (j ≠ k ∨ (w : Int) < 0) → p.2.2 w j = vs w j) ∧ TX G t T n (if r.1 = 0 then k + 1 else k) r.1 p.1 p.2.1 p.2.2 H) (fun H h => by obtain ⟨p1, p2, p3, q1, q2⟩ := h; exact ⟨(p1, p2, p3), q2, q1⟩) (fun p => ?_)
            obtain ⟨pl', a', vs'⟩ := p
            refine x_fact (fun H h => h.1) (fun hh => ?_)
            obtain ⟨h1, h2, h3⟩ := hh
            refine x_weak (fun H h => h.2) ?_
            simp only at h1 h2 h3
            refine x_iinc B dX4_read_54 rfl (by decide) ?_
            refine x_goto (tgt := 26) B dX4_read_57 (by decide) ?_
            refine ih (i + 1) _ a' pl' r.1 vs' (lst ++ [r.2.2]) _ (by omega) (fun z => ?_) (fun z => ?_) (xl_cons rfl (xl_cons rfl xl_nil))
            · rw [if_pos z] at b6
              rw [b6]
              exact ⟨rfl, (h2 z).symm⟩
            · rw [if_neg (by omega)] at b6
              rw [if_pos z]
              obtain ⟨h4, h5⟩ := h1 z
              have hk8 := (g3 z).2
              have hv := vsL_app (p := r.2.2) b7 (fun w w0 w1 => by rw [b5]; exact h5 w w0 w1) (fun w j hj => h3 w j (Or.inl (by omega)))
              refine ⟨by omega, by omega, by omega, by omega, by rw [List.length_append]; simp only [List.length_singleton]; omega, ?_, hv⟩
              rw [b6, h4]
  have hG : t_all T n = if (t_phase T n 0 0).1 ≠ 0 then ((t_phase T n 0 0).1, (t_phase T n 0 0).2.1, []) else if (t_phase T n 0 0).2.1 < n then t_go T n 8 1 (t_phase T n 0 0).2.1 [(t_phase T n 0 0).2.2] else (0, (t_phase T n 0 0).2.1, [(t_phase T n 0 0).2.2]) := rfl
  obtain ⟨g1, g2, g3⟩ := phase_rg hT (k := 0) (a := 0) (by omega)
  refine x_aload_n B dX4_read_0 rfl ?_
  refine x_iconst B dX4_read_1 ?_
  refine x_put B fpX4_24 dX4_read_2 rfl rfl (by unfold AT; omega) (TX.p6 (by omega)) ?_
  refine x_aload_n B dX4_read_5 rfl ?_
  refine x_iconst B dX4_read_6 ?_
  refine x_put B fpX4_27 dX4_read_7 rfl rfl (by unfold AT; omega) (TX.p5 (by omega)) ?_
  refine x_aload_n B dX4_read_10 rfl ?_
  refine x_iconst B dX4_read_11 ?_
  refine x_put B fpX4_30 dX4_read_12 rfl rfl (by unfold AT; omega) (TX.p4 (by omega)) ?_
  refine x_aload_n B dX4_read_15 rfl ?_
  refine x_iconst B dX4_read_16 ?_
  refine x_put B fpX4_33 dX4_read_17 rfl rfl (by unfold AT; omega) (TX.p3 (by omega)) ?_
  refine x_aload_n B dX4_read_20 rfl ?_
  refine x_mN B mvX4_36 (fun l => c_X4_readPhase (a := 0) (k := 0) hT (by omega) (by omega)) dX4_read_21 rfl rfl (by decide) (by decide) (Nat.le_of_ble_eq_true rfl) TX.rv ?_
  generalize t_phase T n 0 0 = r at *
  refine x_ex (P' := fun p : Int × Int × (Nat → Int → Int) => fun H => ((r.1 = 0 → p.2.1 = r.2.1 ∧ ∀ w : Int, 0 ≤ w → w < 5 → p.2.2 w.toNat 0 = pt r.2.2 w) ∧ (r.1 ≠ 0 → p.1 = r.2.1)) ∧ TX G t T n (if r.1 = 0 then 0 + 1 else 0) r.1 p.1 p.2.1 p.2.2 H) (fun H h => by obtain ⟨p1, p2, p3, q1, q2, q3, q4⟩ := h; exact ⟨(p1, p2, p3), ⟨q2, q3⟩, q1⟩) (fun p => ?_)
  obtain ⟨pl', a', vs'⟩ := p
  refine x_fact (fun H h => h.1) (fun hh => ?_)
  obtain ⟨h1, h2⟩ := hh
  refine x_weak (fun H h => h.2) ?_
  simp only at h1 h2
  refine x_iconst B dX4_read_24 ?_
  refine x_istore_n B dX4_read_25 (by decide) ?_
  refine loop 8 0 _ a' pl' r.1 vs' [r.2.2] _ (by omega) (fun z => ?_) (fun z => ?_) (xl_cons rfl (xl_cons rfl xl_nil))
  · rw [if_pos z] at hG
    rw [hG]
    exact ⟨rfl, (h2 z).symm⟩
  · rw [if_neg (by omega)] at hG
    rw [if_pos z]
    obtain ⟨h4, h5⟩ := h1 z
    refine ⟨by omega, by omega, by omega, by omega, rfl, ?_, fun w hw j hj => ?_⟩
    · rw [hG, h4]; rfl
    · have hj0 : j = 0 := by simpa using hj
      subst hj0
      exact h5 w (by omega) (by omega)
theorem nc_char {x : Int} (hx : 0 ≤ x ∧ x < 65536) : narrow .char (vi x) = vi x := by
  obtain ⟨n, rfl⟩ := Int.eq_ofNat_of_zero_le hx.1
  show Value.int _ = Value.int _
  congr 1
  rw [i32_nat]
  apply Int32.toBitVec.inj
  show (BitVec.ofNat 32 n) % 65536#32 = BitVec.ofNat 32 n
  rw [← BitVec.toNat_inj, BitVec.toNat_umod]
  simp
  omega
theorem TX.ac {G : xG} {t : Nat} {T : Int → Int} {n pc rs pl at_ z v : Int} {vs : Nat → Int → Int} : ∀ H, TX G t T n pc rs pl at_ vs H → aat G 1 (t + 1) 100 T H ∧ ∀ H1, aat G 1 (t + 1) 100 (up T z v) H1 → H1.size = H.size → (∀ q : Nat, q ≠ t + 1 → H1[q]? = H[q]?) → TX G t (up T z v) n pc rs pl at_ vs H1 := fun H ⟨h1, h2, h3, h4, h5⟩ => ⟨h2, fun H1 e _ hq => ⟨h1.kept (hq _ (by omega)), e, h3.kept (hq _ (by omega)), fun w hw => (h4 w hw).kept (hq _ (by omega)), h5⟩⟩
theorem c_X4_append {G : xG} {l : Launch} {t : Nat} {T : Int → Int} {n pc rs pl a c : Int} {vs : Nat → Int → Int} (hn : 0 ≤ n ∧ n < 100) (hc : 32 ≤ c ∧ c ≤ 126) : CT G l yX4_append cX4_append 2 none ({ frames := 0, cells := 0, slots := 0, locals := 0 } : Room) 0 0 [.ref t, vi c] (TX G t T n pc rs pl a vs) (pV (TX G t (up T n c) (n + 1) pc rs pl a vs)) (AT t) := by
  refine x_met1 (own := RX4) (nm := "append") (L := [(0, .ref t), (1, vi c)]) (by decide) rfl rfl (fun _ => rfl) (Nat.le_of_ble_eq_true rfl) rfl rfl ?_
  intro Γ B R
  refine x_aload_n B dX4_append_0 rfl ?_
  refine x_getI B fgX4_20 dX4_append_1 TX.g2 (fun r1 => ?_)
  refine x_bipush B dX4_append_4 (by decide) ?_
  refine x_icmp_ge (tgt := 29) B dX4_append_6 (by decide) (by omega) (by omega) (fun c6 => ?_) (fun c6 => ?_)
  · exact x_retV B R dX4_append_29 (fun H h => by first | exact h | (exfalso; omega))
  · refine x_aload_n B dX4_append_9 rfl ?_
    refine x_get B fgX4_9 dX4_append_10 (fun _ h => ⟨_, TX.o h, rfl⟩) ?_
    refine x_aload_n B dX4_append_13 rfl ?_
    refine x_getI B fgX4_20 dX4_append_14 TX.g2 (fun r14 => ?_)
    refine x_iload_n B dX4_append_17 rfl ?_
    refine x_cast B dX4_append_18 (by omega) (by decide) (by unfold AT; omega) (nc_char (by omega)) TX.ac ?_
    refine x_aload_n B dX4_append_19 rfl ?_
    refine x_dup B dX4_append_20 rfl ?_
    refine x_getI B fgX4_20 dX4_append_21 TX.g2 (fun r21 => ?_)
    refine x_iconst B dX4_append_24 ?_
    refine x_iadd B dX4_append_25 ?_
    refine x_put B fpX4_20 dX4_append_26 rfl rfl (by unfold AT; omega) (TX.p2 (by omega)) ?_
    exact x_retV B R dX4_append_29 (fun H h => by first | exact h | (exfalso; omega))

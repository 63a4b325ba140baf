/-! ===== the class's Text, walked ===== -/
def AT (t : Nat) : Nat → Prop := fun q => t ≤ q ∧ q < t + 8
def TX (G : xG) (t : Nat) (T : Int → Int) (n pc rs pl at_ : Int) (vs : Nat → Int → Int) (H : Heap) : Prop := oat G t 4 [.ref (t + 1), .ref (t + 2), vi n, vi pc, vi rs, vi pl, vi at_] H ∧ aat G 1 (t + 1) 100 T H ∧ rat G 2 (t + 2) 5 (fun k => some (t + 3 + k)) H ∧ (∀ w : Nat, w < 5 → aat G 0 (t + 3 + w) 8 (vs w) H) ∧ (-2147483648 ≤ n ∧ n < 2147483648) ∧ (-2147483648 ≤ pc ∧ pc < 2147483648) ∧ (-2147483648 ≤ rs ∧ rs < 2147483648) ∧ (-2147483648 ≤ pl ∧ pl < 2147483648) ∧ (-2147483648 ≤ at_ ∧ at_ < 2147483648) ∧ ∀ w k, -2147483648 ≤ vs w k ∧ vs w k < 2147483648
section TXS
variable {G : xG} {t : Nat} {T : Int → Int} {n pc rs pl at_ v z : Int} {vs : Nat → Int → Int}
theorem TX.o {H : Heap} (h : TX G t T n pc rs pl at_ vs H) : oat G t 4 [.ref (t + 1), .ref (t + 2), vi n, vi pc, vi rs, vi pl, vi at_] H := h.1
theorem TX.rv : ∀ H, TX G t T n pc rs pl at_ vs H → ∃ fs, oat G t 4 fs H := fun _ h => ⟨_, h.1⟩
theorem TX.kept {H H1 : Heap} (h : TX G t T n pc rs pl at_ vs H) (hq : ∀ q : Nat, t ≤ q → q < t + 8 → H1[q]? = H[q]?) : TX G t T n pc rs pl at_ vs H1 := by
  obtain ⟨h1, h2, h3, h4, h5⟩ := h
  exact ⟨h1.kept (hq _ (by omega) (by omega)), h2.kept (hq _ (by omega) (by omega)), h3.kept (hq _ (by omega) (by omega)), fun w hw => (h4 w hw).kept (hq _ (by omega) (by omega)), h5⟩
theorem TX.g2 : ∀ H, TX G t T n pc rs pl at_ vs H → ∃ fs, oat G t 4 fs H ∧ fs[2]? = some (vi n) ∧ (-2147483648 ≤ n ∧ n < 2147483648) := fun _ h => ⟨_, h.1, rfl, h.2.2.2.2.1⟩
theorem TX.g3 : ∀ H, TX G t T n pc rs pl at_ vs H → ∃ fs, oat G t 4 fs H ∧ fs[3]? = some (vi pc) ∧ (-2147483648 ≤ pc ∧ pc < 2147483648) := fun _ h => ⟨_, h.1, rfl, h.2.2.2.2.2.1⟩
theorem TX.g4 : ∀ H, TX G t T n pc rs pl at_ vs H → ∃ fs, oat G t 4 fs H ∧ fs[4]? = some (vi rs) ∧ (-2147483648 ≤ rs ∧ rs < 2147483648) := fun _ h => ⟨_, h.1, rfl, h.2.2.2.2.2.2.1⟩
theorem TX.g5 : ∀ H, TX G t T n pc rs pl at_ vs H → ∃ fs, oat G t 4 fs H ∧ fs[5]? = some (vi pl) ∧ (-2147483648 ≤ pl ∧ pl < 2147483648) := fun _ h => ⟨_, h.1, rfl, h.2.2.2.2.2.2.2.1⟩
theorem TX.g6 : ∀ H, TX G t T n pc rs pl at_ vs H → ∃ fs, oat G t 4 fs H ∧ fs[6]? = some (vi at_) ∧ (-2147483648 ≤ at_ ∧ at_ < 2147483648) := fun _ h => ⟨_, h.1, rfl, h.2.2.2.2.2.2.2.2.1⟩
theorem TX.p2 (hv : -2147483648 ≤ v ∧ v < 2147483648) : ∀ H, TX G t T n pc rs pl at_ vs H → ∃ fs, oat G t 4 fs H ∧ 2 < fs.length ∧ ∀ H1, oat G t 4 (fs.set 2 (vi v)) H1 → H1.size = H.size → (∀ q : Nat, q ≠ t → H1[q]? = H[q]?) → TX G t T v pc rs pl at_ vs H1 := fun H ⟨h1, h2, h3, h4, g1, g2, g3, g4, g5, g6⟩ => ⟨_, h1, Nat.le_of_ble_eq_true rfl, fun H1 e _ hq => ⟨e, h2.kept (hq _ (by omega)), h3.kept (hq _ (by omega)), fun w hw => (h4 w hw).kept (hq _ (by omega)), hv, g2, g3, g4, g5, g6⟩⟩
theorem TX.p3 (hv : -2147483648 ≤ v ∧ v < 2147483648) : ∀ H, TX G t T n pc rs pl at_ vs H → ∃ fs, oat G t 4 fs H ∧ 3 < fs.length ∧ ∀ H1, oat G t 4 (fs.set 3 (vi v)) H1 → H1.size = H.size → (∀ q : Nat, q ≠ t → H1[q]? = H[q]?) → TX G t T n v rs pl at_ vs H1 := fun H ⟨h1, h2, h3, h4, g1, g2, g3, g4, g5, g6⟩ => ⟨_, h1, Nat.le_of_ble_eq_true rfl, fun H1 e _ hq => ⟨e, h2.kept (hq _ (by omega)), h3.kept (hq _ (by omega)), fun w hw => (h4 w hw).kept (hq _ (by omega)), g1, hv, g3, g4, g5, g6⟩⟩
theorem TX.p4 (hv : -2147483648 ≤ v ∧ v < 2147483648) : ∀ H, TX G t T n pc rs pl at_ vs H → ∃ fs, oat G t 4 fs H ∧ 4 < fs.length ∧ ∀ H1, oat G t 4 (fs.set 4 (vi v)) H1 → H1.size = H.size → (∀ q : Nat, q ≠ t → H1[q]? = H[q]?) → TX G t T n pc v pl at_ vs H1 := fun H ⟨h1, h2, h3, h4, g1, g2, g3, g4, g5, g6⟩ => ⟨_, h1, Nat.le_of_ble_eq_true rfl, fun H1 e _ hq => ⟨e, h2.kept (hq _ (by omega)), h3.kept (hq _ (by omega)), fun w hw => (h4 w hw).kept (hq _ (by omega)), g1, g2, hv, g4, g5, g6⟩⟩
theorem TX.p5 (hv : -2147483648 ≤ v ∧ v < 2147483648) : ∀ H, TX G t T n pc rs pl at_ vs H → ∃ fs, oat G t 4 fs H ∧ 5 < fs.length ∧ ∀ H1, oat G t 4 (fs.set 5 (vi v)) H1 → H1.size = H.size → (∀ q : Nat, q ≠ t → H1[q]? = H[q]?) → TX G t T n pc rs v at_ vs H1 := fun H ⟨h1, h2, h3, h4, g1, g2, g3, g4, g5, g6⟩ => ⟨_, h1, Nat.le_of_ble_eq_true rfl, fun H1 e _ hq => ⟨e, h2.kept (hq _ (by omega)), h3.kept (hq _ (by omega)), fun w hw => (h4 w hw).kept (hq _ (by omega)), g1, g2, g3, hv, g5, g6⟩⟩
theorem TX.p6 (hv : -2147483648 ≤ v ∧ v < 2147483648) : ∀ H, TX G t T n pc rs pl at_ vs H → ∃ fs, oat G t 4 fs H ∧ 6 < fs.length ∧ ∀ H1, oat G t 4 (fs.set 6 (vi v)) H1 → H1.size = H.size → (∀ q : Nat, q ≠ t → H1[q]? = H[q]?) → TX G t T n pc rs pl v vs H1 := fun H ⟨h1, h2, h3, h4, g1, g2, g3, g4, g5, g6⟩ => ⟨_, h1, Nat.le_of_ble_eq_true rfl, fun H1 e _ hq => ⟨e, h2.kept (hq _ (by omega)), h3.kept (hq _ (by omega)), fun w hw => (h4 w hw).kept (hq _ (by omega)), g1, g2, g3, g4, hv, g6⟩⟩
theorem TX.sv {w : Nat} (hw : w < 5) (hv : -2147483648 ≤ v ∧ v < 2147483648) : ∀ H, TX G t T n pc rs pl at_ vs H → aat G 0 (t + 3 + w) 8 (vs w) H ∧ ∀ H1, aat G 0 (t + 3 + w) 8 (up (vs w) z v) H1 → H1.size = H.size → (∀ q : Nat, q ≠ t + 3 + w → H1[q]? = H[q]?) → TX G t T n pc rs pl at_ (ur vs w (up (vs w) z v)) H1 := by
  intro H ⟨h1, h2, h3, h4, g1, g2, g3, g4, g5, g6⟩
  refine ⟨h4 w hw, fun H1 e _ hq => ⟨h1.kept (hq _ (by omega)), h2.kept (hq _ (by omega)), h3.kept (hq _ (by omega)), fun w' hw' => ?_, g1, g2, g3, g4, g5, ur_rg g6 (up_rg (g6 w) hv)⟩⟩
  by_cases ew : w' = w
  · subst ew
    rw [ur_eq]
    exact e
  · rw [ur_ne ew]
    exact (h4 w' hw').kept (hq _ (by omega))
end TXS
theorem nestX4_69 : ∀ s, xN s → va_Nw (.methodLinkNest RX4 69 yX6_oneIf RX6) s := fun _ h => h.1.2.2.2.2.2.1
section XR11
variable {Γ : xE} {G : xG} {cc : ByteArray} {own : String} {nL : Nat} {rm : Room} {A : Nat → Prop} {kc ks pc : Nat} {P : Heap → Prop} {L : List (Nat × Value)} {st st0 : List Value}
variable {idx : Nat} {y : MethodName} {bytes : ByteArray} {nL' : Nat} {ret : Option FieldType} {n : Nat} {rm' : Room} {As : List Value} {P' : Heap → Prop}
theorem x_snV (B : XB Γ G cc own nL rm A) {r : Int} {host : String} (lk : LkSN y bytes nL' ret n) (hnest : ∀ s, xN s → va_Nw (.methodLinkNest own idx y host) s) (hM : ∀ l, CT G l y bytes nL' ret rm' 0 0 As P (pI r P') A)
    (d : decode cc pc = .ok (.invokestatic idx, 3)) (hst : st0 = As.reverse ++ st) (hn : As.length = n) (hR : rm'.cells = 0 ∧ rm'.slots = 0 ∧ rm'.frames + 1 ≤ rm.frames ∧ 8 + (nL' + 11) + rm'.locals ≤ rm.locals)
    (hf : kc ≤ rm.cells ∧ ks ≤ rm.slots) (hw : (st.map fun v => v.category).sum ≤ 8)
    (kk : (-2147483648 ≤ r ∧ r < 2147483648) → XJ Γ kc ks P' (pc + 3) L (vi r :: st)) : XJ Γ kc ks P pc L st0 :=
  x_callSNg B lk hnest hM d hst hn hR hf hw (fun _ h => h) (fun H h => h) (ι := PLift (-2147483648 ≤ r ∧ r < 2147483648)) (v := fun _ => some (vi r)) (P' := fun _ => P') (fun v' H H1 _ h _ _ => ⟨⟨h.2.1⟩, h.1, h.2.2⟩) (fun i => kk i.down)
end XR11
theorem c_X6_oneIf {G : xG} {l : Launch} {P : Heap → Prop} {A : Nat → Prop} {c : Prop} [Decidable c] : CT G l yX6_oneIf cX6_oneIf 1 (some .int) ({ frames := 0, cells := 0, slots := 0, locals := 0 } : Room) 0 0 [vi (bz c)] P (pI (bz c) P) A := by
  refine x_met1 (own := RX6) (nm := "oneIf") (L := [(0, vi (bz c))]) (by decide) rfl rfl (fun _ => rfl) (Nat.le_of_ble_eq_true rfl) rfl rfl ?_
  intro Γ B R
  refine x_iload_n B dX6_oneIf_0 rfl ?_
  refine x_ifz_eq (tgt := 8) B dX6_oneIf_1 (by decide) (fun q => ?_) (fun q => ?_)
  · refine x_iconst B dX6_oneIf_8 ?_
    exact x_retI B R dX6_oneIf_9 (bz_f q).symm (by have := bz_rg c; omega) (fun H h => h)
  · refine x_iconst B dX6_oneIf_4 ?_
    refine x_goto (tgt := 9) B dX6_oneIf_5 (by decide) ?_
    exact x_retI B R dX6_oneIf_9 (bz_t q).symm (by have := bz_rg c; omega) (fun H h => h)
theorem c_X4_blame {G : xG} {l : Launch} {t : Nat} {T : Int → Int} {n pc rs pl at_ p r : Int} {vs : Nat → Int → Int} (hp : -2147483648 ≤ p ∧ p < 2147483648) (hr : -2147483648 ≤ r ∧ r < 2147483648) : CT G l yX4_blame cX4_blame 3 none ({ frames := 0, cells := 0, slots := 0, locals := 0 } : Room) 0 0 [.ref t, vi p, vi r] (TX G t T n pc rs pl at_ vs) (pV (TX G t T n pc r p at_ vs)) (AT t) := by
  refine x_met1 (own := RX4) (nm := "blame") (L := [(0, .ref t), (1, vi p), (2, vi r)]) (by decide) rfl rfl (fun _ => rfl) (Nat.le_of_ble_eq_true rfl) rfl rfl ?_
  intro Γ B R
  refine x_aload_n B dX4_blame_0 rfl ?_
  refine x_iload_n B dX4_blame_1 rfl ?_
  refine x_put B fpX4_27 dX4_blame_2 rfl rfl (by unfold AT; omega) (TX.p5 (by omega)) ?_
  refine x_aload_n B dX4_blame_5 rfl ?_
  refine x_iload_n B dX4_blame_6 rfl ?_
  refine x_put B fpX4_30 dX4_blame_7 rfl rfl (by unfold AT; omega) (TX.p4 (by omega)) ?_
  exact x_retV B R dX4_blame_10 (fun H h => by exact h)
theorem c_X4_blameCurrent {G : xG} {l : Launch} {t : Nat} {T : Int → Int} {n pc rs pl at_ : Int} {vs : Nat → Int → Int} (ha : at_ ≤ n) : CT G l yX4_blameCurrent cX4_blameCurrent 1 none ({ frames := 1, cells := 0, slots := 0, locals := 22 } : Room) 0 0 [.ref t] (TX G t T n pc rs pl at_ vs) (pV (TX G t T n pc (t_flt n at_) at_ at_ vs)) (AT t) := by
  refine x_met1 (own := RX4) (nm := "blameCurrent") (L := [(0, .ref t)]) (by decide) rfl rfl (fun _ => rfl) (Nat.le_of_ble_eq_true rfl) rfl rfl ?_
  intro Γ B R
  refine x_aload_n B dX4_blameCurrent_0 rfl ?_
  refine x_aload_n B dX4_blameCurrent_1 rfl ?_
  refine x_getI B fgX4_24 dX4_blameCurrent_2 TX.g6 (fun r2 => ?_)
  refine x_aload_n B dX4_blameCurrent_5 rfl ?_
  refine x_getI B fgX4_24 dX4_blameCurrent_6 TX.g6 (fun r6 => ?_)
  refine x_aload_n B dX4_blameCurrent_9 rfl ?_
  refine x_getI B fgX4_20 dX4_blameCurrent_10 TX.g2 (fun r10 => ?_)
  refine x_icmp_ge (tgt := 20) B dX4_blameCurrent_13 (by decide) (by omega) (by omega) (fun c13 => ?_) (fun c13 => ?_)
  · refine x_iconst B dX4_blameCurrent_20 ?_
    refine x_mN B mvX4_50 (fun l => c_X4_blame (by omega) (by omega)) dX4_blameCurrent_21 rfl rfl (by decide) (by decide) (Nat.le_of_ble_eq_true rfl) TX.rv ?_
    exact x_retV B R dX4_blameCurrent_24 (fun H h => by unfold t_flt; first | (rw [if_pos (by omega)]; exact h) | (rw [if_neg (by omega)]; exact h))
  · refine x_iconst B dX4_blameCurrent_16 ?_
    refine x_goto (tgt := 21) B dX4_blameCurrent_17 (by decide) ?_
    refine x_mN B mvX4_50 (fun l => c_X4_blame (by omega) (by omega)) dX4_blameCurrent_21 rfl rfl (by decide) (by decide) (Nat.le_of_ble_eq_true rfl) TX.rv ?_
    exact x_retV B R dX4_blameCurrent_24 (fun H h => by unfold t_flt; first | (rw [if_pos (by omega)]; exact h) | (rw [if_neg (by omega)]; exact h))
theorem c_X4_current {G : xG} {l : Launch} {t : Nat} {T : Int → Int} {n pc rs pl at_ : Int} {vs : Nat → Int → Int} (hT : okT T n) (ha : 0 ≤ at_) : CT G l yX4_current cX4_current 1 (some .int) ({ frames := 0, cells := 0, slots := 0, locals := 0 } : Room) 0 0 [.ref t] (TX G t T n pc rs pl at_ vs) (pI (t_cur T n at_) (TX G t T n pc rs pl at_ vs)) (AT t) := by
  refine x_met1 (own := RX4) (nm := "current") (L := [(0, .ref t)]) (by decide) rfl rfl (fun _ => rfl) (Nat.le_of_ble_eq_true rfl) rfl rfl ?_
  intro Γ B R
  have hn := hT.1
  have hc := cur_rg hT ha
  have hd : t_cur T n at_ = if at_ < n then T at_ else -1 := rfl
  refine x_aload_n B dX4_current_0 rfl ?_
  refine x_getI B fgX4_24 dX4_current_1 TX.g6 (fun r1 => ?_)
  refine x_if_lt (tgt := 39) B dX4_current_4 (by decide) (by omega) (fun c4 => ?_) (fun c4 => ?_)
  · refine x_iconst B dX4_current_39 ?_
    exact x_retI B R dX4_current_40 (by first | (exfalso; omega) | rw [hd, if_pos (by omega)] | rw [hd, if_neg (by omega)]) (by omega) (fun H h => by exact h)
  · refine x_aload_n B dX4_current_7 rfl ?_
    refine x_getI B fgX4_24 dX4_current_8 TX.g6 (fun r8 => ?_)
    refine x_aload_n B dX4_current_11 rfl ?_
    refine x_getI B fgX4_20 dX4_current_12 TX.g2 (fun r12 => ?_)
    refine x_icmp_ge (tgt := 39) B dX4_current_15 (by decide) (by omega) (by omega) (fun c15 => ?_) (fun c15 => ?_)
    · refine x_iconst B dX4_current_39 ?_
      exact x_retI B R dX4_current_40 (by first | (exfalso; omega) | rw [hd, if_pos (by omega)] | rw [hd, if_neg (by omega)]) (by omega) (fun H h => by exact h)
    · refine x_aload_n B dX4_current_18 rfl ?_
      refine x_getI B fgX4_24 dX4_current_19 TX.g6 (fun r19 => ?_)
      refine x_bipush B dX4_current_22 (by decide) ?_
      refine x_icmp_ge (tgt := 39) B dX4_current_24 (by decide) (by omega) (by omega) (fun c24 => ?_) (fun c24 => ?_)
      · refine x_iconst B dX4_current_39 ?_
        exact x_retI B R dX4_current_40 (by first | (exfalso; omega) | rw [hd, if_pos (by omega)] | rw [hd, if_neg (by omega)]) (by omega) (fun H h => by exact h)
      · refine x_aload_n B dX4_current_27 rfl ?_
        refine x_get B fgX4_9 dX4_current_28 (fun _ h => ⟨_, TX.o h, rfl⟩) ?_
        refine x_aload_n B dX4_current_31 rfl ?_
        refine x_getI B fgX4_24 dX4_current_32 TX.g6 (fun r32 => ?_)
        refine x_cald B dX4_current_35 (by omega) (by decide) (fun H h => h.2.1) ?_
        refine x_goto (tgt := 40) B dX4_current_36 (by decide) ?_
        exact x_retI B R dX4_current_40 (by first | (exfalso; omega) | rw [hd, if_pos (by omega)] | rw [hd, if_neg (by omega)]) (by omega) (fun H h => by exact h)
theorem c_X4_isDigit {G : xG} {l : Launch} {P : Heap → Prop} {A : Nat → Prop} {c : Int} (h1 : -2147483648 ≤ c ∧ c < 2147483648) : CT G l yX4_isDigit cX4_isDigit 1 (some .boolean) ({ frames := 0, cells := 0, slots := 0, locals := 0 } : Room) 0 0 [vi c] P (pZ (48 ≤ c ∧ c ≤ 57) P) A := by
  refine x_met1 (own := RX4) (nm := "isDigit") (L := [(0, vi c)]) (by decide) rfl rfl (fun _ => rfl) (Nat.le_of_ble_eq_true rfl) rfl rfl ?_
  intro Γ B R
  refine x_iload_n B dX4_isDigit_0 rfl ?_
  refine x_bipush B dX4_isDigit_1 (by decide) ?_
  refine x_icmp_lt (tgt := 16) B dX4_isDigit_3 (by decide) (by omega) (by omega) (fun c3 => ?_) (fun c3 => ?_)
  · refine x_iconst B dX4_isDigit_16 ?_
    exact x_retZ B R dX4_isDigit_17 ((bz_f (by omega)).symm) (fun H h => by exact h)
  · refine x_iload_n B dX4_isDigit_6 rfl ?_
    refine x_bipush B dX4_isDigit_7 (by decide) ?_
    refine x_icmp_gt (tgt := 16) B dX4_isDigit_9 (by decide) (by omega) (by omega) (fun c9 => ?_) (fun c9 => ?_)
    · refine x_iconst B dX4_isDigit_16 ?_
      exact x_retZ B R dX4_isDigit_17 ((bz_f (by omega)).symm) (fun H h => by exact h)
    · refine x_iconst B dX4_isDigit_12 ?_
      refine x_goto (tgt := 17) B dX4_isDigit_13 (by decide) ?_
      exact x_retZ B R dX4_isDigit_17 ((bz_t (by omega)).symm) (fun H h => by exact h)
theorem c_X4_kindOf {G : xG} {l : Launch} {P : Heap → Prop} {A : Nat → Prop} {c : Int} (h1 : -2147483648 ≤ c ∧ c < 2147483648) : CT G l yX4_kindOf cX4_kindOf 1 (some .int) ({ frames := 0, cells := 0, slots := 0, locals := 0 } : Room) 0 0 [vi c] P (pI (t_kind c) P) A := by
  refine x_met1 (own := RX4) (nm := "kindOf") (L := [(0, vi c)]) (by decide) rfl rfl (fun _ => rfl) (Nat.le_of_ble_eq_true rfl) rfl rfl ?_
  intro Γ B R
  have go : ∀ (tgt : Nat) (off : Int), (1 : Int) + off = (tgt : Int) → Op.lookupswitch.offset [(102, 47), (109, 43), (112, 49), (114, 45)] 51 c = off → XJ Γ 0 0 P tgt [(0, vi c)] [] → XJ Γ 0 0 P 0 [(0, vi c)] [] := by
    intro tgt off h2 h3 k
    refine x_iload_n B dX4_kindOf_0 rfl ?_
    refine x_lookup B dX4_kindOf_1 (by decide) (off := off) ?_ h2 k
    rw [Int32.toInt_ofInt_of_le (by omega) (by omega)]
    exact h3
  by_cases q1 : c = 102
  · subst q1
    refine go 48 47 rfl (by decide) ?_
    refine x_iconst B dX4_kindOf_48 ?_
    exact x_retI B R dX4_kindOf_49 (by rfl) (by exact (by decide)) (fun H h => by exact h)
  · by_cases q2 : c = 109
    · subst q2
      refine go 44 43 rfl (by decide) ?_
      refine x_iconst B dX4_kindOf_44 ?_
      exact x_retI B R dX4_kindOf_45 (by rfl) (by exact (by decide)) (fun H h => by exact h)
    · by_cases q3 : c = 112
      · subst q3
        refine go 50 49 rfl (by decide) ?_
        refine x_iconst B dX4_kindOf_50 ?_
        exact x_retI B R dX4_kindOf_51 (by rfl) (by exact (by decide)) (fun H h => by exact h)
      · by_cases q4 : c = 114
        · subst q4
          refine go 46 45 rfl (by decide) ?_
          refine x_iconst B dX4_kindOf_46 ?_
          exact x_retI B R dX4_kindOf_47 (by rfl) (by exact (by decide)) (fun H h => by exact h)
        · refine go 52 51 rfl ?_ ?_
          · simp only [Op.lookupswitch.offset_cons, Op.lookupswitch.offset_nil]
            rw [if_neg (by omega), if_neg (by omega), if_neg (by omega), if_neg (by omega)]
          · have e : t_kind c = -1 := by unfold t_kind; rw [if_neg (by omega), if_neg (by omega), if_neg (by omega), if_neg (by omega)]
            refine x_iconst B dX4_kindOf_52 ?_
            exact x_retI B R dX4_kindOf_53 (by exact e.symm) (by rw [e]; exact (by decide)) (fun H h => by exact h)
theorem c_X4_passes {G : xG} {l : Launch} {t : Nat} {T : Int → Int} {n pc rs pl at_ c : Int} {vs : Nat → Int → Int} (hT : okT T n) (ha : 0 ≤ at_ ∧ at_ ≤ 200) (hc : -2147483648 ≤ c ∧ c < 2147483648) : CT G l yX4_passes cX4_passes 2 (some .boolean) ({ frames := 1, cells := 0, slots := 0, locals := 20 } : Room) 0 0 [.ref t, vi c] (TX G t T n pc rs pl at_ vs) (pZ (rs = 0 ∧ t_cur T n at_ = c) (TX G t T n pc rs pl (if rs = 0 ∧ t_cur T n at_ = c then at_ + 1 else at_) vs)) (AT t) := by
  refine x_met1 (own := RX4) (nm := "passes") (L := [(0, .ref t), (1, vi c)]) (by decide) rfl rfl (fun _ => rfl) (Nat.le_of_ble_eq_true rfl) rfl rfl ?_
  intro Γ B R
  refine x_aload_n B dX4_passes_0 rfl ?_
  refine x_getI B fgX4_30 dX4_passes_1 TX.g4 (fun r1 => ?_)
  refine x_if_ne (tgt := 15) B dX4_passes_4 (by decide) (by omega) (fun c4 => ?_) (fun c4 => ?_)
  · refine x_iconst B dX4_passes_15 ?_
    exact x_retZ B R dX4_passes_16 ((bz_f (by omega)).symm) (fun H h => by first | (rw [if_pos (by omega)]; exact h) | (rw [if_neg (by omega)]; exact h))
  · refine x_aload_n B dX4_passes_7 rfl ?_
    refine x_mV B mvX4_39 (fun l => c_X4_current hT (by omega)) dX4_passes_8 rfl rfl (by decide) (by decide) (Nat.le_of_ble_eq_true rfl) TX.rv (fun r8 => ?_)
    refine x_iload_n B dX4_passes_11 rfl ?_
    refine x_icmp_eq (tgt := 17) B dX4_passes_12 (by decide) (by omega) (by omega) (fun c12 => ?_) (fun c12 => ?_)
    · refine x_aload_n B dX4_passes_17 rfl ?_
      refine x_dup B dX4_passes_18 rfl ?_
      refine x_getI B fgX4_24 dX4_passes_19 TX.g6 (fun r19 => ?_)
      refine x_iconst B dX4_passes_22 ?_
      refine x_iadd B dX4_passes_23 ?_
      refine x_put B fpX4_24 dX4_passes_24 rfl rfl (by unfold AT; omega) (TX.p6 (by omega)) ?_
      refine x_iconst B dX4_passes_27 ?_
      exact x_retZ B R dX4_passes_28 ((bz_t (by omega)).symm) (fun H h => by first | (rw [if_pos (by omega)]; exact h) | (rw [if_neg (by omega)]; exact h))
    · refine x_iconst B dX4_passes_15 ?_
      exact x_retZ B R dX4_passes_16 ((bz_f (by omega)).symm) (fun H h => by first | (rw [if_pos (by omega)]; exact h) | (rw [if_neg (by omega)]; exact h))
/-- a number as the class reads it: it looks at no further digit -/
theorem c_X4_readNumber {G : xG} {l : Launch} {t : Nat} {T : Int → Int} {n pc rs pl a mx : Int} {f : Nat} {vs : Nat → Int → Int} (hT : okT T n) (ha : 0 ≤ a ∧ a ≤ n) (hf : f ≤ 3) (hm : 1 ≤ mx ∧ mx ≤ 1000) : CT G l yX4_readNumber cX4_readNumber 6 (some .int) ({ frames := 2, cells := 0, slots := 0, locals := 42 } : Room) 0 0 [.ref t, vi (f : Int), vi mx] (TX G t T n pc rs pl a vs) (pI (t_scan T n f a 0).2 (TX G t T n pc (if (t_scan T n f a 0).1 = a then t_flt n a else if ¬ (1 ≤ (t_scan T n f a 0).2 ∧ (t_scan T n f a 0).2 ≤ mx) then 2 else rs) (if (t_scan T n f a 0).1 = a then a else if ¬ (1 ≤ (t_scan T n f a 0).2 ∧ (t_scan T n f a 0).2 ≤ mx) then a else pl) (t_scan T n f a 0).1 vs)) (AT t) := by
  refine x_met1 (own := RX4) (nm := "readNumber") (L := [(0, .ref t), (1, vi (f : Int)), (2, vi mx)]) (by decide) rfl rfl (fun _ => rfl) (Nat.le_of_ble_eq_true rfl) rfl rfl ?_
  intro Γ B R
  have hn := hT.1
  have tail : ∀ (a' v : Int) (L : List (Nat × Value)), t_scan T n f a 0 = (a', v) → a ≤ a' → a' ≤ n → (0 ≤ v ∧ v ≤ 1000) → (∀ q ∈ [(0, Value.ref t), (2, vi mx), (3, vi a), (4, vi v)], lget L q.1 = some q.2) → XJ Γ 0 0 (TX G t T n pc rs pl a' vs) 58 L [] := by
    intro a' v L hs h1 h2 hv hL
    refine x_locs hL ?_
    rw [hs] at R
    simp only at R
    refine x_aload_n B dX4_readNumber_58 rfl ?_
    refine x_getI B fgX4_24 dX4_readNumber_59 TX.g6 (fun r59 => ?_)
    refine x_iload_n B dX4_readNumber_62 rfl ?_
    refine x_icmp_ne (tgt := 73) B dX4_readNumber_63 (by decide) (by omega) (by omega) (fun c63 => ?_) (fun c63 => ?_)
    · refine x_iload B dX4_readNumber_73 rfl ?_
      refine x_iconst B dX4_readNumber_75 ?_
      refine x_icmp_lt (tgt := 85) B dX4_readNumber_76 (by decide) (by omega) (by omega) (fun c76 => ?_) (fun c76 => ?_)
      · refine x_aload_n B dX4_readNumber_85 rfl ?_
        refine x_iload_n B dX4_readNumber_86 rfl ?_
        refine x_iconst B dX4_readNumber_87 ?_
        refine x_mN B mvX4_50 (fun l => c_X4_blame (by omega) (by omega)) dX4_readNumber_88 rfl rfl (by decide) (by decide) (Nat.le_of_ble_eq_true rfl) TX.rv ?_
        refine x_iload B dX4_readNumber_91 rfl ?_
        exact x_retI B R dX4_readNumber_93 (by first | rfl | omega) (by omega) (fun H h => by first | (rw [if_pos (by omega), if_pos (by omega)]; exact (by first | exact h | (rw [show a = a' by omega]; exact h))) | (rw [if_neg (by omega), if_pos (by omega), if_neg (by omega), if_pos (by omega)]; exact h) | (rw [if_neg (by omega), if_neg (by omega), if_neg (by omega), if_neg (by omega)]; exact h))
      · refine x_iload B dX4_readNumber_79 rfl ?_
        refine x_iload_n B dX4_readNumber_81 rfl ?_
        refine x_icmp_le (tgt := 91) B dX4_readNumber_82 (by decide) (by omega) (by omega) (fun c82 => ?_) (fun c82 => ?_)
        · refine x_iload B dX4_readNumber_91 rfl ?_
          exact x_retI B R dX4_readNumber_93 (by first | rfl | omega) (by omega) (fun H h => by first | (rw [if_pos (by omega), if_pos (by omega)]; exact (by first | exact h | (rw [show a = a' by omega]; exact h))) | (rw [if_neg (by omega), if_pos (by omega), if_neg (by omega), if_pos (by omega)]; exact h) | (rw [if_neg (by omega), if_neg (by omega), if_neg (by omega), if_neg (by omega)]; exact h))
        · refine x_aload_n B dX4_readNumber_85 rfl ?_
          refine x_iload_n B dX4_readNumber_86 rfl ?_
          refine x_iconst B dX4_readNumber_87 ?_
          refine x_mN B mvX4_50 (fun l => c_X4_blame (by omega) (by omega)) dX4_readNumber_88 rfl rfl (by decide) (by decide) (Nat.le_of_ble_eq_true rfl) TX.rv ?_
          refine x_iload B dX4_readNumber_91 rfl ?_
          exact x_retI B R dX4_readNumber_93 (by first | rfl | omega) (by omega) (fun H h => by first | (rw [if_pos (by omega), if_pos (by omega)]; exact (by first | exact h | (rw [show a = a' by omega]; exact h))) | (rw [if_neg (by omega), if_pos (by omega), if_neg (by omega), if_pos (by omega)]; exact h) | (rw [if_neg (by omega), if_neg (by omega), if_neg (by omega), if_neg (by omega)]; exact h))
    · refine x_aload_n B dX4_readNumber_66 rfl ?_
      refine x_mN B mvX4_47 (fun l => c_X4_blameCurrent (by omega)) dX4_readNumber_67 rfl rfl (by decide) (by decide) (Nat.le_of_ble_eq_true rfl) TX.rv ?_
      refine x_goto (tgt := 91) B dX4_readNumber_70 (by decide) ?_
      refine x_iload B dX4_readNumber_91 rfl ?_
      exact x_retI B R dX4_readNumber_93 (by first | rfl | omega) (by omega) (fun H h => by first | (rw [if_pos (by omega), if_pos (by omega)]; exact (by first | exact h | (rw [show a = a' by omega]; exact h))) | (rw [if_neg (by omega), if_pos (by omega), if_neg (by omega), if_pos (by omega)]; exact h) | (rw [if_neg (by omega), if_neg (by omega), if_neg (by omega), if_neg (by omega)]; exact h))
  have loop : ∀ (f' : Nat) (j : Int) (a' v : Int) (L : List (Nat × Value)), a' + f' = a + f → j + f' = f → 0 ≤ j → t_scan T n f a 0 = t_scan T n f' a' v → a ≤ a' → a' ≤ n → 0 ≤ v → (v + 1) * ((10 ^ f' : Nat) : Int) ≤ 1000 → (∀ q ∈ [(0, Value.ref t), (1, vi (f : Int)), (2, vi mx), (3, vi a), (4, vi v), (5, vi j)], lget L q.1 = some q.2) → XJ Γ 0 0 (TX G t T n pc rs pl a' vs) 11 L [] := by
    intro f'
    induction f' with
    | zero =>
      intro j a' v L e ej j0 hs h1 h2 hv hv2 hL
      refine x_locs hL ?_
      have hv3 : v + 1 ≤ 1000 := by simpa using hv2
      refine x_iload B dX4_readNumber_11 rfl ?_
      refine x_iload_n B dX4_readNumber_13 rfl ?_
      refine x_icmp_ge (tgt := 58) B dX4_readNumber_14 (by decide) (by omega) (by omega) (fun c14 => ?_) (fun c14 => ?_)
      · exact tail a' v _ hs h1 h2 (by omega) (xl_cons rfl (xl_cons rfl (xl_cons rfl (xl_cons rfl xl_nil))))
      · omega
    | succ f' ih =>
      intro j a' v L e ej j0 hs h1 h2 hv hv2 hL
      refine x_locs hL ?_
      have hc := cur_rg hT (a := a') (by omega)
      have hp : (1 : Int) ≤ ((10 ^ f' : Nat) : Int) := by exact_mod_cast Nat.pow_pos (show 0 < 10 by decide)
      have e10 : ((10 ^ (f' + 1) : Nat) : Int) = 10 * ((10 ^ f' : Nat) : Int) := by rw [Nat.pow_succ]; omega
      have hv3 : v + 1 ≤ 1000 := by
        rw [e10] at hv2
        have := Int.mul_le_mul_of_nonneg_left (show (1 : Int) ≤ 10 * ((10 ^ f' : Nat) : Int) by omega) (show 0 ≤ v + 1 by omega)
        rw [Int.mul_one] at this
        exact Int.le_trans this hv2
      have hst : t_scan T n (f' + 1) a' v = if 48 ≤ t_cur T n a' ∧ t_cur T n a' ≤ 57 then t_scan T n f' (a' + 1) (10 * v + t_cur T n a' - 48) else (a', v) := rfl
      refine x_iload B dX4_readNumber_11 rfl ?_
      refine x_iload_n B dX4_readNumber_13 rfl ?_
      refine x_icmp_ge (tgt := 58) B dX4_readNumber_14 (by decide) (by omega) (by omega) (fun c14 => ?_) (fun c14 => ?_)
      · first
          | omega
          | exact tail a' v _ (by rw [hs, hst, if_neg (by assumption)]) h1 h2 (by omega) (xl_cons rfl (xl_cons rfl (xl_cons rfl (xl_cons rfl xl_nil))))
      · refine x_aload_n B dX4_readNumber_17 rfl ?_
        refine x_mV B mvX4_39 (fun l => c_X4_current hT (by omega)) dX4_readNumber_18 rfl rfl (by decide) (by decide) (Nat.le_of_ble_eq_true rfl) TX.rv (fun r18 => ?_)
        refine x_sZ B msX4_73 (fun l => c_X4_isDigit (by omega)) dX4_readNumber_21 rfl rfl (by decide) (by decide) (Nat.le_of_ble_eq_true rfl) ?_
        refine x_ifz_eq (tgt := 58) B dX4_readNumber_24 (by decide) (fun c24 => ?_) (fun c24 => ?_)
        · first
            | omega
            | exact tail a' v _ (by rw [hs, hst, if_neg (by assumption)]) h1 h2 (by omega) (xl_cons rfl (xl_cons rfl (xl_cons rfl (xl_cons rfl xl_nil))))
        · refine x_iload B dX4_readNumber_27 rfl ?_
          refine x_bipush B dX4_readNumber_29 (by decide) ?_
          refine x_imul B dX4_readNumber_31 ?_
          refine x_aload_n B dX4_readNumber_32 rfl ?_
          refine x_mV B mvX4_39 (fun l => c_X4_current hT (by omega)) dX4_readNumber_33 rfl rfl (by decide) (by decide) (Nat.le_of_ble_eq_true rfl) TX.rv (fun r33 => ?_)
          refine x_bipush B dX4_readNumber_36 (by decide) ?_
          refine x_isub B dX4_readNumber_38 ?_
          refine x_iadd B dX4_readNumber_39 ?_
          refine x_istore B dX4_readNumber_40 (by decide) ?_
          refine x_aload_n B dX4_readNumber_42 rfl ?_
          refine x_dup B dX4_readNumber_43 rfl ?_
          refine x_getI B fgX4_24 dX4_readNumber_44 TX.g6 (fun r44 => ?_)
          refine x_iconst B dX4_readNumber_47 ?_
          refine x_iadd B dX4_readNumber_48 ?_
          refine x_put B fpX4_24 dX4_readNumber_49 rfl rfl (by unfold AT; omega) (TX.p6 (by omega)) ?_
          refine x_iinc B dX4_readNumber_52 rfl (by decide) ?_
          refine x_goto (tgt := 11) B dX4_readNumber_55 (by decide) ?_
          exact ih (j + 1) (a' + 1) (10 * v + t_cur T n a' - 48) _ (by omega) (by omega) (by omega) (by rw [hs, hst, if_pos (by assumption)]) (by omega) (by omega) (by omega) (by
            rw [e10, ← Int.mul_assoc] at hv2
            exact Int.le_trans (Int.mul_le_mul_of_nonneg_right (by omega) (by omega)) hv2) (xl_cons rfl (xl_cons rfl (xl_cons rfl (xl_cons rfl (xl_cons (i := 4) (v := vi (10 * v + t_cur T n a' - 48)) (by show some (vi (v * 10 + (t_cur T n a' - 48))) = _; rw [show v * 10 + (t_cur T n a' - 48) = 10 * v + t_cur T n a' - 48 by omega]) (xl_cons rfl xl_nil))))))
  refine x_aload_n B dX4_readNumber_0 rfl ?_
  refine x_getI B fgX4_24 dX4_readNumber_1 TX.g6 (fun r1 => ?_)
  refine x_istore_n B dX4_readNumber_4 (by decide) ?_
  refine x_iconst B dX4_readNumber_5 ?_
  refine x_istore B dX4_readNumber_6 (by decide) ?_
  refine x_iconst B dX4_readNumber_8 ?_
  refine x_istore B dX4_readNumber_9 (by decide) ?_
  exact loop f 0 a 0 _ rfl (by omega) (by omega) rfl (by omega) (by omega) (by omega) (by
    have : 10 ^ f ≤ 10 ^ 3 := Nat.pow_le_pow_right (by decide) hf
    rw [Int.zero_add, Int.one_mul]
    omega) (xl_cons rfl (xl_cons rfl (xl_cons rfl (xl_cons rfl (xl_cons rfl (xl_cons rfl xl_nil))))))
theorem c_X4_readPiece {G : xG} {l : Launch} {t : Nat} {T : Int → Int} {n pc rs pl a : Int} {vs : Nat → Int → Int} (hT : okT T n) (ha : 0 ≤ a ∧ a ≤ n) : CT G l yX4_readPiece cX4_readPiece 2 (some .int) ({ frames := 2, cells := 0, slots := 0, locals := 42 } : Room) 0 0 [.ref t] (TX G t T n pc rs pl a vs) (pI (if 48 ≤ t_cur T n a ∧ t_cur T n a ≤ 50 then t_cur T n a - 48 else -1) (TX G t T n pc (if 48 ≤ t_cur T n a ∧ t_cur T n a ≤ 50 then rs else t_flt n a) (if 48 ≤ t_cur T n a ∧ t_cur T n a ≤ 50 then pl else a) (if 48 ≤ t_cur T n a ∧ t_cur T n a ≤ 50 then a + 1 else a) vs)) (AT t) := by
  refine x_met1 (own := RX4) (nm := "readPiece") (L := [(0, .ref t)]) (by decide) rfl rfl (fun _ => rfl) (Nat.le_of_ble_eq_true rfl) rfl rfl ?_
  intro Γ B R
  have hc := cur_rg hT ha.1
  have hn := hT.1
  refine x_aload_n B dX4_readPiece_0 rfl ?_
  refine x_mV B mvX4_39 (fun l => c_X4_current hT (by omega)) dX4_readPiece_1 rfl rfl (by decide) (by decide) (Nat.le_of_ble_eq_true rfl) TX.rv (fun r1 => ?_)
  refine x_bipush B dX4_readPiece_4 (by decide) ?_
  refine x_isub B dX4_readPiece_6 ?_
  refine x_istore_n B dX4_readPiece_7 (by decide) ?_
  refine x_iload_n B dX4_readPiece_8 rfl ?_
  refine x_if_lt (tgt := 17) B dX4_readPiece_9 (by decide) (by omega) (fun c9 => ?_) (fun c9 => ?_)
  · refine x_aload_n B dX4_readPiece_17 rfl ?_
    refine x_mN B mvX4_47 (fun l => c_X4_blameCurrent (by omega)) dX4_readPiece_18 rfl rfl (by decide) (by decide) (Nat.le_of_ble_eq_true rfl) TX.rv ?_
    refine x_iconst B dX4_readPiece_21 ?_
    exact x_retI B R dX4_readPiece_22 (by first | rw [if_pos (by omega)] | rw [if_neg (by omega)]) (by split <;> omega) (fun H h => by first | (rw [if_pos (by omega), if_pos (by omega), if_pos (by omega)]; exact h) | (rw [if_neg (by omega), if_neg (by omega), if_neg (by omega)]; exact h))
  · refine x_iload_n B dX4_readPiece_12 rfl ?_
    refine x_iconst B dX4_readPiece_13 ?_
    refine x_icmp_lt (tgt := 23) B dX4_readPiece_14 (by decide) (by omega) (by omega) (fun c14 => ?_) (fun c14 => ?_)
    · refine x_aload_n B dX4_readPiece_23 rfl ?_
      refine x_dup B dX4_readPiece_24 rfl ?_
      refine x_getI B fgX4_24 dX4_readPiece_25 TX.g6 (fun r25 => ?_)
      refine x_iconst B dX4_readPiece_28 ?_
      refine x_iadd B dX4_readPiece_29 ?_
      refine x_put B fpX4_24 dX4_readPiece_30 rfl rfl (by unfold AT; omega) (TX.p6 (by omega)) ?_
      refine x_iload_n B dX4_readPiece_33 rfl ?_
      exact x_retI B R dX4_readPiece_34 (by first | rw [if_pos (by omega)] | rw [if_neg (by omega)]) (by split <;> omega) (fun H h => by first | (rw [if_pos (by omega), if_pos (by omega), if_pos (by omega)]; exact h) | (rw [if_neg (by omega), if_neg (by omega), if_neg (by omega)]; exact h))
    · refine x_aload_n B dX4_readPiece_17 rfl ?_
      refine x_mN B mvX4_47 (fun l => c_X4_blameCurrent (by omega)) dX4_readPiece_18 rfl rfl (by decide) (by decide) (Nat.le_of_ble_eq_true rfl) TX.rv ?_
      refine x_iconst B dX4_readPiece_21 ?_
      exact x_retI B R dX4_readPiece_22 (by first | rw [if_pos (by omega)] | rw [if_neg (by omega)]) (by split <;> omega) (fun H h => by first | (rw [if_pos (by omega), if_pos (by omega), if_pos (by omega)]; exact h) | (rw [if_neg (by omega), if_neg (by omega), if_neg (by omega)]; exact h))

/-! ===== the executive: a recipe ===== -/
/-- the book, with the first i rows of a page written -/
def bkP (β vs : Nat → Int → Int) (g pc : Int) (i : Nat) : Nat → Int → Int := fun w => if w = 5 then up (β 5) g pc else if w < i then cpyN (vs w) (β w) 0 (g * 8) 8 else β w
theorem bkP_rg {β vs : Nat → Int → Int} {g pc : Int} {i : Nat} (hb : ∀ w k, -2147483648 ≤ β w k ∧ β w k < 2147483648) (hv : ∀ w k, -2147483648 ≤ vs w k ∧ vs w k < 2147483648) (hp : -2147483648 ≤ pc ∧ pc < 2147483648) : ∀ w k, -2147483648 ≤ bkP β vs g pc i w k ∧ bkP β vs g pc i w k < 2147483648 := fun w k => by
  unfold bkP
  split
  · exact up_rg (hb 5) hp k
  · split
    · unfold cpyN
      split
      · exact hv w _
      · exact hb w k
    · exact hb w k
section OPC5
variable {G : xG} {l : Launch} {e : Nat} {m : Int → Int} {ρ : Nat → Int → Int} {W : Int}
theorem c_X1_write {κ t : Nat} {β vs : Nat → Int → Int} {T : Int → Int} {n pc rs pl at_ g : Int} (hap : κ + 8 ≤ t) (hg : 0 ≤ g ∧ g < 54) : CT G l yX1_write cX1_write 4 none ({ frames := 1, cells := 0, slots := 0, locals := 32 } : Room) 0 0 [.ref κ, vi g, .ref t] (fun H => bkH G κ β H ∧ TX G t T n pc rs pl at_ vs H) (pV (fun H => bkH G κ (bkP β vs g pc 5) H ∧ TX G t T n pc rs pl at_ vs H)) (fun q => κ ≤ q ∧ q < κ + 8) := by
  refine x_met1 (own := RX1) (nm := "write") (L := [(0, .ref κ), (1, vi g), (2, .ref t)]) (by decide) rfl rfl (fun _ => rfl) (Nat.le_of_ble_eq_true rfl) rfl rfl ?_
  intro Γ B R
  refine x_fact (fun H h => (⟨h.1.2.2.2.2, h.2.2.2.2.2.2.1, h.2.2.2.2.2.2.2.2.2.2⟩ : _ ∧ _ ∧ _)) (fun hr => ?_)
  obtain ⟨hb, hp, hv⟩ := hr
  have loop : ∀ (f k : Nat) (L : List (Nat × Value)), k + f = 5 → (∀ p2 ∈ [(0, Value.ref κ), (1, vi g), (2, .ref t), (3, vi (k : Int))], lget L p2.1 = some p2.2) → XJ Γ 0 0 (fun H => bkH G κ (bkP β vs g pc k) H ∧ TX G t T n pc rs pl at_ vs H) 12 L [] := by
    intro f
    induction f with
    | zero =>
      intro k L hk hL
      refine x_locs hL ?_
      have hk5 : k = 5 := by omega
      subst hk5
      refine x_iload_n B dX1_write_12 rfl ?_
      refine x_iconst B dX1_write_13 ?_
      refine x_icmp_ge (tgt := 45) B dX1_write_14 (by decide) (by omega) (by omega) (fun c14 => ?_) (fun c14 => ?_)
      · exact x_retV B R dX1_write_45 (fun H h => by exact h)
      · omega
    | succ f ih =>
      intro k L hk hL
      refine x_locs hL ?_
      refine x_iload_n B dX1_write_12 rfl ?_
      refine x_iconst B dX1_write_13 ?_
      refine x_icmp_ge (tgt := 45) B dX1_write_14 (by decide) (by omega) (by omega) (fun c14 => ?_) (fun c14 => ?_)
      · omega
      · refine x_aload_n B dX1_write_17 rfl ?_
        refine x_get B fgX1_26 dX1_write_18 (fun H h => ⟨_, h.2.1, rfl⟩) ?_
        refine x_iload_n B dX1_write_21 rfl ?_
        refine x_aaldA (j := 2) B dX1_write_22 rfl (by omega) (by decide) (fun H h => ⟨h.2.2.2.1, rfl⟩) ?_
        refine x_iconst B dX1_write_23 ?_
        refine x_aload_n B dX1_write_24 rfl ?_
        refine x_get B fgX1_17 dX1_write_25 (fun H h => ⟨_, h.1.1, rfl⟩) ?_
        refine x_iload_n B dX1_write_28 rfl ?_
        refine x_aaldA (j := 2) B dX1_write_29 rfl (by omega) (by decide) (fun H h => ⟨h.1.2.2.1, rfl⟩) ?_
        refine x_iload_n B dX1_write_30 rfl ?_
        refine x_bipush B dX1_write_31 (by decide) ?_
        refine x_imul B dX1_write_33 ?_
        refine x_bipush B dX1_write_34 (by decide) ?_
        refine x_copyi (P' := fun H => bkH G κ (bkP β vs g pc (k + 1)) H ∧ TX G t T n pc rs pl at_ vs H) B xnX1_27 dX1_write_36 (by omega) (by decide) (by constructor <;> omega) (Nat.le_of_ble_eq_true rfl) (by decide) ((fun H h => ⟨h.2.2.2.2.1 k (by omega), h.1.2.2.2.1 k (by omega), fun H1 e _ hq => ⟨⟨h.1.1.kept (hq _ (by omega)), (h.1.2.1.kept (hq _ (by omega))).congr (fun _ _ _ => rfl), h.1.2.2.1.kept (hq _ (by omega)), fun w hw => by
  by_cases c : w = k
  · subst c
    refine e.congr (fun j _ _ => ?_)
    unfold bkP
    rw [if_neg (by omega), if_neg (by omega), if_neg (by omega), if_pos (by omega)]
  · refine ((h.1.2.2.2.1 w hw).kept (hq _ (by omega))).congr (fun j _ _ => ?_)
    unfold bkP
    rw [if_neg (show ¬ w = 5 by omega), if_neg (show ¬ w = 5 by omega)]
    by_cases d : w < k
    · rw [if_pos d, if_pos (by omega)]
    · rw [if_neg d, if_neg (by omega)], bkP_rg hb hv hp⟩, h.2.kept (fun q a b => hq q (by omega))⟩⟩)) ?_
        refine x_iinc B dX1_write_39 rfl (by decide) ?_
        refine x_goto (tgt := 12) B dX1_write_42 (by decide) ?_
        exact ih (k + 1) _ (by omega) (xl_cons rfl (xl_cons rfl (xl_cons rfl (xl_cons rfl xl_nil))))
  refine x_aload_n B dX1_write_0 rfl ?_
  refine x_get B fgX1_9 dX1_write_1 (fun H h => ⟨_, h.1.1, rfl⟩) ?_
  refine x_iload_n B dX1_write_4 rfl ?_
  refine x_aload_n B dX1_write_5 rfl ?_
  refine x_getI B fgX1_20 dX1_write_6 (fun H h => TX.g3 H h.2) (fun r6 => ?_)
  refine x_iast (P' := fun H => bkH G κ (bkP β vs g pc 0) H ∧ TX G t T n pc rs pl at_ vs H) B dX1_write_9 (by omega) (by decide) (by constructor <;> omega) (fun H h => ⟨h.1.2.1, fun H1 e _ hq => ⟨⟨h.1.1.kept (hq _ (by omega)), e, h.1.2.2.1.kept (hq _ (by omega)), fun w hw => ((h.1.2.2.2.1 w hw).kept (hq _ (by omega))).congr (fun j _ _ => by unfold bkP; rw [if_neg (by omega), if_neg (by omega)]), bkP_rg hb hv hp⟩, h.2.kept (fun q a b => hq q (by omega))⟩⟩) ?_
  refine x_iconst B dX1_write_10 ?_
  refine x_istore_n B dX1_write_11 (by decide) ?_
  exact loop 5 0 _ (by omega) (xl_cons rfl (xl_cons rfl (xl_cons rfl (xl_cons rfl xl_nil))))
theorem bkOK_old {β vs : Nat → Int → Int} {S : Int → Int} {r v pc : Int} (h : bkOK β S) (hr : 0 ≤ r ∧ r < 6) (hv : 0 ≤ v ∧ v < 9) (hS : S (56 + r) ≤ v) : bkOK (bkP β vs (9 * r + v) pc 5) S := by
  intro r2 v2 r0 r1 v0 v9 v1
  have hg : 9 * r2 + v2 - 1 ≠ 9 * r + v := fun q => by
    have e : r2 = r := by omega
    rw [e] at v1
    omega
  obtain ⟨g1, g2⟩ := h r2 v2 r0 r1 v0 v9 v1
  refine ⟨?_, fun k k0 k8 k1 w w0 w1 => ?_⟩
  · unfold bkP
    rw [if_pos rfl, up_ne (by omega)]
    exact g1
  · unfold bkP
    rw [if_neg (by omega), if_pos (by omega)]
    unfold cpyN
    rw [if_neg (by omega)]
    exact g2 k k0 k8 k1 w w0 w1
theorem bkOK_new {β vs : Nat → Int → Int} {r pc : Int} {lst : List Int} (h : bkOK β m) (hV : Iv m W) (hr : 0 ≤ r ∧ r ≤ 5) (hv : m (56 + r) < 9) (hl : 1 ≤ lst.length ∧ lst.length ≤ 8) (hp : ∀ p ∈ lst, okP p) (hpc : pc = lst.length) (hvs : ∀ w : Nat, w < 5 → ∀ j : Nat, j < lst.length → vs w j = pt (lst.getD j 0) w) : bkOK (bkP β vs (9 * r + m (56 + r)) pc 5) (s_recipe m r lst) := by
  obtain ⟨-, -, er, eq, en, ek, eg⟩ := Iv_recipe hV hr hv hl hp
  have hvr := hV.vs (r := r) (by omega) (by omega)
  intro r2 v2 r0 r1 v0 v9 v1
  by_cases c : 9 * r2 + v2 - 1 = 9 * r + m (56 + r)
  · rw [c, en]
    refine ⟨?_, fun k k0 k8 k1 w w0 w1 => ?_⟩
    · unfold bkP
      rw [if_pos rfl, up_eq rfl]
      exact hpc
    · rw [ek k k0 k1]
      unfold bkP
      rw [if_neg (by omega), if_pos (by omega)]
      unfold cpyN
      rw [if_pos (by omega), show 0 + (8 * (9 * r + m (56 + r)) + k - (9 * r + m (56 + r)) * 8) = ((k.toNat : Nat) : Int) by omega, hvs w.toNat (by omega) k.toNat (by omega), show ((w.toNat : Nat) : Int) = w by omega]
  · have hv2 : v2 ≤ m (56 + r2) := by
      by_cases d : r2 = r
      · subst d
        rw [er] at v1
        omega
      · rw [eq r2 r0 r1 d] at v1
        exact v1
    obtain ⟨f1, f2⟩ := eg (9 * r2 + v2 - 1) (by omega) (by omega) c
    obtain ⟨g1, g2⟩ := h r2 v2 r0 r1 v0 v9 hv2
    rw [f1]
    refine ⟨?_, fun k k0 k8 k1 w w0 w1 => ?_⟩
    · unfold bkP
      rw [if_pos rfl, up_ne (by omega)]
      exact g1
    · rw [f2 k k0 k8]
      unfold bkP
      rw [if_neg (by omega), if_pos (by omega)]
      unfold cpyN
      rw [if_neg (by omega)]
      exact g2 k k0 k8 k1 w w0 w1
theorem rcp_rg {r : Int} {lst : List Int} (hr : 0 ≤ r ∧ r ≤ 5) (hm : ∀ k, -2147483648 ≤ m k ∧ m k < 2147483648) (hv : 0 ≤ m (56 + r) ∧ m (56 + r) < 9) (hl : lst.length ≤ 8) (hp : ∀ p ∈ lst, okP p) : ∀ k, -2147483648 ≤ s_recipe m r lst k ∧ s_recipe m r lst k < 2147483648 := by
  have h1 : ∀ j, -2147483648 ≤ (if 116 + 8 * (9 * r + m (56 + r)) ≤ j ∧ j < 116 + 8 * (9 * r + m (56 + r)) + lst.length then lst.getD (j - (116 + 8 * (9 * r + m (56 + r)))).toNat 0 else if j = 62 + (9 * r + m (56 + r)) then (lst.length : Int) else m j) ∧ (if 116 + 8 * (9 * r + m (56 + r)) ≤ j ∧ j < 116 + 8 * (9 * r + m (56 + r)) + lst.length then lst.getD (j - (116 + 8 * (9 * r + m (56 + r)))).toNat 0 else if j = 62 + (9 * r + m (56 + r)) then (lst.length : Int) else m j) < 2147483648 := fun j => by
    split
    · have hlt : (j - (116 + 8 * (9 * r + m (56 + r)))).toNat < lst.length := by omega
      have hmem : lst.getD (j - (116 + 8 * (9 * r + m (56 + r)))).toNat 0 ∈ lst := by
        rw [List.getD_eq_getElem?_getD, List.getElem?_eq_getElem hlt]
        exact List.getElem_mem hlt
      have := hp _ hmem
      unfold okP at this
      omega
    · split
      · omega
      · exact hm j
  intro k
  unfold s_recipe
  try dsimp only
  unfold up
  by_cases c : k = 56 + r
  · rw [if_pos c, if_neg (by omega), if_neg (by omega)]
    omega
  · rw [if_neg c]
    exact h1 k
theorem SP.vs {a κ : Nat} {m' od : Int → Int} {oc z v : Int} {H H1 : Heap} (h : SP G a κ m od oc H) (hz : 0 ≤ z ∧ z < 6) (e : aat G 0 (a + 4) 6 (up (fun k => m (56 + k)) z v) H1) (hq : ∀ q : Nat, q ≠ a + 4 → H1[q]? = H[q]?) (ho : ∀ k, (k < 56 ∨ 548 ≤ k) → m' k = m k) (hv : m' (56 + z) = v) (hs : ∀ q, 0 ≤ q → q < 6 → q ≠ z → m' (56 + q) = m (56 + q)) (hr : ∀ k, -2147483648 ≤ m' k ∧ m' k < 2147483648) : SP G a κ m' od oc H1 := by
  obtain ⟨⟨h0, hu, hb, hh, hvv, hj, hod, hU, hB⟩, hm, hd⟩ := h
  unfold mOK at hm
  have e0 := ho 0 (by omega)
  have e1 := ho 1 (by omega)
  have e2 := ho 2 (by omega)
  have e3 := ho 3 (by omega)
  have e4 := ho 4 (by omega)
  refine ⟨⟨by rw [e0, e1, e2, e3]; exact h0.kept (hq _ (by omega)), hu.kept (hq _ (by omega)), hb.kept (hq _ (by omega)), (hh.kept (hq _ (by omega))).congr (fun k k0 k1 => (ho _ (by omega)).symm), e.congr (fun k k0 k1 => ?_), (hj.kept (fun q a b => hq q (by omega))).congr e4 (fun k k0 k1 => ho _ (by omega)), hod.kept (hq _ (by omega)), ?_, ?_⟩, ?_, hd⟩
  · unfold up
    by_cases c : k = z
    · rw [if_pos c, c, hv]
    · rw [if_neg c, hs k (by omega) (by omega) c]
  · rw [e2]; exact (hU.kept (fun q a b => hq q (by omega))).congr (fun u u0 u1 w w0 w1 => ho _ (by omega))
  · rw [e3]; exact (hB.kept (fun q a b => hq q (by omega))).congr (fun x x0 x1 w w0 w1 => ho _ (by omega))
  · unfold mOK
    rw [e2, e3, e4]
    exact ⟨hm.1, hm.2.1, hm.2.2.1, hr⟩
/-- the executive while its book is behind its present State -/
def EY (G : xG) (e : Nat) (β : Nat → Int → Int) (m od : Int → Int) (oc : Int) (q : Nat) (F : Nat → Option Nat) (T : Int → Int) (n pc rs pl at_ : Int) (vs : Nat → Int → Int) (N : Int) (S : Int → Int → Int) (H : Heap) : Prop :=
  oat G e 6 [.ref (e + 1), .ref (e + 9), .ref (e + 17), .ref (e + 47), .ref (e + 77), vi N] H ∧ (SP G (e + 17) (e + 1) m od oc H ∧ bkH G (e + 1) β H) ∧ TX G (e + 9) T n pc rs pl at_ vs H ∧ JS G (e + 47) (e + 1) H ∧ rat G 5 (e + 77) 4 F H ∧ (∀ s : Nat, s < 4 → JS G (e + 78 + 30 * s) (e + 1) H) ∧ (∀ i : Nat, (i : Int) < N → ∃ od oc, PS G (pA e q i) (e + 1) β (S i) od oc H) ∧ (0 ≤ N ∧ N ≤ 4)
section EYS
variable {β β' : Nat → Int → Int} {m' od : Int → Int} {oc : Int} {q : Nat} {F : Nat → Option Nat} {T : Int → Int} {n pc rs pl at_ : Int} {vs : Nat → Int → Int} {N : Int} {S : Int → Int → Int} {H H1 : Heap}
theorem EX.toY (h : EX G e β m od oc q F T n pc rs pl at_ vs N S H) (hp : SP G (e + 17) (e + 1) m' od oc H1) (hq : ∀ q : Nat, q ≠ e + 17 + 4 → H1[q]? = H[q]?) : EY G e β m' od oc q F T n pc rs pl at_ vs N S H1 := by
  obtain ⟨h1, h2, h3, h4, h5, h6, h7, h8⟩ := h
  refine ⟨h1.kept (hq _ (by omega)), ⟨hp, h2.2.1.kept (fun q a b => hq q (by omega))⟩, h3.kept (fun q a b => hq q (by omega)), h4.kept (fun q a b => hq q (by omega)), h5.kept (hq _ (by omega)), fun s hs => (h6 s hs).kept (fun q a b => hq q (by omega)), fun i hi => ?_, h8⟩
  obtain ⟨od1, oc1, p⟩ := h7 i hi
  have hg := pA_rg (e := e) (q := q) (i := i)
  exact ⟨od1, oc1, p.kept (fun q a b => hq q (by omega)) (fun q a b => hq q (by omega))⟩
theorem EY.toX (h : EY G e β m od oc q F T n pc rs pl at_ vs N S H) (hb : bkH G (e + 1) β' H1) (hq : ∀ q' : Nat, q' < H.size → ¬ (e + 1 ≤ q' ∧ q' < e + 1 + 8) → H1[q']? = H[q']?) (hn : bkOK β' m) (ho : ∀ i : Nat, (i : Int) < N → bkOK β' (S i)) : EX G e β' m od oc q F T n pc rs pl at_ vs N S H1 := by
  obtain ⟨h1, h2, h3, h4, h5, h6, h7, h8⟩ := h
  have hsz := (h6 3 (by omega)).size
  refine ⟨h1.kept (hq _ (by omega) (by omega)), ⟨h2.1.kept (fun q a b => hq q (by omega) (by omega)), hb, hn, by omega⟩, h3.kept (fun q a b => hq q (by omega) (by omega)), h4.kept (fun q a b => hq q (by omega) (by omega)), h5.kept (hq _ (by omega) (by omega)), fun s hs => (h6 s hs).kept (fun q a b => hq q (by omega) (by omega)), fun i hi => ?_, h8⟩
  obtain ⟨od1, oc1, p⟩ := h7 i hi
  have hg := pA_rg (e := e) (q := q) (i := i)
  exact ⟨od1, oc1, p.book (fun q a b => hq q (by omega) (by omega)) hb (ho i hi)⟩
end EYS
theorem c_X6_recipe {x : Int} (hI : IL m ρ) (h3 : -2147483648 ≤ x ∧ x < 2147483648) : CT G l yX6_recipe cX6_recipe 3 (some .int) ({ frames := 6, cells := 0, slots := 0, locals := 130 } : Room) 0 0 [.ref e, vi x] (PE G e m ρ) (pI (o_recipe m ρ x).1 (PE G e (o_recipe m ρ x).2.1 (o_recipe m ρ x).2.2)) (AE e) := by
  refine x_met1 (own := RX6) (nm := "recipe") (L := [(0, .ref e), (1, vi x)]) (by decide) rfl rfl (fun _ => rfl) (Nat.le_of_ble_eq_true rfl) rfl rfl ?_
  intro Γ B R
  obtain ⟨hV, hr, hb⟩ := hI.x
  have hn := hV.n
  have hO : o_recipe m ρ x = (if ¬ (0 ≤ x ∧ x ≤ 5) then (-1, m, ρ) else if (t_all (ρ 2) (ρ 5 1)).1 ≠ 0 then (-2, m, ρ) else if m (56 + x) = 9 then (-3, m, ρ) else (m (56 + x) + 1, s_recipe m x (t_all (ρ 2) (ρ 5 1)).2.2, s_keep m ρ)) := rfl
  refine x_PE (fun β od oc q F T pc0 rs pl at_ vs S hw hm => ?_)
  refine x_iload_n B dX6_recipe_0 rfl ?_
  refine x_sZ B msX6_109 (fun l => c_X6_isRecipe (by omega)) dX6_recipe_1 rfl rfl (by decide) (by decide) (Nat.le_of_ble_eq_true rfl) ?_
  refine x_ifz_ne (tgt := 9) B dX6_recipe_4 (by decide) (fun c4 => ?_) (fun c4 => ?_)
  · refine x_aload_n B dX6_recipe_9 rfl ?_
    refine x_get B fgX6_19 dX6_recipe_10 (fun _ h => ⟨_, EX.o h, rfl⟩) ?_
    refine x_fN B mvX6_112 (fun l => (c_X4_read (by rw [hw.2.1]; exact hI.2.2.2.1)) ) dX6_recipe_13 rfl rfl (by decide) (by decide) (Nat.le_of_ble_eq_true rfl) EX.faT EX.fbT EX.fcR ?_
    rw [hw.2.1]
    have hw0 : okW e q F (ρ 2) S ρ := ⟨hw.1, rfl, hw.2.2⟩
    have ha := all_rg hI.2.2.2.1
    refine x_ER (fun k pl' at_' vs' h1 h2 => ?_)
    generalize t_all (ρ 2) (ρ 5 1) = r at *
    have hvr := hV.vs (r := x) (by omega) (by omega)
    refine x_aload_n B dX6_recipe_16 rfl ?_
    refine x_get B fgX6_19 dX6_recipe_17 (fun _ h => ⟨_, EX.o h, rfl⟩) ?_
    refine x_getI B fgX6_115 dX6_recipe_20 (EX.lt TX.g4) (fun r20 => ?_)
    refine x_if_eq (tgt := 29) B dX6_recipe_23 (by decide) (by omega) (fun c23 => ?_) (fun c23 => ?_)
    · refine x_aload_n B dX6_recipe_29 rfl ?_
      refine x_get B fgX6_28 dX6_recipe_30 (fun _ h => ⟨_, EX.o h, rfl⟩) ?_
      refine x_get B fgX6_118 dX6_recipe_33 (EX.lf (fun _ h => ⟨_, PS.o h, rfl⟩)) ?_
      refine x_iload_n B dX6_recipe_36 rfl ?_
      refine x_ialdR B dX6_recipe_37 (by omega) (by decide) (EX.lf PS.av) (fun r37 => ?_)
      refine x_bipush B dX6_recipe_38 (by decide) ?_
      refine x_icmp_lt (tgt := 46) B dX6_recipe_40 (by decide) (by omega) (by omega) (fun c40 => ?_) (fun c40 => ?_)
      · refine x_aload_n B dX6_recipe_46 rfl ?_
        refine x_mN B mvX6_47 (fun l => c_X6_record hw0.1 hb) dX6_recipe_47 rfl rfl (by decide) (by decide) (Nat.le_of_ble_eq_true rfl) EX.rv ?_
        refine x_RE hw0 hr (fun q' F' S' hw' => ?_)
        have hz : r.1 = 0 := by omega
        obtain ⟨hk, hvs⟩ := h2 hz
        obtain ⟨hok, hl1, hl8⟩ := ha.2.2 hz
        obtain ⟨-, eo, er, eq, -⟩ := Iv_recipe hV (r := x) (l := r.2.2) (by omega) (by omega) ⟨hl1, hl8⟩ hok
        have hrg := rcp_rg (r := x) (lst := r.2.2) (by omega) hm (by omega) hl8 hok
        refine x_fact (fun H h => (⟨h.2.1.2.2.1, fun i hi => (h.2.2.2.2.2.2.1 i hi).elim (fun _ p => p.elim (fun _ p => p.2.2.1))⟩ : bkOK β m ∧ ∀ i : Nat, (i : Int) < s_keep m ρ 5 0 → bkOK β (S' i))) (fun hbb => ?_)
        obtain ⟨hbm, hbS⟩ := hbb
        have hIL := IL_same hI (m' := m) hV rfl (fun _ _ _ => rfl)
        have hbn := bkOK_new (β := β) (vs := vs') (pc := k) hbm hV (r := x) (lst := r.2.2) (by omega) (by omega) ⟨hl1, hl8⟩ hok hk hvs
        have hbo : ∀ i : Nat, (i : Int) < s_keep m ρ 5 0 → bkOK (bkP β vs' (9 * x + m (56 + x)) k 5) (S' i) := fun i hi => bkOK_old (hbS i hi) (by omega) (by omega) (by rw [hw'.2.2 i (by omega) hi _ (by omega) (by omega)]; exact (hIL.2.2.2.2.1 i (by omega) hi).2.2 x (by omega) (by omega))
        refine x_aload_n B dX6_recipe_50 rfl ?_
        refine x_get B fgX6_28 dX6_recipe_51 (fun _ h => ⟨_, EX.o h, rfl⟩) ?_
        refine x_get B fgX6_118 dX6_recipe_54 (EX.lf (fun _ h => ⟨_, PS.o h, rfl⟩)) ?_
        refine x_iload_n B dX6_recipe_57 rfl ?_
        refine x_dup2 B dX6_recipe_58 rfl rfl ?_
        refine x_ialdR B dX6_recipe_59 (by omega) (by decide) (EX.lf PS.av) (fun r59 => ?_)
        refine x_iconst B dX6_recipe_60 ?_
        refine x_iadd B dX6_recipe_61 ?_
        refine x_iast (P' := EY G e β (s_recipe m x r.2.2) od oc q' F' (ρ 2) (s_keep m ρ 5 1) k r.1 pl' at_' vs' (s_keep m ρ 5 0) S') B dX6_recipe_62 (by omega) (by decide) (by unfold AE; omega) (fun H h => ⟨h.2.1.1.1.2.2.2.2.1, fun H1 e1 _ hq => EX.toY h (SP.vs h.2.1.1 (by omega) e1 hq eo er eq hrg) hq⟩) ?_
        refine x_aload_n B dX6_recipe_63 rfl ?_
        refine x_get B fgX6_28 dX6_recipe_64 (fun H h => ⟨_, h.1, rfl⟩) ?_
        refine x_get B fgX6_118 dX6_recipe_67 (fun H h => ⟨_, h.2.1.1.1.1, rfl⟩) ?_
        refine x_iload_n B dX6_recipe_70 rfl ?_
        refine x_ialdR B dX6_recipe_71 (by omega) (by decide) (fun H h => ⟨h.2.1.1.1.2.2.2.2.1, fun k => h.2.1.1.2.1.2.2.2 _⟩) (fun r71 => ?_)
        refine x_top er ?_
        rw [er] at r71
        refine x_istore_n B dX6_recipe_72 (by decide) ?_
        refine x_aload_n B dX6_recipe_73 rfl ?_
        refine x_get B fgX6_10 dX6_recipe_74 (fun H h => ⟨_, h.1, rfl⟩) ?_
        refine x_iload_n B dX6_recipe_77 rfl ?_
        refine x_iload_n B dX6_recipe_78 rfl ?_
        refine x_sV B msX6_121 (fun l => c_X1_pageOf (by omega) (by omega)) dX6_recipe_79 rfl rfl (by decide) (by decide) (Nat.le_of_ble_eq_true rfl) (fun r79 => ?_)
        refine x_top (show 9 * x + (m (56 + x) + 1) - 1 = 9 * x + m (56 + x) by omega) ?_
        refine x_aload_n B dX6_recipe_82 rfl ?_
        refine x_get B fgX6_19 dX6_recipe_83 (fun H h => ⟨_, h.1, rfl⟩) ?_
        refine x_fN B mvX6_124 (fun l => (c_X1_write (β := β) (vs := vs') (pc := k) (by omega) (by omega)) ) dX6_recipe_86 rfl rfl (by decide) (by decide) (Nat.le_of_ble_eq_true rfl) (fun q h => by have h' : e + 1 ≤ q ∧ q < e + 1 + 8 := h; unfold AE; omega) (fun H h => ⟨⟨h.2.1.2, h.2.2.1⟩, _, h.2.1.2.1⟩) (fun H H1 h h1 _ hq => EY.toX h h1.1 hq hbn hbo) ?_
        refine x_iload_n B dX6_recipe_89 rfl ?_
        exact x_retE B R dX6_recipe_90 (by rw [hO, if_neg (by omega), if_neg (by omega), if_neg (by omega)]) (by omega) rfl rfl hw'
      · refine x_bipush B dX6_recipe_43 (by decide) ?_
        exact x_retE B R dX6_recipe_45 (by rw [hO, if_neg (by omega), if_neg (by omega), if_pos (by omega)]) (by omega) rfl rfl hw0
    · refine x_bipush B dX6_recipe_26 (by decide) ?_
      exact x_retE B R dX6_recipe_28 (by rw [hO, if_neg (by omega), if_pos (by omega)]) (by omega) rfl rfl hw0
  · refine x_iconst B dX6_recipe_7 ?_
    exact x_retE B R dX6_recipe_8 (by rw [hO, if_pos (by omega)]) (by omega) rfl rfl hw
end OPC5

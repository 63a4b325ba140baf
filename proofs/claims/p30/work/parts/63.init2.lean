/-! ===== constructors: Book, Text ===== -/
theorem cl_X1 : Cond.classLink RX1 15 "[[I" ∈ xw := caX1_15
theorem cl_X4 : Cond.classLink RX4 15 "[[I" ∈ xw := caX4_15
theorem c_X1_init {G : xG} {l : Launch} {κ : Nat} : CT G l yX1_init cX1_init 1 none { frames := 1, locals := 40, cells := 7, slots := 2219 } 7 2219 [.ref κ] (fun H => H.size = κ + 1 ∧ oat G κ 1 [.null, .null] H) (pV (fun H => H.size = κ + 8 ∧ bkH G κ (fun _ => z0) H)) (fun q => κ ≤ q) := by
  refine x_met1 (own := RX1) (nm := "<init>") (L := [(0, .ref κ)]) (by decide) rfl rfl (fun _ => rfl) (Nat.le_of_ble_eq_true rfl) rfl rfl ?_
  intro Γ B R
  have hA : (fun q => κ ≤ q) κ := Nat.le_refl _
  refine x_aload_n B dX1_init_0 rfl ?_
  refine x_oi B moX1_3 dX1_init_1 (by decide) ?_
  refine x_aload_n B dX1_init_4 rfl ?_
  refine x_bipush B dX1_init_5 (by decide) ?_
  refine x_newa (atype := .int) (t := .int) (j := 0) (a := κ + 1) (N := 54) (P' := fun H => H.size = κ + 2 ∧ oat G κ 1 [.null, .null] H ∧ aat G 0 (κ + 1) 54 z0 H) B rfl (Or.inl rfl) rfl dX1_init_7 aw_int (by omega) (by decide) (fun H h => ⟨h.1, fun H1 e1 z1 o => ⟨z1, h.2.kept (o _ (by omega)), e1⟩⟩) ?_
  refine x_putF (P' := fun H => H.size = κ + 2 ∧ oat G κ 1 [.ref (κ + 1), .null] H ∧ aat G 0 (κ + 1) 54 z0 H) B R rfl fpX1_9 (fun C T N h => by cases h; rfl) dX1_init_9 rfl rfl hA (fun H h => ⟨_, h.2.1, Nat.le_of_ble_eq_true rfl, fun H1 e1 z1 o => ⟨z1.trans h.1, e1, h.2.2.kept (o _ (by omega))⟩⟩) ?_
  refine x_aload_n B dX1_init_12 rfl ?_
  refine x_iconst B dX1_init_13 ?_
  refine x_sipush B dX1_init_14 (by decide) ?_
  refine x_multi (a := κ + 2) (N := 5) (M := 432) (P' := fun H => H.size = κ + 8 ∧ oat G κ 1 [.ref (κ + 1), .null] H ∧ aat G 0 (κ + 1) 54 z0 H ∧ rat G 2 (κ + 2) 5 (fun k => some (κ + 3 + k)) H ∧ ∀ w : Nat, w < 5 → aat G 0 (κ + 3 + w) 432 z0 H) B dX1_init_17 cl_X1 (by omega) (by omega) (by decide) (fun H h => ⟨h.1, fun H1 e1 e2 z1 o => ⟨z1, h.2.1.kept (o _ (by omega)), h.2.2.kept (o _ (by omega)), e1, e2⟩⟩) ?_
  refine x_putF (P' := fun H => H.size = κ + 8 ∧ bkH G κ (fun _ => z0) H) B R rfl fpX1_17 (fun C T N h => by cases h; rfl) dX1_init_21 rfl rfl hA (fun H h => ⟨_, h.2.1, Nat.le_of_ble_eq_true rfl, fun H1 e1 z1 o => ⟨z1.trans h.1, e1, h.2.2.1.kept (o _ (by omega)), h.2.2.2.1.kept (o _ (by omega)), fun w hw => (h.2.2.2.2 w hw).kept (o _ (by omega)), fun w k => by show -2147483648 ≤ (0 : Int) ∧ (0 : Int) < 2147483648; omega⟩⟩) ?_
  exact x_retV B R dX1_init_24 (fun H h => h)
theorem c_X4_init {G : xG} {l : Launch} {t : Nat} : CT G l yX4_init cX4_init 1 none { frames := 1, locals := 40, cells := 7, slots := 145 } 7 145 [.ref t] (fun H => H.size = t + 1 ∧ oat G t 4 [.null, .null, vi 0, vi 0, vi 0, vi 0, vi 0] H) (pV (fun H => H.size = t + 8 ∧ TX G t z0 0 0 0 0 0 (fun _ => z0) H)) (fun q => t ≤ q) := by
  refine x_met1 (own := RX4) (nm := "<init>") (L := [(0, .ref t)]) (by decide) rfl rfl (fun _ => rfl) (Nat.le_of_ble_eq_true rfl) rfl rfl ?_
  intro Γ B R
  have hA : (fun q => t ≤ q) t := Nat.le_refl _
  refine x_aload_n B dX4_init_0 rfl ?_
  refine x_oi B moX4_3 dX4_init_1 (by decide) ?_
  refine x_aload_n B dX4_init_4 rfl ?_
  refine x_bipush B dX4_init_5 (by decide) ?_
  refine x_newa (atype := .char) (t := .char) (j := 1) (a := t + 1) (N := 100) (P' := fun H => H.size = t + 2 ∧ oat G t 4 [.null, .null, vi 0, vi 0, vi 0, vi 0, vi 0] H ∧ aat G 1 (t + 1) 100 z0 H) B rfl (Or.inr rfl) rfl dX4_init_7 aw_char (by omega) (by decide) (fun H h => ⟨h.1, fun H1 e1 z1 o => ⟨z1, h.2.kept (o _ (by omega)), e1⟩⟩) ?_
  refine x_putF (P' := fun H => H.size = t + 2 ∧ oat G t 4 [.ref (t + 1), .null, vi 0, vi 0, vi 0, vi 0, vi 0] H ∧ aat G 1 (t + 1) 100 z0 H) B R rfl fpX4_9 (fun C T N h => by cases h; rfl) dX4_init_9 rfl rfl hA (fun H h => ⟨_, h.2.1, Nat.le_of_ble_eq_true rfl, fun H1 e1 z1 o => ⟨z1.trans h.1, e1, h.2.2.kept (o _ (by omega))⟩⟩) ?_
  refine x_aload_n B dX4_init_12 rfl ?_
  refine x_iconst B dX4_init_13 ?_
  refine x_bipush B dX4_init_14 (by decide) ?_
  refine x_multi (a := t + 2) (N := 5) (M := 8) (P' := fun H => H.size = t + 8 ∧ oat G t 4 [.ref (t + 1), .null, vi 0, vi 0, vi 0, vi 0, vi 0] H ∧ aat G 1 (t + 1) 100 z0 H ∧ rat G 2 (t + 2) 5 (fun k => some (t + 3 + k)) H ∧ ∀ w : Nat, w < 5 → aat G 0 (t + 3 + w) 8 z0 H) B dX4_init_16 cl_X4 (by omega) (by omega) (by decide) (fun H h => ⟨h.1, fun H1 e1 e2 z1 o => ⟨z1, h.2.1.kept (o _ (by omega)), h.2.2.kept (o _ (by omega)), e1, e2⟩⟩) ?_
  refine x_putF (P' := fun H => H.size = t + 8 ∧ TX G t z0 0 0 0 0 0 (fun _ => z0) H) B R rfl fpX4_17 (fun C T N h => by cases h; rfl) dX4_init_20 rfl rfl hA (fun H h => ⟨_, h.2.1, Nat.le_of_ble_eq_true rfl, fun H1 e1 z1 o => ⟨z1.trans h.1, e1, h.2.2.1.kept (o _ (by omega)), h.2.2.2.1.kept (o _ (by omega)), fun w hw => (h.2.2.2.2 w hw).kept (o _ (by omega)), by omega, by omega, by omega, by omega, by omega, fun w k => by show -2147483648 ≤ (0 : Int) ∧ (0 : Int) < 2147483648; omega⟩⟩) ?_
  exact x_retV B R dX4_init_23 (fun H h => h)

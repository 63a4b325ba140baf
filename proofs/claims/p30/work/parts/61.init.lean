/-! ===== constructors: Journal, the reference ===== -/
def z0 : Int → Int := fun _ => 0
theorem df_0 : ∀ (C : String) (T : u_T) (N' : Nat) (tys : Nat → FieldType), vwCl[0]? = some (C, T, N') → (∀ k, k < N' → parseFieldDescriptor (T k).2.2.1 = some (tys k)) → N' = 10 ∧ ∀ j, j < N' → defaultValue (tys j) = vp_V [vi 0, vi 0, vi 0, vi 0, vi 0, vi 0, vi 0, vi 0, vi 0, .float 0] j := fun C T N' tys h hty => by
  have e := Option.some.inj h
  have eT : TX0 = T := congrArg (fun q => q.2.1) e
  have eN : 10 = N' := congrArg (fun q => q.2.2) e
  subst eT
  subst eN
  refine ⟨rfl, fun j hj => ?_⟩
  have e := (tyX0_ok j hj).symm.trans (hty j hj)
  rw [← Option.some.inj e]
  have hj5 : j = 0 ∨ j = 1 ∨ j = 2 ∨ j = 3 ∨ j = 4 ∨ j = 5 ∨ j = 6 ∨ j = 7 ∨ j = 8 ∨ j = 9 := by omega
  rcases hj5 with q | q | q | q | q | q | q | q | q | q <;> subst q <;> rfl
theorem df_1 : ∀ (C : String) (T : u_T) (N' : Nat) (tys : Nat → FieldType), vwCl[1]? = some (C, T, N') → (∀ k, k < N' → parseFieldDescriptor (T k).2.2.1 = some (tys k)) → N' = 2 ∧ ∀ j, j < N' → defaultValue (tys j) = vp_V [.null, .null] j := fun C T N' tys h hty => by
  have e := Option.some.inj h
  have eT : TX1 = T := congrArg (fun q => q.2.1) e
  have eN : 2 = N' := congrArg (fun q => q.2.2) e
  subst eT
  subst eN
  refine ⟨rfl, fun j hj => ?_⟩
  have e := (tyX1_ok j hj).symm.trans (hty j hj)
  rw [← Option.some.inj e]
  have hj5 : j = 0 ∨ j = 1 := by omega
  rcases hj5 with q | q <;> subst q <;> rfl
theorem df_2 : ∀ (C : String) (T : u_T) (N' : Nat) (tys : Nat → FieldType), vwCl[2]? = some (C, T, N') → (∀ k, k < N' → parseFieldDescriptor (T k).2.2.1 = some (tys k)) → N' = 5 ∧ ∀ j, j < N' → defaultValue (tys j) = vp_V [.null, .null, .null, vi 0, vi 0] j := fun C T N' tys h hty => by
  have e := Option.some.inj h
  have eT : TX2 = T := congrArg (fun q => q.2.1) e
  have eN : 5 = N' := congrArg (fun q => q.2.2) e
  subst eT
  subst eN
  refine ⟨rfl, fun j hj => ?_⟩
  have e := (tyX2_ok j hj).symm.trans (hty j hj)
  rw [← Option.some.inj e]
  have hj5 : j = 0 ∨ j = 1 ∨ j = 2 ∨ j = 3 ∨ j = 4 := by omega
  rcases hj5 with q | q | q | q | q <;> subst q <;> rfl
theorem df_3 : ∀ (C : String) (T : u_T) (N' : Nat) (tys : Nat → FieldType), vwCl[3]? = some (C, T, N') → (∀ k, k < N' → parseFieldDescriptor (T k).2.2.1 = some (tys k)) → N' = 12 ∧ ∀ j, j < N' → defaultValue (tys j) = vp_V [.null, .null, .null, .null, .null, .null, .null, vi 0, vi 0, vi 0, vi 0, vi 0] j := fun C T N' tys h hty => by
  have e := Option.some.inj h
  have eT : TX3 = T := congrArg (fun q => q.2.1) e
  have eN : 12 = N' := congrArg (fun q => q.2.2) e
  subst eT
  subst eN
  refine ⟨rfl, fun j hj => ?_⟩
  have e := (tyX3_ok j hj).symm.trans (hty j hj)
  rw [← Option.some.inj e]
  have hj5 : j = 0 ∨ j = 1 ∨ j = 2 ∨ j = 3 ∨ j = 4 ∨ j = 5 ∨ j = 6 ∨ j = 7 ∨ j = 8 ∨ j = 9 ∨ j = 10 ∨ j = 11 := by omega
  rcases hj5 with q | q | q | q | q | q | q | q | q | q | q | q <;> subst q <;> rfl
theorem df_4 : ∀ (C : String) (T : u_T) (N' : Nat) (tys : Nat → FieldType), vwCl[4]? = some (C, T, N') → (∀ k, k < N' → parseFieldDescriptor (T k).2.2.1 = some (tys k)) → N' = 7 ∧ ∀ j, j < N' → defaultValue (tys j) = vp_V [.null, .null, vi 0, vi 0, vi 0, vi 0, vi 0] j := fun C T N' tys h hty => by
  have e := Option.some.inj h
  have eT : TX4 = T := congrArg (fun q => q.2.1) e
  have eN : 7 = N' := congrArg (fun q => q.2.2) e
  subst eT
  subst eN
  refine ⟨rfl, fun j hj => ?_⟩
  have e := (tyX4_ok j hj).symm.trans (hty j hj)
  rw [← Option.some.inj e]
  have hj5 : j = 0 ∨ j = 1 ∨ j = 2 ∨ j = 3 ∨ j = 4 ∨ j = 5 ∨ j = 6 := by omega
  rcases hj5 with q | q | q | q | q | q | q <;> subst q <;> rfl
theorem df_5 : ∀ (C : String) (T : u_T) (N' : Nat) (tys : Nat → FieldType), vwCl[5]? = some (C, T, N') → (∀ k, k < N' → parseFieldDescriptor (T k).2.2.1 = some (tys k)) → N' = 6 ∧ ∀ j, j < N' → defaultValue (tys j) = vp_V [vi 0, vi 0, vi 0, vi 0, vi 0, vi 0] j := fun C T N' tys h hty => by
  have e := Option.some.inj h
  have eT : TX5 = T := congrArg (fun q => q.2.1) e
  have eN : 6 = N' := congrArg (fun q => q.2.2) e
  subst eT
  subst eN
  refine ⟨rfl, fun j hj => ?_⟩
  have e := (tyX5_ok j hj).symm.trans (hty j hj)
  rw [← Option.some.inj e]
  have hj5 : j = 0 ∨ j = 1 ∨ j = 2 ∨ j = 3 ∨ j = 4 ∨ j = 5 := by omega
  rcases hj5 with q | q | q | q | q | q <;> subst q <;> rfl
theorem df_6 : ∀ (C : String) (T : u_T) (N' : Nat) (tys : Nat → FieldType), vwCl[6]? = some (C, T, N') → (∀ k, k < N' → parseFieldDescriptor (T k).2.2.1 = some (tys k)) → N' = 6 ∧ ∀ j, j < N' → defaultValue (tys j) = vp_V [.null, .null, .null, .null, .null, vi 0] j := fun C T N' tys h hty => by
  have e := Option.some.inj h
  have eT : TX6 = T := congrArg (fun q => q.2.1) e
  have eN : 6 = N' := congrArg (fun q => q.2.2) e
  subst eT
  subst eN
  refine ⟨rfl, fun j hj => ?_⟩
  have e := (tyX6_ok j hj).symm.trans (hty j hj)
  rw [← Option.some.inj e]
  have hj5 : j = 0 ∨ j = 1 ∨ j = 2 ∨ j = 3 ∨ j = 4 ∨ j = 5 := by omega
  rcases hj5 with q | q | q | q | q | q <;> subst q <;> rfl
theorem c_X2_init {G : xG} {l : Launch} {j : Nat} : CT G l yX2_init cX2_init 1 none { frames := 1, locals := 30, cells := 3, slots := 120 } 3 120 [.ref j] (fun H => H.size = j + 1 ∧ oat G j 2 [.null, .null, .null, vi 0, vi 0] H) (pV (fun H => H.size = j + 4 ∧ JR G j 0 0 z0 z0 z0 H)) (fun q => j ≤ q) := by
  refine x_met1 (own := RX2) (nm := "<init>") (L := [(0, .ref j)]) (by decide) rfl rfl (fun _ => rfl) (Nat.le_of_ble_eq_true rfl) rfl rfl ?_
  intro Γ B R
  have hA : (fun q => j ≤ q) j := Nat.le_refl _
  refine x_aload_n B dX2_init_0 rfl ?_
  refine x_oi B moX2_3 dX2_init_1 (by decide) ?_
  refine x_aload_n B dX2_init_4 rfl ?_
  refine x_bipush B dX2_init_5 (by decide) ?_
  refine x_newa (atype := .int) (t := .int) (j := 0) (a := j + 1) (N := 40) (P' := (fun H => H.size = j + 2 ∧ oat G j 2 [.null, .null, .null, vi 0, vi 0] H ∧ aat G 0 (j + 1) 40 z0 H)) B rfl (Or.inl rfl) rfl dX2_init_7 aw_int (by omega) (by decide) (fun H h => ⟨h.1, fun H1 e1 z1 o => ⟨z1, h.2.kept (o _ (by omega)), e1⟩⟩) ?_
  refine x_putF (P' := (fun H => H.size = j + 2 ∧ oat G j 2 [.ref (j + 1), .null, .null, vi 0, vi 0] H ∧ aat G 0 (j + 1) 40 z0 H)) B R rfl fpX2_9 (fun C T N h => by cases h; rfl) dX2_init_9 rfl rfl hA (fun H h => ⟨_, h.2.1, Nat.le_of_ble_eq_true rfl, fun H1 e1 z1 o => ⟨z1.trans h.1, e1, h.2.2.kept (o _ (by omega))⟩⟩) ?_
  refine x_aload_n B dX2_init_12 rfl ?_
  refine x_bipush B dX2_init_13 (by decide) ?_
  refine x_newa (atype := .int) (t := .int) (j := 0) (a := j + 2) (N := 40) (P' := (fun H => H.size = j + 3 ∧ oat G j 2 [.ref (j + 1), .null, .null, vi 0, vi 0] H ∧ aat G 0 (j + 1) 40 z0 H ∧ aat G 0 (j + 2) 40 z0 H)) B rfl (Or.inl rfl) rfl dX2_init_15 aw_int (by omega) (by decide) (fun H h => ⟨h.1, fun H1 e1 z1 o => ⟨z1, h.2.1.kept (o _ (by omega)), h.2.2.kept (o _ (by omega)), e1⟩⟩) ?_
  refine x_putF (P' := (fun H => H.size = j + 3 ∧ oat G j 2 [.ref (j + 1), .ref (j + 2), .null, vi 0, vi 0] H ∧ aat G 0 (j + 1) 40 z0 H ∧ aat G 0 (j + 2) 40 z0 H)) B R rfl fpX2_15 (fun C T N h => by cases h; rfl) dX2_init_17 rfl rfl hA (fun H h => ⟨_, h.2.1, Nat.le_of_ble_eq_true rfl, fun H1 e1 z1 o => ⟨z1.trans h.1, e1, h.2.2.1.kept (o _ (by omega)), h.2.2.2.kept (o _ (by omega))⟩⟩) ?_
  refine x_aload_n B dX2_init_20 rfl ?_
  refine x_bipush B dX2_init_21 (by decide) ?_
  refine x_newa (atype := .int) (t := .int) (j := 0) (a := j + 3) (N := 40) (P' := (fun H => H.size = j + 4 ∧ oat G j 2 [.ref (j + 1), .ref (j + 2), .null, vi 0, vi 0] H ∧ aat G 0 (j + 1) 40 z0 H ∧ aat G 0 (j + 2) 40 z0 H ∧ aat G 0 (j + 3) 40 z0 H)) B rfl (Or.inl rfl) rfl dX2_init_23 aw_int (by omega) (by decide) (fun H h => ⟨h.1, fun H1 e1 z1 o => ⟨z1, h.2.1.kept (o _ (by omega)), h.2.2.1.kept (o _ (by omega)), h.2.2.2.kept (o _ (by omega)), e1⟩⟩) ?_
  refine x_putF (P' := (fun H => H.size = j + 4 ∧ oat G j 2 [.ref (j + 1), .ref (j + 2), .ref (j + 3), vi 0, vi 0] H ∧ aat G 0 (j + 1) 40 z0 H ∧ aat G 0 (j + 2) 40 z0 H ∧ aat G 0 (j + 3) 40 z0 H)) B R rfl fpX2_18 (fun C T N h => by cases h; rfl) dX2_init_25 rfl rfl hA (fun H h => ⟨_, h.2.1, Nat.le_of_ble_eq_true rfl, fun H1 e1 z1 o => ⟨z1.trans h.1, e1, h.2.2.1.kept (o _ (by omega)), h.2.2.2.1.kept (o _ (by omega)), h.2.2.2.2.kept (o _ (by omega))⟩⟩) ?_
  exact x_retV B R dX2_init_28 (fun H h => ⟨h.1, h.2.1, h.2.2.1, h.2.2.2.1, h.2.2.2.2, by omega, by omega, fun k => by unfold z0; omega⟩)
/-- the memory of a new object, k pieces free -/
def n0 (k : Int) : Int → Int := fun j => if j = 0 then 2 else if 53 ≤ j ∧ j < 53 + k then -1 else 0
theorem n0_rg {k : Int} : ∀ j, -2147483648 ≤ n0 k j ∧ n0 k j < 2147483648 := fun j => by
  unfold n0
  split
  · omega
  · split <;> omega
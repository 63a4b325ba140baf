/-! ===== constructors: Journal, the reference ===== -/
def z0 : Int → Int := fun _ => 0
theorem df_0 : ∀ (C : String) (T : u_T) (N' : Nat) (tys : Nat → FieldType), vwCl[0]? = some (C, T, N') → (∀ k, k < N' → parseFieldDescriptor (T k).2.2.1 = some (tys k)) → N' = 10 ∧ ∀ j, j < N' → defaultValue (tys j) = vp_V [vi 0, vi 0, vi 0, vi 0, vi 0, vi 0, vi 0, vi 0, vi 0, .float 0] j := fun C T N' tys h hty => by
  have e := Option.some.inj h
  have eT : TX0 = T := congrArg (fun q => q.2.1) e
  have eN : 10 = N' := congrArg (fun q => q.2.2) e
  subst eT
  subst eN
  refine ⟨rfl, fun j hj => ?_⟩
  have e := (tyX0_ok j hj).symm.trans (hty j hj)
  rw [← Option.some.inj e]
  have hj5 : j = 0 ∨ j = 1 ∨ j = 2 ∨ j = 3 ∨ j = 4 ∨ j = 5 ∨ j = 6 ∨ j = 7 ∨ j = 8 ∨ j = 9 := by omega
  rcases hj5 with q | q | q | q | q | q | q | q | q | q <;> subst q <;> rfl
theorem df_1 : ∀ (C : String) (T : u_T) (N' : Nat) (tys : Nat → FieldType), vwCl[1]? = some (C, T, N') → (∀ k, k < N' → parseFieldDescriptor (T k).2.2.1 = some (tys k)) → N' = 2 ∧ ∀ j, j < N' → defaultValue (tys j) = vp_V [.null, .null] j := fun C T N' tys h hty => by
  have e := Option.some.inj h
  have eT : TX1 = T := congrArg (fun q => q.2.1) e
  have eN : 2 = N' := congrArg (fun q => q.2.2) e
  subst eT
  subst eN
  refine ⟨rfl, fun j hj => ?_⟩
  have e := (tyX1_ok j hj).symm.trans (hty j hj)
  rw [← Option.some.inj e]
  have hj5 : j = 0 ∨ j = 1 := by omega
  rcases hj5 with q | q <;> subst q <;> rfl
theorem df_2 : ∀ (C : String) (T : u_T) (N' : Nat) (tys : Nat → FieldType), vwCl[2]? = some (C, T, N') → (∀ k, k < N' → parseFieldDescriptor (T k).2.2.1 = some (tys k)) → N' = 5 ∧ ∀ j, j < N' → defaultValue (tys j) = vp_V [.null, .null, .null, vi 0, vi 0] j := fun C T N' tys h hty => by
  have e := Option.some.inj h
  have eT : TX2 = T := congrArg (fun q => q.2.1) e
  have eN : 5 = N' := congrArg (fun q => q.2.2) e
  subst eT
  subst eN
  refine ⟨rfl, fun j hj => ?_⟩
  have e := (tyX2_ok j hj).symm.trans (hty j hj)
  rw [← Option.some.inj e]
  have hj5 : j = 0 ∨ j = 1 ∨ j = 2 ∨ j = 3 ∨ j = 4 := by omega
  rcases hj5 with q | q | q | q | q <;> subst q <;> rfl
theorem df_3 : ∀ (C : String) (T : u_T) (N' : Nat) (tys : Nat → FieldType), vwCl[3]? = some (C, T, N') → (∀ k, k < N' → parseFieldDescriptor (T k).2.2.1 = some (tys k)) → N' = 12 ∧ ∀ j, j < N' → defaultValue (tys j) = vp_V [.null, .null, .null, .null, .null, .null, .null, vi 0, vi 0, vi 0, vi 0, vi 0] j := fun C T N' tys h hty => by
  have e := Option.some.inj h
  have eT : TX3 = T := congrArg (fun q => q.2.1) e
  have eN : 12 = N' := congrArg (fun q => q.2.2) e
  subst eT
  subst eN
  refine ⟨rfl, fun j hj => ?_⟩
  have e := (tyX3_ok j hj).symm.trans (hty j hj)
  rw [← Option.some.inj e]
  have hj5 : j = 0 ∨ j = 1 ∨ j = 2 ∨ j = 3 ∨ j = 4 ∨ j = 5 ∨ j = 6 ∨ j = 7 ∨ j = 8 ∨ j = 9 ∨ j = 10 ∨ j = 11 := by omega
  rcases hj5 with q | q | q | q | q | q | q | q | q | q | q | q <;> subst q <;> rfl
theorem df_4 : ∀ (C : String) (T : u_T) (N' : Nat) (tys : Nat → FieldType), vwCl[4]? = some (C, T, N') → (∀ k, k < N' → parseFieldDescriptor (T k).2.2.1 = some (tys k)) → N' = 7 ∧ ∀ j, j < N' → defaultValue (tys j) = vp_V [.null, .null, vi 0, vi 0, vi 0, vi 0, vi 0] j := fun C T N' tys h hty => by
  have e := Option.some.inj h
  have eT : TX4 = T := congrArg (fun q => q.2.1) e
  have eN : 7 = N' := congrArg (fun q => q.2.2) e
  subst eT
  subst eN
  refine ⟨rfl, fun j hj => ?_⟩
  have e := (tyX4_ok j hj).symm.trans (hty j hj)
  rw [← Option.some.inj e]
  have hj5 : j = 0 ∨ j = 1 ∨ j = 2 ∨ j = 3 ∨ j = 4 ∨ j = 5 ∨ j = 6 := by omega
  rcases hj5 with q | q | q | q | q | q | q <;> subst q <;> rfl
theorem df_5 : ∀ (C : String) (T : u_T) (N' : Nat) (tys : Nat → FieldType), vwCl[5]? = some (C, T, N') → (∀ k, k < N' → parseFieldDescriptor (T k).2.2.1 = some (tys k)) → N' = 6 ∧ ∀ j, j < N' → defaultValue (tys j) = vp_V [vi 0, vi 0, vi 0, vi 0, vi 0, vi 0] j := fun C T N' tys h hty => by
  have e := Option.some.inj h
  have eT : TX5 = T := congrArg (fun q => q.2.1) e
  have eN : 6 = N' := congrArg (fun q => q.2.2) e
  subst eT
  subst eN
  refine ⟨rfl, fun j hj => ?_⟩
  have e := (tyX5_ok j hj).symm.trans (hty j hj)
  rw [← Option.some.inj e]
  have hj5 : j = 0 ∨ j = 1 ∨ j = 2 ∨ j = 3 ∨ j = 4 ∨ j = 5 := by omega
  rcases hj5 with q | q | q | q | q | q <;> subst q <;> rfl
theorem df_6 : ∀ (C : String) (T : u_T) (N' : Nat) (tys : Nat → FieldType), vwCl[6]? = some (C, T, N') → (∀ k, k < N' → parseFieldDescriptor (T k).2.2.1 = some (tys k)) → N' = 6 ∧ ∀ j, j < N' → defaultValue (tys j) = vp_V [.null, .null, .null, .null, .null, vi 0] j := fun C T N' tys h hty => by
  have e := Option.some.inj h
  have eT : TX6 = T := congrArg (fun q => q.2.1) e
  have eN : 6 = N' := congrArg (fun q => q.2.2) e
  subst eT
  subst eN
  refine ⟨rfl, fun j hj => ?_⟩
  have e := (tyX6_ok j hj).symm.trans (hty j hj)
  rw [← Option.some.inj e]
  have hj5 : j = 0 ∨ j = 1 ∨ j = 2 ∨ j = 3 ∨ j = 4 ∨ j = 5 := by omega
  rcases hj5 with q | q | q | q | q | q <;> subst q <;> rfl
theorem df_7 : ∀ (C : String) (T : u_T) (N' : Nat) (tys : Nat → FieldType), vwCl[7]? = some (C, T, N') → (∀ k, k < N' → parseFieldDescriptor (T k).2.2.1 = some (tys k)) → N' = 11 ∧ ∀ j, j < N' → defaultValue (tys j) = vp_V [.null, .null, .null, vi 0, .null, vi 0, vi 0, vi 0, vi 0, .null, .null] j := fun C T N' tys h hty => by
  have e := Option.some.inj h
  have eT : TX7 = T := congrArg (fun q => q.2.1) e
  have eN : 11 = N' := congrArg (fun q => q.2.2) e
  subst eT
  subst eN
  refine ⟨rfl, fun j hj => ?_⟩
  have e := (tyX7_ok j hj).symm.trans (hty j hj)
  rw [← Option.some.inj e]
  have hj5 : j = 0 ∨ j = 1 ∨ j = 2 ∨ j = 3 ∨ j = 4 ∨ j = 5 ∨ j = 6 ∨ j = 7 ∨ j = 8 ∨ j = 9 ∨ j = 10 := by omega
  rcases hj5 with q | q | q | q | q | q | q | q | q | q | q <;> subst q <;> rfl
theorem c_X2_init {G : xG} {l : Launch} {j : Nat} : CT G l yX2_init cX2_init 1 none { frames := 1, locals := 30, cells := 3, slots := 120 } 3 120 [.ref j] (fun H => H.size = j + 1 ∧ oat G j 2 [.null, .null, .null, vi 0, vi 0] H) (pV (fun H => H.size = j + 4 ∧ JR G j 0 0 z0 z0 z0 H)) (fun q => j ≤ q) := by
  refine x_met1 (own := RX2) (nm := "<init>") (L := [(0, .ref j)]) (by decide) rfl rfl (fun _ => rfl) (Nat.le_of_ble_eq_true rfl) rfl rfl ?_
  intro Γ B R
  have hA : (fun q => j ≤ q) j := Nat.le_refl _
  refine x_aload_n B dX2_init_0 rfl ?_
  refine x_oi B moX2_3 dX2_init_1 (by decide) ?_
  refine x_aload_n B dX2_init_4 rfl ?_
  refine x_bipush B dX2_init_5 (by decide) ?_
  refine x_newa (atype := .int) (t := .int) (j := 0) (a := j + 1) (N := 40) (P' := (fun H => H.size = j + 2 ∧ oat G j 2 [.null, .null, .null, vi 0, vi 0] H ∧ aat G 0 (j + 1) 40 z0 H)) B rfl (Or.inl rfl) rfl dX2_init_7 aw_int (by omega) (by decide) (fun H h => ⟨h.1, fun H1 e1 z1 o => ⟨z1, h.2.kept (o _ (by omega)), e1⟩⟩) ?_
  refine x_putF (P' := (fun H => H.size = j + 2 ∧ oat G j 2 [.ref (j + 1), .null, .null, vi 0, vi 0] H ∧ aat G 0 (j + 1) 40 z0 H)) B R rfl fpX2_9 (fun C T N h => by cases h; rfl) dX2_init_9 rfl rfl hA (fun H h => ⟨_, h.2.1, Nat.le_of_ble_eq_true rfl, fun H1 e1 z1 o => ⟨z1.trans h.1, e1, h.2.2.kept (o _ (by omega))⟩⟩) ?_
  refine x_aload_n B dX2_init_12 rfl ?_
  refine x_bipush B dX2_init_13 (by decide) ?_
  refine x_newa (atype := .int) (t := .int) (j := 0) (a := j + 2) (N := 40) (P' := (fun H => H.size = j + 3 ∧ oat G j 2 [.ref (j + 1), .null, .null, vi 0, vi 0] H ∧ aat G 0 (j + 1) 40 z0 H ∧ aat G 0 (j + 2) 40 z0 H)) B rfl (Or.inl rfl) rfl dX2_init_15 aw_int (by omega) (by decide) (fun H h => ⟨h.1, fun H1 e1 z1 o => ⟨z1, h.2.1.kept (o _ (by omega)), h.2.2.kept (o _ (by omega)), e1⟩⟩) ?_
  refine x_putF (P' := (fun H => H.size = j + 3 ∧ oat G j 2 [.ref (j + 1), .ref (j + 2), .null, vi 0, vi 0] H ∧ aat G 0 (j + 1) 40 z0 H ∧ aat G 0 (j + 2) 40 z0 H)) B R rfl fpX2_15 (fun C T N h => by cases h; rfl) dX2_init_17 rfl rfl hA (fun H h => ⟨_, h.2.1, Nat.le_of_ble_eq_true rfl, fun H1 e1 z1 o => ⟨z1.trans h.1, e1, h.2.2.1.kept (o _ (by omega)), h.2.2.2.kept (o _ (by omega))⟩⟩) ?_
  refine x_aload_n B dX2_init_20 rfl ?_
  refine x_bipush B dX2_init_21 (by decide) ?_
  refine x_newa (atype := .int) (t := .int) (j := 0) (a := j + 3) (N := 40) (P' := (fun H => H.size = j + 4 ∧ oat G j 2 [.ref (j + 1), .ref (j + 2), .null, vi 0, vi 0] H ∧ aat G 0 (j + 1) 40 z0 H ∧ aat G 0 (j + 2) 40 z0 H ∧ aat G 0 (j + 3) 40 z0 H)) B rfl (Or.inl rfl) rfl dX2_init_23 aw_int (by omega) (by decide) (fun H h => ⟨h.1, fun H1 e1 z1 o => ⟨z1, h.2.1.kept (o _ (by omega)), h.2.2.1.kept (o _ (by omega)), h.2.2.2.kept (o _ (by omega)), e1⟩⟩) ?_
  refine x_putF (P' := (fun H => H.size = j + 4 ∧ oat G j 2 [.ref (j + 1), .ref (j + 2), .ref (j + 3), vi 0, vi 0] H ∧ aat G 0 (j + 1) 40 z0 H ∧ aat G 0 (j + 2) 40 z0 H ∧ aat G 0 (j + 3) 40 z0 H)) B R rfl fpX2_18 (fun C T N h => by cases h; rfl) dX2_init_25 rfl rfl hA (fun H h => ⟨_, h.2.1, Nat.le_of_ble_eq_true rfl, fun H1 e1 z1 o => ⟨z1.trans h.1, e1, h.2.2.1.kept (o _ (by omega)), h.2.2.2.1.kept (o _ (by omega)), h.2.2.2.2.kept (o _ (by omega))⟩⟩) ?_
  exact x_retV B R dX2_init_28 (fun H h => ⟨h.1, h.2.1, h.2.2.1, h.2.2.2.1, h.2.2.2.2, by omega, by omega, fun k => by unfold z0; omega⟩)
/-- the memory of a new object, k pieces free -/
def n0 (k : Int) : Int → Int := fun j => if j = 0 then 2 else if 53 ≤ j ∧ j < 53 + k then -1 else 0
theorem n0_rg {k : Int} : ∀ j, -2147483648 ≤ n0 k j ∧ n0 k j < 2147483648 := fun j => by
  unfold n0
  split
  · omega
  · split <;> omega
theorem c_X7_init {G : xG} {l : Launch} {b : Nat} : CT G l yX7_init cX7_init 2 none { frames := 1, locals := 40, cells := 6, slots := 4848 } 6 4848 [.ref b] (fun H => H.size = b + 1 ∧ oat G b 7 [.null, .null, .null, vi 0, .null, vi 0, vi 0, vi 0, vi 0, .null, .null] H) (pV (fun H => H.size = b + 7 ∧ PM G b (n0 3) (fun _ => z0) H)) (fun q => b ≤ q) := by
  refine x_met1 (own := RX7) (nm := "<init>") (L := [(0, .ref b)]) (by decide) rfl rfl (fun _ => rfl) (Nat.le_of_ble_eq_true rfl) rfl rfl ?_
  intro Γ B R
  have hA : (fun q => b ≤ q) b := Nat.le_refl _
  refine x_aload_n B dX7_init_0 rfl ?_
  refine x_oi B moX7_1 dX7_init_1 (by decide) ?_
  refine x_aload_n B dX7_init_4 rfl ?_
  refine x_sipush B dX7_init_5 (by decide) ?_
  refine x_newa (atype := .int) (t := .int) (j := 0) (a := b + 1) (N := 788) (P' := (fun H => H.size = b + 2 ∧ oat G b 7 [.null, .null, .null, vi 0, .null, vi 0, vi 0, vi 0, vi 0, .null, .null] H ∧ aat G 0 (b + 1) 788 z0 H)) B rfl (Or.inl rfl) rfl dX7_init_8 aw_int (by omega) (by decide) (fun H h => ⟨h.1, fun H1 e1 z1 o => ⟨z1, h.2.kept (o _ (by omega)), e1⟩⟩) ?_
  refine x_putF (P' := (fun H => H.size = b + 2 ∧ oat G b 7 [.ref (b + 1), .null, .null, vi 0, .null, vi 0, vi 0, vi 0, vi 0, .null, .null] H ∧ aat G 0 (b + 1) 788 z0 H)) B R rfl fpX7_7 (fun C T N h => by cases h; rfl) dX7_init_10 rfl rfl hA (fun H h => ⟨_, h.2.1, Nat.le_of_ble_eq_true rfl, fun H1 e1 z1 o => ⟨z1.trans h.1, e1, h.2.2.kept (o _ (by omega))⟩⟩) ?_
  refine x_aload_n B dX7_init_13 rfl ?_
  refine x_sipush B dX7_init_14 (by decide) ?_
  refine x_newa (atype := .int) (t := .int) (j := 0) (a := b + 2) (N := 788) (P' := (fun H => H.size = b + 3 ∧ oat G b 7 [.ref (b + 1), .null, .null, vi 0, .null, vi 0, vi 0, vi 0, vi 0, .null, .null] H ∧ aat G 0 (b + 1) 788 z0 H ∧ aat G 0 (b + 2) 788 z0 H)) B rfl (Or.inl rfl) rfl dX7_init_17 aw_int (by omega) (by decide) (fun H h => ⟨h.1, fun H1 e1 z1 o => ⟨z1, h.2.1.kept (o _ (by omega)), h.2.2.kept (o _ (by omega)), e1⟩⟩) ?_
  refine x_putF (P' := (fun H => H.size = b + 3 ∧ oat G b 7 [.ref (b + 1), .ref (b + 2), .null, vi 0, .null, vi 0, vi 0, vi 0, vi 0, .null, .null] H ∧ aat G 0 (b + 1) 788 z0 H ∧ aat G 0 (b + 2) 788 z0 H)) B R rfl fpX7_13 (fun C T N h => by cases h; rfl) dX7_init_19 rfl rfl hA (fun H h => ⟨_, h.2.1, Nat.le_of_ble_eq_true rfl, fun H1 e1 z1 o => ⟨z1.trans h.1, e1, h.2.2.1.kept (o _ (by omega)), h.2.2.2.kept (o _ (by omega))⟩⟩) ?_
  refine x_aload_n B dX7_init_22 rfl ?_
  refine x_sipush B dX7_init_23 (by decide) ?_
  refine x_newa (atype := .int) (t := .int) (j := 0) (a := b + 3) (N := 3152) (P' := (fun H => H.size = b + 4 ∧ oat G b 7 [.ref (b + 1), .ref (b + 2), .null, vi 0, .null, vi 0, vi 0, vi 0, vi 0, .null, .null] H ∧ aat G 0 (b + 1) 788 z0 H ∧ aat G 0 (b + 2) 788 z0 H ∧ aat G 0 (b + 3) 3152 z0 H)) B rfl (Or.inl rfl) rfl dX7_init_26 aw_int (by omega) (by decide) (fun H h => ⟨h.1, fun H1 e1 z1 o => ⟨z1, h.2.1.kept (o _ (by omega)), h.2.2.1.kept (o _ (by omega)), h.2.2.2.kept (o _ (by omega)), e1⟩⟩) ?_
  refine x_putF (P' := (fun H => H.size = b + 4 ∧ oat G b 7 [.ref (b + 1), .ref (b + 2), .ref (b + 3), vi 0, .null, vi 0, vi 0, vi 0, vi 0, .null, .null] H ∧ aat G 0 (b + 1) 788 z0 H ∧ aat G 0 (b + 2) 788 z0 H ∧ aat G 0 (b + 3) 3152 z0 H)) B R rfl fpX7_16 (fun C T N h => by cases h; rfl) dX7_init_28 rfl rfl hA (fun H h => ⟨_, h.2.1, Nat.le_of_ble_eq_true rfl, fun H1 e1 z1 o => ⟨z1.trans h.1, e1, h.2.2.1.kept (o _ (by omega)), h.2.2.2.1.kept (o _ (by omega)), h.2.2.2.2.kept (o _ (by omega))⟩⟩) ?_
  refine x_aload_n B dX7_init_31 rfl ?_
  refine x_bipush B dX7_init_32 (by decide) ?_
  refine x_newa (atype := .int) (t := .int) (j := 0) (a := b + 4) (N := 100) (P' := (fun H => H.size = b + 5 ∧ oat G b 7 [.ref (b + 1), .ref (b + 2), .ref (b + 3), vi 0, .null, vi 0, vi 0, vi 0, vi 0, .null, .null] H ∧ aat G 0 (b + 1) 788 z0 H ∧ aat G 0 (b + 2) 788 z0 H ∧ aat G 0 (b + 3) 3152 z0 H ∧ aat G 0 (b + 4) 100 z0 H)) B rfl (Or.inl rfl) rfl dX7_init_34 aw_int (by omega) (by decide) (fun H h => ⟨h.1, fun H1 e1 z1 o => ⟨z1, h.2.1.kept (o _ (by omega)), h.2.2.1.kept (o _ (by omega)), h.2.2.2.1.kept (o _ (by omega)), h.2.2.2.2.kept (o _ (by omega)), e1⟩⟩) ?_
  refine x_putF (P' := (fun H => H.size = b + 5 ∧ oat G b 7 [.ref (b + 1), .ref (b + 2), .ref (b + 3), vi 0, .ref (b + 4), vi 0, vi 0, vi 0, vi 0, .null, .null] H ∧ aat G 0 (b + 1) 788 z0 H ∧ aat G 0 (b + 2) 788 z0 H ∧ aat G 0 (b + 3) 3152 z0 H ∧ aat G 0 (b + 4) 100 z0 H)) B R rfl fpX7_19 (fun C T N h => by cases h; rfl) dX7_init_36 rfl rfl hA (fun H h => ⟨_, h.2.1, Nat.le_of_ble_eq_true rfl, fun H1 e1 z1 o => ⟨z1.trans h.1, e1, h.2.2.1.kept (o _ (by omega)), h.2.2.2.1.kept (o _ (by omega)), h.2.2.2.2.1.kept (o _ (by omega)), h.2.2.2.2.2.kept (o _ (by omega))⟩⟩) ?_
  refine x_aload_n B dX7_init_39 rfl ?_
  refine x_bipush B dX7_init_40 (by decide) ?_
  refine x_newa (atype := .int) (t := .int) (j := 0) (a := b + 5) (N := 8) (P' := (fun H => H.size = b + 6 ∧ oat G b 7 [.ref (b + 1), .ref (b + 2), .ref (b + 3), vi 0, .ref (b + 4), vi 0, vi 0, vi 0, vi 0, .null, .null] H ∧ aat G 0 (b + 1) 788 z0 H ∧ aat G 0 (b + 2) 788 z0 H ∧ aat G 0 (b + 3) 3152 z0 H ∧ aat G 0 (b + 4) 100 z0 H ∧ aat G 0 (b + 5) 8 z0 H)) B rfl (Or.inl rfl) rfl dX7_init_42 aw_int (by omega) (by decide) (fun H h => ⟨h.1, fun H1 e1 z1 o => ⟨z1, h.2.1.kept (o _ (by omega)), h.2.2.1.kept (o _ (by omega)), h.2.2.2.1.kept (o _ (by omega)), h.2.2.2.2.1.kept (o _ (by omega)), h.2.2.2.2.2.kept (o _ (by omega)), e1⟩⟩) ?_
  refine x_putF (P' := (fun H => H.size = b + 6 ∧ oat G b 7 [.ref (b + 1), .ref (b + 2), .ref (b + 3), vi 0, .ref (b + 4), vi 0, vi 0, vi 0, vi 0, .ref (b + 5), .null] H ∧ aat G 0 (b + 1) 788 z0 H ∧ aat G 0 (b + 2) 788 z0 H ∧ aat G 0 (b + 3) 3152 z0 H ∧ aat G 0 (b + 4) 100 z0 H ∧ aat G 0 (b + 5) 8 z0 H)) B R rfl fpX7_22 (fun C T N h => by cases h; rfl) dX7_init_44 rfl rfl hA (fun H h => ⟨_, h.2.1, Nat.le_of_ble_eq_true rfl, fun H1 e1 z1 o => ⟨z1.trans h.1, e1, h.2.2.1.kept (o _ (by omega)), h.2.2.2.1.kept (o _ (by omega)), h.2.2.2.2.1.kept (o _ (by omega)), h.2.2.2.2.2.1.kept (o _ (by omega)), h.2.2.2.2.2.2.kept (o _ (by omega))⟩⟩) ?_
  refine x_aload_n B dX7_init_47 rfl ?_
  refine x_bipush B dX7_init_48 (by decide) ?_
  refine x_newa (atype := .int) (t := .int) (j := 0) (a := b + 6) (N := 12) (P' := (fun H => H.size = b + 7 ∧ oat G b 7 [.ref (b + 1), .ref (b + 2), .ref (b + 3), vi 0, .ref (b + 4), vi 0, vi 0, vi 0, vi 0, .ref (b + 5), .null] H ∧ aat G 0 (b + 1) 788 z0 H ∧ aat G 0 (b + 2) 788 z0 H ∧ aat G 0 (b + 3) 3152 z0 H ∧ aat G 0 (b + 4) 100 z0 H ∧ aat G 0 (b + 5) 8 z0 H ∧ aat G 0 (b + 6) 12 z0 H)) B rfl (Or.inl rfl) rfl dX7_init_50 aw_int (by omega) (by decide) (fun H h => ⟨h.1, fun H1 e1 z1 o => ⟨z1, h.2.1.kept (o _ (by omega)), h.2.2.1.kept (o _ (by omega)), h.2.2.2.1.kept (o _ (by omega)), h.2.2.2.2.1.kept (o _ (by omega)), h.2.2.2.2.2.1.kept (o _ (by omega)), h.2.2.2.2.2.2.kept (o _ (by omega)), e1⟩⟩) ?_
  refine x_putF (P' := (fun H => H.size = b + 7 ∧ oat G b 7 [.ref (b + 1), .ref (b + 2), .ref (b + 3), vi 0, .ref (b + 4), vi 0, vi 0, vi 0, vi 0, .ref (b + 5), .ref (b + 6)] H ∧ aat G 0 (b + 1) 788 z0 H ∧ aat G 0 (b + 2) 788 z0 H ∧ aat G 0 (b + 3) 3152 z0 H ∧ aat G 0 (b + 4) 100 z0 H ∧ aat G 0 (b + 5) 8 z0 H ∧ aat G 0 (b + 6) 12 z0 H)) B R rfl fpX7_25 (fun C T N h => by cases h; rfl) dX7_init_52 rfl rfl hA (fun H h => ⟨_, h.2.1, Nat.le_of_ble_eq_true rfl, fun H1 e1 z1 o => ⟨z1.trans h.1, e1, h.2.2.1.kept (o _ (by omega)), h.2.2.2.1.kept (o _ (by omega)), h.2.2.2.2.1.kept (o _ (by omega)), h.2.2.2.2.2.1.kept (o _ (by omega)), h.2.2.2.2.2.2.1.kept (o _ (by omega)), h.2.2.2.2.2.2.2.kept (o _ (by omega))⟩⟩) ?_
  refine x_weak (P' := fun H => H.size = b + 7 ∧ PM G b z0 (fun _ => z0) H) (fun H h => ⟨h.1, h.2.1, h.2.2.1, h.2.2.2.1, h.2.2.2.2.1, h.2.2.2.2.2.1, h.2.2.2.2.2.2.1, h.2.2.2.2.2.2.2, fun k => by unfold z0; omega, fun i k => by show -2147483648 ≤ (0 : Int) ∧ (0 : Int) < 2147483648; omega⟩) ?_
  have loop : ∀ (f k : Nat) (L : List (Nat × Value)), k + f = 3 → (∀ p2 ∈ [(0, Value.ref b), (1, vi (k : Int))], lget L p2.1 = some p2.2) → XJ Γ 6 4848 (fun H => H.size = b + 7 ∧ PM G b (n0 k) (fun _ => z0) H) 64 L [] := by
    intro f
    induction f with
    | zero =>
      intro k L hk hL
      refine x_locs hL ?_
      have hk3 : k = 3 := by omega
      subst hk3
      refine x_iload_n B dX7_init_64 rfl ?_
      refine x_iconst B dX7_init_65 ?_
      refine x_icmp_ge (tgt := 85) B dX7_init_66 (by decide) (by omega) (by omega) (fun c66 => ?_) (fun c66 => ?_)
      · exact x_retV B R dX7_init_85 (fun H h => by exact h)
      · omega
    | succ f ih =>
      intro k L hk hL
      refine x_locs hL ?_
      have es : up (n0 k) (53 + (k : Int)) (-1) = n0 ((k + 1 : Nat) : Int) := by
        funext j
        unfold up n0
        by_cases c : j = 53 + (k : Int)
        · rw [if_pos c, if_neg (by omega), if_pos (by omega)]
        · rw [if_neg c]
          by_cases d : j = 0
          · rw [if_pos d, if_pos d]
          · rw [if_neg d, if_neg d]
            by_cases g : 53 ≤ j ∧ j < 53 + (k : Int)
            · rw [if_pos g, if_pos (by omega)]
            · rw [if_neg g, if_neg (by omega)]
      refine x_iload_n B dX7_init_64 rfl ?_
      refine x_iconst B dX7_init_65 ?_
      refine x_icmp_ge (tgt := 85) B dX7_init_66 (by decide) (by omega) (by omega) (fun c66 => ?_) (fun c66 => ?_)
      · omega
      · refine x_aload_n B dX7_init_69 rfl ?_
        refine x_get B fgX7_7 dX7_init_70 (fun H h => ⟨_, h.2.1, rfl⟩) ?_
        refine x_bipush B dX7_init_73 (by decide) ?_
        refine x_iload_n B dX7_init_75 rfl ?_
        refine x_iadd B dX7_init_76 ?_
        refine x_iconst B dX7_init_77 ?_
        refine x_iast (P' := fun H => H.size = b + 7 ∧ PM G b (n0 ((k + 1 : Nat) : Int)) (fun _ => z0) H) B dX7_init_78 (by omega) (by decide) (by show b ≤ _; omega) (fun H h => ⟨h.2.2.1, fun H1 e1 z1 o => ⟨z1.trans h.1, by rw [← es]; exact (PM.sm (by omega) H h.2).2 H1 e1 z1 o⟩⟩) ?_
        refine x_iinc B dX7_init_79 rfl (by decide) ?_
        refine x_goto (tgt := 64) B dX7_init_82 (by decide) ?_
        exact ih (k + 1) _ (by omega) (xl_cons rfl (xl_cons rfl xl_nil))
  have e0 : up z0 0 2 = n0 ((0 : Nat) : Int) := by
    funext j
    unfold up z0 n0
    by_cases c : j = 0
    · rw [if_pos c, if_pos c]
    · rw [if_neg c, if_neg c, if_neg (by omega)]
  refine x_aload_n B dX7_init_55 rfl ?_
  refine x_get B fgX7_7 dX7_init_56 (fun H h => ⟨_, h.2.1, rfl⟩) ?_
  refine x_iconst B dX7_init_59 ?_
  refine x_iconst B dX7_init_60 ?_
  refine x_iast (P' := fun H => H.size = b + 7 ∧ PM G b (n0 ((0 : Nat) : Int)) (fun _ => z0) H) B dX7_init_61 (by omega) (by decide) (by show b ≤ _; omega) (fun H h => ⟨h.2.2.1, fun H1 e1 z1 o => ⟨z1.trans h.1, by rw [← e0]; exact (PM.sm (by omega) H h.2).2 H1 e1 z1 o⟩⟩) ?_
  refine x_iconst B dX7_init_62 ?_
  refine x_istore_n B dX7_init_63 (by decide) ?_
  exact loop 3 0 _ (by omega) (xl_cons rfl (xl_cons rfl xl_nil))

/-! ===== constructors: Journal, the reference ===== -/
def z0 : Int → Int := fun _ => 0
theorem df_2 : ∀ (C : String) (T : u_T) (N' : Nat) (tys : Nat → FieldType), vwCl[2]? = some (C, T, N') → (∀ k, k < N' → parseFieldDescriptor (T k).2.2.1 = some (tys k)) → N' = 5 ∧ ∀ j, j < N' → defaultValue (tys j) = vp_V [.null, .null, .null, vi 0, vi 0] j := fun C T N' tys h hty => by
  have e := Option.some.inj h
  have eT : TX2 = T := congrArg (fun q => q.2.1) e
  have eN : 5 = N' := congrArg (fun q => q.2.2) e
  subst eT
  subst eN
  refine ⟨rfl, fun j hj => ?_⟩
  have e := (tyX2_ok j hj).symm.trans (hty j hj)
  rw [← Option.some.inj e]
  have hj5 : j = 0 ∨ j = 1 ∨ j = 2 ∨ j = 3 ∨ j = 4 := by omega
  rcases hj5 with q | q | q | q | q <;> subst q <;> rfl

/-! ===== the reference reads its text ===== -/
theorem bz_cg {c c' : Prop} [Decidable c] [Decidable c'] (h : c ↔ c') : bz c = bz c' := by
  by_cases q : c
  · rw [bz_t q, bz_t (h.mp q)]
  · rw [bz_f q, bz_f (fun z => q (h.mpr z))]
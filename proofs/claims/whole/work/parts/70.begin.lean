/-! ===== the value that both objects begin with keeps the invariant; the world at the law's entry ===== -/
theorem n0_0 {j : Int} (h0 : j ≠ 0) (h1 : ¬ (53 ≤ j ∧ j < 56)) : n0 3 j = 0 := by
  unfold n0
  rw [if_neg h0, if_neg (by omega)]
theorem IL0 : IL (n0 3) (fun _ => z0) := by
  have e0 : n0 3 0 = 2 := rfl
  have e1 : n0 3 1 = 0 := rfl
  have e2 : n0 3 2 = 0 := rfl
  have e3 : n0 3 3 = 0 := rfl
  have e4 : n0 3 4 = 0 := rfl
  have ev : ∀ r, 0 ≤ r → r < 6 → n0 3 (56 + r) = 0 := fun r a b => n0_0 (by omega) (by omega)
  have z : ∀ j : Int, z0 j = 0 := fun _ => rfl
  refine ⟨Iv_iff.mpr ⟨⟨by omega, by omega, by omega, by omega, by omega, fun u a b => by omega, fun k a b => ?_, fun r a b => by rw [ev r a b]; omega, fun r v a b c d => by rw [ev r a b] at d; omega, fun b a c => by omega⟩, fun b a c => by omega, fun b a c => by omega⟩, by omega, ?_, ?_, fun i a b => ?_, fun i j r a b c => ?_⟩
  · have h : n0 3 (53 + k) = -1 := by
      unfold n0
      rw [if_neg (by omega), if_pos (by omega)]
    rw [h, e3]
    omega
  · unfold Ir
    dsimp only
    rw [z, z]
    omega
  · unfold okT
    dsimp only
    rw [z]
    exact ⟨by omega, fun k a b => by omega⟩
  · dsimp only at b
    rw [z] at b
    omega
  · dsimp only at c
    rw [z] at c
    omega
section LWORLD
variable {s : State} {args : Array Value}
theorem lk_kn (hts : ∀ w ∈ lw_tbl, w.before args s = true) {own : String} {idx ci : Nat} (lk : LkN own idx ci) : ∃ p : ClassId × (Nat → Nat), ∀ q : vw_C, vwCl[ci]? = some q → u_Kn s q.1 q.2.1 q.2.2 p.1 p.2 := by
  obtain ⟨C, T, N, tys, hc, hin, -, -, hi, -⟩ := lk
  have hx : ∀ w ∈ xw, w.before args s = true := fun w h => hts w (List.mem_filter.mp h).1
  obtain ⟨cC, iS, h⟩ := u_known (C := C) (T := T) (N := N) (n := N) hx hin (hx _ hi)
  refine ⟨(cC, iS), fun q hq => ?_⟩
  rw [hc] at hq
  cases hq
  exact h
theorem kn_all (hts : ∀ w ∈ lw_tbl, w.before args s = true) : ∀ ci : Nat, ∃ p : ClassId × (Nat → Nat), ∀ q : vw_C, vwCl[ci]? = some q → u_Kn s q.1 q.2.1 q.2.2 p.1 p.2
  | 0 => lk_kn hts cnX3_17
  | 1 => lk_kn hts cnX6_7
  | 2 => lk_kn hts cnX3_30
  | 3 => lk_kn hts cnX6_23
  | 4 => lk_kn hts cnX6_16
  | 5 => lk_kn hts cnX3_9
  | 6 => lk_kn hts cnL_7
  | 7 => lk_kn hts cnL_10
  | _ + 8 => ⟨(0, fun _ => 0), fun q hq => by simp [vwCl] at hq⟩
theorem ar_prim {t : FieldType} (ht : ∀ C, t ≠ .object C) (h : (Cond.arrayClass t).before args s = true) : ∃ cA : ClassId, ArrOfT s cA t ∧ va_RA s cA t := by
  obtain ⟨c, k, comp, h1, h2, h3⟩ := Cond.arrayClass_spec h
  refine ⟨c, fun n z => ⟨(fun k h => by cases h), k, h2, comp, h3⟩, ?_⟩
  cases t with
  | object C => exact absurd rfl (ht C)
  | _ => exact h1
theorem ar_arr {t : FieldType} (h : (Cond.arrayOver (.array t)).before args s = true) : ∃ cA : ClassId, ArrOfT s cA (.array t) ∧ va_RA s cA (.array t) := by
  obtain ⟨comp, c, k, h1, h2, h3, h4, h5⟩ := arrayOverA_spec h
  exact ⟨c, fun n z => ⟨(fun k h => by cases h), k, h3, comp, h4⟩, h5⟩
theorem ar_obj {C : String} (h : (Cond.arrayOver (.object C)).before args s = true) : ∃ cA : ClassId, ArrOfT s cA (.object C) ∧ va_RA s cA (.object C) := by
  obtain ⟨comp, c, k, h1, h2, h3, h4, h5⟩ := Cond.arrayOver_spec h
  exact ⟨c, fun n z => ⟨(fun k h => by cases h), k, h3, comp, h4⟩, k, comp, h3, h4, h1, h5⟩
def tyL : List FieldType := [.int, .char, .array .int, .object "BatchExecutive$Unit", .object "BatchExecutive$Batch", .object "BatchExecutive$State"]
theorem ow_0 : Cond.arrayOver (.array .int) ∈ lw_tbl := List.mem_of_getElem? (i := 88) (by decide +kernel)
theorem ow_1 : Cond.arrayOver (.object "BatchExecutive$Unit") ∈ lw_tbl := List.mem_of_getElem? (i := 139) (by decide +kernel)
theorem ow_2 : Cond.arrayOver (.object "BatchExecutive$Batch") ∈ lw_tbl := List.mem_of_getElem? (i := 141) (by decide +kernel)
theorem ow_3 : Cond.arrayOver (.object "BatchExecutive$State") ∈ lw_tbl := List.mem_of_getElem? (i := 304) (by decide +kernel)
theorem ow_4 : Cond.arrayClass .int ∈ lw_tbl := List.mem_of_getElem? (i := 96) (by decide +kernel)
theorem ow_5 : Cond.arrayClass .char ∈ lw_tbl := List.mem_of_getElem? (i := 131) (by decide +kernel)
theorem on_0 : Cond.methodLinkNest RX6 9 yX1_init RX6 ∈ lw_tbl := List.mem_of_getElem? (i := 83) (by decide +kernel)
theorem on_1 : Cond.methodLinkNest RX6 18 yX4_init RX6 ∈ lw_tbl := List.mem_of_getElem? (i := 99) (by decide +kernel)
theorem on_2 : Cond.methodLinkNest RX3 32 yX2_init RX6 ∈ lw_tbl := List.mem_of_getElem? (i := 144) (by decide +kernel)
theorem on_3 : Cond.methodLinkNest RX3 48 yX5_init RX6 ∈ lw_tbl := List.mem_of_getElem? (i := 166) (by decide +kernel)
theorem on_4 : Cond.methodLinkNest RX3 49 yX0_init RX6 ∈ lw_tbl := List.mem_of_getElem? (i := 202) (by decide +kernel)
theorem on_5 : Cond.methodLinkNest RX4 69 yX6_oneIf RX6 ∈ lw_tbl := List.mem_of_getElem? (i := 481) (by decide +kernel)
theorem on_6 : Cond.methodLinkNest RX3 195 yX6_isPiece RX6 ∈ lw_tbl := List.mem_of_getElem? (i := 626) (by decide +kernel)
theorem ty_all (hts : ∀ w ∈ lw_tbl, w.before args s = true) : ∀ k : Nat, ∃ cA : ClassId, ∀ t : FieldType, tyL[k]? = some t → ArrOfT s cA t ∧ va_RA s cA t := by
  have w : ∀ {t : FieldType}, (∃ cA : ClassId, ArrOfT s cA t ∧ va_RA s cA t) → ∃ cA : ClassId, ∀ t' : FieldType, some t = some t' → ArrOfT s cA t' ∧ va_RA s cA t' := fun {t} h => by
    obtain ⟨cA, h⟩ := h
    exact ⟨cA, fun t' e => by cases e; exact h⟩
  intro k
  match k with
  | 0 => exact w (ar_prim (fun C h => by cases h) (hts _ ow_4))
  | 1 => exact w (ar_prim (fun C h => by cases h) (hts _ ow_5))
  | 2 => exact w (ar_arr (hts _ ow_0))
  | 3 => exact w (ar_obj (hts _ ow_1))
  | 4 => exact w (ar_obj (hts _ ow_2))
  | 5 => exact w (ar_obj (hts _ ow_3))
  | k + 6 => exact ⟨0, fun t h => by simp [tyL] at h⟩
theorem xN_of (hts : ∀ w ∈ lw_tbl, w.before args s = true) : xN s :=
  ⟨⟨va_Nw.of rfl (hts _ on_0), va_Nw.of rfl (hts _ on_1), va_Nw.of rfl (hts _ on_2), va_Nw.of rfl (hts _ on_3), va_Nw.of rfl (hts _ on_4), va_Nw.of rfl (hts _ on_5), va_Nw.of rfl (hts _ on_6)⟩, va_AO.of (hts _ ow_1), va_AO.of (hts _ ow_2), va_AO.of (hts _ ow_3), hts _ ow_0⟩
theorem xTys_k {G : xG} (k : Nat) (q : ClassId × FieldType) (h : (xTys G)[k]? = some q) : ∃ t, tyL[k]? = some t ∧ q = (G.2 k, t) := by
  match k, h with
  | 0, h => cases h; exact ⟨_, rfl, rfl⟩
  | 1, h => cases h; exact ⟨_, rfl, rfl⟩
  | 2, h => cases h; exact ⟨_, rfl, rfl⟩
  | 3, h => cases h; exact ⟨_, rfl, rfl⟩
  | 4, h => cases h; exact ⟨_, rfl, rfl⟩
  | 5, h => cases h; exact ⟨_, rfl, rfl⟩
  | k + 6, h => simp [xTys] at h
theorem xK_of (hts : ∀ w ∈ lw_tbl, w.before args s = true) : ∃ G : xG, xK G s := by
  obtain ⟨f, hf⟩ := Classical.axiomOfChoice (kn_all hts)
  obtain ⟨g, hg⟩ := Classical.axiomOfChoice (ty_all hts)
  refine ⟨((fun k => (f k).1, fun k => (f k).2), g), ⟨fun c q hq => hf c q hq, fun k q hq => ?_⟩, xN_of hts⟩
  obtain ⟨t, h1, h2⟩ := xTys_k k q hq
  rw [h2]
  exact hg k t h1
end LWORLD

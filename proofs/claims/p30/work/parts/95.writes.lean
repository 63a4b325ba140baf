/-! ===== the law writes a text and makes a recipe of it ===== -/
theorem lg_eq {L : List (Nat × Value)} {i : Nat} {z z' : Int} (h : lget L i = some (vi z)) (e : z = z') : lget L i = some (vi z') := by rw [← e]; exact h
section SGS
variable {T0 : Int → Int} {n0 : Int} {ρ : Nat → Int → Int} {a b c d f : Int}
/-- the beginning of a phase, to n: its letter and duration; its piece; its yield -/
def pg1 (T : Int → Int) (a n : Int) : Prop := (T a = 109 ∨ T a = 114 ∨ T a = 102) ∧ (49 ≤ T (a + 1) ∧ T (a + 1) ≤ 57) ∧ n = a + 2
def pg2 (T : Int → Int) (a n : Int) : Prop := ∃ s : Int, (T a = 109 ∨ T a = 114 ∨ T a = 102) ∧ (49 ≤ T (a + 1) ∧ T (a + 1) ≤ 57) ∧ ((s = 0) ∨ (s = 1 ∧ T (a + 2) = 115 ∧ 48 ≤ T (a + 3) ∧ T (a + 3) ≤ 50)) ∧ n = a + 2 + 2 * s
def pg3 (T : Int → Int) (a n : Int) : Prop := ∃ s y : Int, (T a = 109 ∨ T a = 114 ∨ T a = 102) ∧ (49 ≤ T (a + 1) ∧ T (a + 1) ≤ 57) ∧ ((s = 0) ∨ (s = 1 ∧ T (a + 2) = 115 ∧ 48 ≤ T (a + 3) ∧ T (a + 3) ≤ 50)) ∧ ((y = 0) ∨ (y = 1 ∧ T (a + 2 + 2 * s) = 121 ∧ (49 ≤ T (a + 3 + 2 * s) ∧ T (a + 3 + 2 * s) ≤ 57) ∧ dgt (T (a + 4 + 2 * s)))) ∧ n = a + 2 + 2 * s + 3 * y
variable {T : Int → Int} {n : Int}
theorem pg1_of (h : Ap T a ([] ++ [b] ++ [c]) ρ) (hb : b = 109 ∨ b = 114 ∨ b = 102) (hc : 49 ≤ c ∧ c ≤ 57) : pg1 (ρ 2) a (ρ 5 1) := by
  have t0 : ρ 2 (a + 0) = b := h.at (i := 0) rfl
  have t1 : ρ 2 (a + 1) = c := h.at (i := 1) rfl
  have hl : ρ 5 1 = a + 2 := h.1
  rw [show a + 0 = a by omega] at t0
  exact ⟨by rw [t0]; exact hb, by rw [t1]; exact hc, hl⟩
theorem pg2_0 (h : pg1 T a n) : pg2 T a n := ⟨0, h.1, h.2.1, Or.inl rfl, by have := h.2.2; omega⟩
theorem pg2_1 (h : pg1 T a n) (a0 : 0 ≤ a) (hA : Ap T n ([] ++ [115] ++ [c]) ρ) (hc : 48 ≤ c ∧ c ≤ 50) : pg2 (ρ 2) a (ρ 5 1) := by
  have t0 : ρ 2 (n + 0) = 115 := hA.at (i := 0) rfl
  have t1 : ρ 2 (n + 1) = c := hA.at (i := 1) rfl
  have hl : ρ 5 1 = n + 2 := hA.1
  obtain ⟨h1, h2, h3⟩ := h
  have e : ∀ j, a ≤ j → j < n → ρ 2 j = T j := fun j j0 j1 => hA.2.1 j (by omega) j1
  refine ⟨1, by rw [e a (by omega) (by omega)]; exact h1, by rw [e (a + 1) (by omega) (by omega)]; exact h2, Or.inr ⟨rfl, ?_, ?_⟩, by omega⟩
  · rw [show a + 2 = n + 0 by omega]; exact t0
  · rw [show a + 3 = n + 1 by omega, t1]; exact hc
theorem pg3_0 (h : pg2 T a n) : pg3 T a n := by
  obtain ⟨s, h1, h2, h3, h4⟩ := h
  exact ⟨s, 0, h1, h2, h3, Or.inl rfl, by omega⟩
theorem pg3_1 (h : pg2 T a n) (a0 : 0 ≤ a) (hA : Ap T n ([] ++ [121] ++ [c] ++ [d]) ρ) (hc : 49 ≤ c ∧ c ≤ 57) (hd : 48 ≤ d ∧ d ≤ 57) : pg3 (ρ 2) a (ρ 5 1) := by
  have t0 : ρ 2 (n + 0) = 121 := hA.at (i := 0) rfl
  have t1 : ρ 2 (n + 1) = c := hA.at (i := 1) rfl
  have t2 : ρ 2 (n + 2) = d := hA.at (i := 2) rfl
  have hl : ρ 5 1 = n + 3 := hA.1
  obtain ⟨s, h1, h2, h3, h4⟩ := h
  have e : ∀ j, a ≤ j → j < n → ρ 2 j = T j := fun j j0 j1 => hA.2.1 j (by omega) j1
  refine ⟨s, 1, by rw [e a (by omega) (by omega)]; exact h1, by rw [e (a + 1) (by omega) (by omega)]; exact h2, ?_, Or.inr ⟨rfl, ?_, ?_, ?_⟩, by omega⟩
  · rcases h3 with h3 | h3
    · exact Or.inl h3
    · right; rw [e (a + 2) (by omega) (by omega), e (a + 3) (by omega) (by omega)]; exact h3
  · rw [show a + 2 + 2 * s = n + 0 by omega]; exact t0
  · rw [show a + 3 + 2 * s = n + 1 by omega, t1]; exact hc
  · rw [show a + 4 + 2 * s = n + 2 by omega, t2]; exact hd
theorem seg_0 (h : pg3 T a n) (a0 : 0 ≤ a) (hA : Ap T n ([] ++ [59]) ρ) : seg (ρ 2) a (ρ 5 1) := by
  have t0 : ρ 2 (n + 0) = 59 := hA.at (i := 0) rfl
  have hl : ρ 5 1 = n + 1 := hA.1
  obtain ⟨s, y, h1, h2, h3, h4, h5⟩ := h
  have e : ∀ j, a ≤ j → j < n → ρ 2 j = T j := fun j j0 j1 => hA.2.1 j (by omega) j1
  refine ⟨s, y, 0, by rw [e a (by omega) (by omega)]; exact h1, by rw [e (a + 1) (by omega) (by omega)]; exact h2, ?_, ?_, Or.inl rfl, ?_, by omega⟩
  · rcases h3 with h3 | h3
    · exact Or.inl h3
    · right; rw [e (a + 2) (by omega) (by omega), e (a + 3) (by omega) (by omega)]; exact h3
  · rcases h4 with h4 | h4
    · exact Or.inl h4
    · right; rw [e (a + 2 + 2 * s) (by omega) (by omega), e (a + 3 + 2 * s) (by omega) (by omega), e (a + 4 + 2 * s) (by omega) (by omega)]; exact h4
  · rw [show a + 2 + 2 * s + 3 * y + 0 = n + 0 by omega]; exact t0
theorem seg_1 (h : pg3 T a n) (a0 : 0 ≤ a) (hA : Ap T n ([] ++ [97] ++ [59]) ρ) : seg (ρ 2) a (ρ 5 1) := by
  have t0 : ρ 2 (n + 0) = 97 := hA.at (i := 0) rfl
  have t1 : ρ 2 (n + 1) = 59 := hA.at (i := 1) rfl
  have hl : ρ 5 1 = n + 2 := hA.1
  obtain ⟨s, y, h1, h2, h3, h4, h5⟩ := h
  have e : ∀ j, a ≤ j → j < n → ρ 2 j = T j := fun j j0 j1 => hA.2.1 j (by omega) j1
  refine ⟨s, y, 1, by rw [e a (by omega) (by omega)]; exact h1, by rw [e (a + 1) (by omega) (by omega)]; exact h2, ?_, ?_, Or.inr ⟨rfl, ?_⟩, ?_, by omega⟩
  · rcases h3 with h3 | h3
    · exact Or.inl h3
    · right; rw [e (a + 2) (by omega) (by omega), e (a + 3) (by omega) (by omega)]; exact h3
  · rcases h4 with h4 | h4
    · exact Or.inl h4
    · right; rw [e (a + 2 + 2 * s) (by omega) (by omega), e (a + 3 + 2 * s) (by omega) (by omega), e (a + 4 + 2 * s) (by omega) (by omega)]; exact h4
  · rw [show a + 2 + 2 * s + 3 * y = n + 0 by omega]; exact t0
  · rw [show a + 2 + 2 * s + 3 * y + 1 = n + 1 by omega]; exact t1

end SGS
section WRT
variable {Γ : xE} {G : xG} {e : Nat} {m : Int → Int} {ρ : Nat → Int → Int} {r x nn : Int}
theorem wrt_F (B : XB Γ G cL_writes RL 8 ({ frames := 7, cells := 0, slots := 0, locals := 152 } : Room) (AE e)) (R : XR Γ "writes" (some .boolean) 0 0 (xQ (pZ True (PX G e m)) (AE e))) (ho : OK m ρ) (hm : ∀ k, -2147483648 ≤ m k ∧ m k < 2147483648) (hr : 0 ≤ r ∧ r ≤ 1) (hn : 1 ≤ nn ∧ nn ≤ 4) (hs : segs (ρ 2) nn.toNat (ρ 5 1)) (h9 : vr m r = 9) : XJ Γ 0 0 (PE G e m ρ) 238 [(0, .ref e), (1, vi r), (3, vi (vr m r)), (4, vi (ρ 5 1)), (5, vi nn)] [] := by
  have hI := ho.I
  have hb := hI.b
  obtain ⟨a1, a2⟩ := segs_go hs (by omega)
  have hv : 0 ≤ vr m r ∧ vr m r ≤ 9 := (Iv_iff.mp hI.1).1.vs (r := r) (by omega) (by omega)
  have h51 := hI.2.2.1.2
  refine x_aload_n B dL_writes_238 rfl ?_
  refine x_iload_n B dL_writes_239 rfl ?_
  refine x_qd B mvL_57 (q_recipeF hI (by omega) a1 h9) dL_writes_240 rfl rfl (by decide) (by decide) (Nat.le_of_ble_eq_true rfl) (fun _ h => h) (fun r240 => ?_)
  refine x_istore B dL_writes_243 (by decide) ?_
  refine x_aload_n B dL_writes_245 rfl ?_
  refine x_iconst B dL_writes_246 ?_
  refine x_qd B mvL_60 (q_faultN hI (by omega) a1) dL_writes_247 rfl rfl (by decide) (by decide) (Nat.le_of_ble_eq_true rfl) (fun _ h => h) (fun r247 => ?_)
  refine x_bipush B dL_writes_250 (by decide) ?_
  refine x_icmp_ne (tgt := 347) B dL_writes_252 (by decide) (by first | assumption | omega) (by first | assumption | omega) (fun c252 => ?_) (fun c252 => ?_)
  · exfalso; omega
  · refine x_aload_n B dL_writes_255 rfl ?_
    refine x_bipush B dL_writes_256 (by decide) ?_
    refine x_qd B mvL_9 (q_count15 hI) dL_writes_258 rfl rfl (by decide) (by decide) (Nat.le_of_ble_eq_true rfl) (fun _ h => h) (fun r258 => ?_)
    refine x_iload B dL_writes_261 rfl ?_
    refine x_icmp_ne (tgt := 347) B dL_writes_263 (by decide) (by first | assumption | omega) (by first | assumption | omega) (fun c263 => ?_) (fun c263 => ?_)
    · exfalso; omega
    · refine x_iload B dL_writes_266 rfl ?_
      refine x_cutI 282 (fun zz => zz = -3) (fun K282 => ?_) (fun z282 h282 => ?_)
      · refine x_iload_n B dL_writes_268 rfl ?_
        refine x_bipush B dL_writes_269 (by decide) ?_
        refine x_icmp_ne (tgt := 279) B dL_writes_271 (by decide) (by first | assumption | omega) (by first | assumption | omega) (fun c271 => ?_) (fun c271 => ?_)
        · exfalso; omega
        · refine x_bipush B dL_writes_274 (by decide) ?_
          refine x_goto (tgt := 282) B dL_writes_276 (by decide) ?_
          exact K282 _ (by omega)
      · refine x_icmp_ne (tgt := 347) B dL_writes_282 (by decide) (by first | assumption | omega) (by first | assumption | omega) (fun c282 => ?_) (fun c282 => ?_)
        · exfalso; omega
        · refine x_aload_n B dL_writes_285 rfl ?_
          refine x_iload_n B dL_writes_286 rfl ?_
          refine x_qd B mvL_24 (q_versions (by first | assumption | omega) (by first | assumption | omega)) dL_writes_287 rfl rfl (by decide) (by decide) (Nat.le_of_ble_eq_true rfl) (fun _ h => h) (fun r287 => ?_)
          refine x_cutI 304 (fun zz => zz = 9) (fun K304 => ?_) (fun z304 h304 => ?_)
          · refine x_iload_n B dL_writes_290 rfl ?_
            refine x_bipush B dL_writes_291 (by decide) ?_
            refine x_icmp_ne (tgt := 301) B dL_writes_293 (by decide) (by first | assumption | omega) (by first | assumption | omega) (fun c293 => ?_) (fun c293 => ?_)
            · exfalso; omega
            · refine x_bipush B dL_writes_296 (by decide) ?_
              refine x_goto (tgt := 304) B dL_writes_298 (by decide) ?_
              exact K304 _ (by omega)
          · refine x_icmp_ne (tgt := 347) B dL_writes_304 (by decide) (by first | assumption | omega) (by first | assumption | omega) (fun c304 => ?_) (fun c304 => ?_)
            · exfalso; omega
            · refine x_iload_n B dL_writes_307 rfl ?_
              refine x_bipush B dL_writes_308 (by decide) ?_
              refine x_icmp_eq (tgt := 343) B dL_writes_310 (by decide) (by first | assumption | omega) (by first | assumption | omega) (fun c310 => ?_) (fun c310 => ?_)
              · refine x_iconst B dL_writes_343 ?_
                refine x_goto (tgt := 348) B dL_writes_344 (by decide) ?_
                exact x_lret B R dL_writes_348 rfl (by assumption) (by omega)
              · exfalso; omega
theorem wrt_N (B : XB Γ G cL_writes RL 8 ({ frames := 7, cells := 0, slots := 0, locals := 152 } : Room) (AE e)) (R : XR Γ "writes" (some .boolean) 0 0 (xQ (pZ True (PX G e m)) (AE e))) (ho : OK m ρ) (hm : ∀ k, -2147483648 ≤ m k ∧ m k < 2147483648) (hr : 0 ≤ r ∧ r ≤ 1) (hn : 1 ≤ nn ∧ nn ≤ 4) (hs : segs (ρ 2) nn.toNat (ρ 5 1)) (h9 : vr m r ≠ 9) : XJ Γ 0 0 (PE G e m ρ) 238 [(0, .ref e), (1, vi r), (3, vi (vr m r)), (4, vi (ρ 5 1)), (5, vi nn)] [] := by
  have hI := ho.I
  have hb := hI.b
  obtain ⟨a1, a2⟩ := segs_go hs (by omega)
  have hv : 0 ≤ vr m r ∧ vr m r ≤ 9 := (Iv_iff.mp hI.1).1.vs (r := r) (by omega) (by omega)
  have h51 := hI.2.2.1.2
  have hq := q_recipe (G := G) (e := e) hI (by omega) a1 h9
  obtain ⟨ho', ⟨e1, e2, e3⟩, g1, g2, g3⟩ := OK_recipe ho hm (r := r) (by omega) a1 h9
  have hI' := ho'.I
  obtain ⟨k1, k2⟩ := keep_2 (m := m) (ρ := ρ)
  have a1' : (t_all (s_keep m ρ 2) (s_keep m ρ 5 1)).1 = 0 := by rw [k1, k2]; exact a1
  have el : ((t_all (ρ 2) (ρ 5 1)).2.2.length : Int) = nn := by rw [a2]; omega
  rw [el] at g2 g3
  generalize s_recipe m r (t_all (ρ 2) (ρ 5 1)).2.2 = m' at *
  generalize s_keep m ρ = ρ' at *
  refine x_aload_n B dL_writes_238 rfl ?_
  refine x_iload_n B dL_writes_239 rfl ?_
  refine x_qd B mvL_57 (id hq) dL_writes_240 rfl rfl (by decide) (by decide) (Nat.le_of_ble_eq_true rfl) (fun _ h => h) (fun r240 => ?_)
  refine x_istore B dL_writes_243 (by decide) ?_
  refine x_aload_n B dL_writes_245 rfl ?_
  refine x_iconst B dL_writes_246 ?_
  refine x_qd B mvL_60 (q_faultN hI' (by omega) a1') dL_writes_247 rfl rfl (by decide) (by decide) (Nat.le_of_ble_eq_true rfl) (fun _ h => h) (fun r247 => ?_)
  refine x_bipush B dL_writes_250 (by decide) ?_
  refine x_icmp_ne (tgt := 347) B dL_writes_252 (by decide) (by first | assumption | omega) (by first | assumption | omega) (fun c252 => ?_) (fun c252 => ?_)
  · exfalso; omega
  · refine x_aload_n B dL_writes_255 rfl ?_
    refine x_bipush B dL_writes_256 (by decide) ?_
    refine x_qd B mvL_9 (q_count15 hI') dL_writes_258 rfl rfl (by decide) (by decide) (Nat.le_of_ble_eq_true rfl) (fun _ h => h) (fun r258 => ?_)
    refine x_iload B dL_writes_261 rfl ?_
    refine x_icmp_ne (tgt := 347) B dL_writes_263 (by decide) (by first | assumption | omega) (by first | assumption | omega) (fun c263 => ?_) (fun c263 => ?_)
    · exfalso; omega
    · refine x_iload B dL_writes_266 rfl ?_
      refine x_cutI 282 (fun zz => zz = vr m r + 1) (fun K282 => ?_) (fun z282 h282 => ?_)
      · refine x_iload_n B dL_writes_268 rfl ?_
        refine x_bipush B dL_writes_269 (by decide) ?_
        refine x_icmp_ne (tgt := 279) B dL_writes_271 (by decide) (by first | assumption | omega) (by first | assumption | omega) (fun c271 => ?_) (fun c271 => ?_)
        · refine x_iload_n B dL_writes_279 rfl ?_
          refine x_iconst B dL_writes_280 ?_
          refine x_iadd B dL_writes_281 ?_
          exact K282 _ (by omega)
        · exfalso; omega
      · refine x_icmp_ne (tgt := 347) B dL_writes_282 (by decide) (by first | assumption | omega) (by first | assumption | omega) (fun c282 => ?_) (fun c282 => ?_)
        · exfalso; omega
        · refine x_aload_n B dL_writes_285 rfl ?_
          refine x_iload_n B dL_writes_286 rfl ?_
          refine x_qd B mvL_24 (q_versions (by first | assumption | omega) (by first | assumption | omega)) dL_writes_287 rfl rfl (by decide) (by decide) (Nat.le_of_ble_eq_true rfl) (fun _ h => h) (fun r287 => ?_)
          refine x_cutI 304 (fun zz => zz = vr m r + 1) (fun K304 => ?_) (fun z304 h304 => ?_)
          · refine x_iload_n B dL_writes_290 rfl ?_
            refine x_bipush B dL_writes_291 (by decide) ?_
            refine x_icmp_ne (tgt := 301) B dL_writes_293 (by decide) (by first | assumption | omega) (by first | assumption | omega) (fun c293 => ?_) (fun c293 => ?_)
            · refine x_iload_n B dL_writes_301 rfl ?_
              refine x_iconst B dL_writes_302 ?_
              refine x_iadd B dL_writes_303 ?_
              exact K304 _ (by omega)
            · exfalso; omega
          · refine x_icmp_ne (tgt := 347) B dL_writes_304 (by decide) (by first | assumption | omega) (by first | assumption | omega) (fun c304 => ?_) (fun c304 => ?_)
            · exfalso; omega
            · refine x_iload_n B dL_writes_307 rfl ?_
              refine x_bipush B dL_writes_308 (by decide) ?_
              refine x_icmp_eq (tgt := 343) B dL_writes_310 (by decide) (by first | assumption | omega) (by first | assumption | omega) (fun c310 => ?_) (fun c310 => ?_)
              · refine x_iconst B dL_writes_343 ?_
                refine x_goto (tgt := 348) B dL_writes_344 (by decide) ?_
                exact x_lret B R dL_writes_348 rfl (by assumption) (by omega)
              · refine x_aload_n B dL_writes_313 rfl ?_
                refine x_iload_n B dL_writes_314 rfl ?_
                refine x_iload B dL_writes_315 rfl ?_
                refine x_iload B dL_writes_317 rfl ?_
                refine x_iconst B dL_writes_319 ?_
                refine x_isub B dL_writes_320 ?_
                refine x_iconst B dL_writes_321 ?_
                refine x_qd B mvL_30 (q_phase (by first | assumption | omega) (by first | assumption | omega) (by first | assumption | omega) (by first | assumption | omega) (by first | assumption | omega)) dL_writes_322 rfl rfl (by decide) (by decide) (Nat.le_of_ble_eq_true rfl) (fun _ h => h) (fun r322 => ?_)
                refine x_if_le (tgt := 347) B dL_writes_325 (by decide) (by first | assumption | omega) (fun c325 => ?_) (fun c325 => ?_)
                · exfalso; omega
                · refine x_aload_n B dL_writes_328 rfl ?_
                  refine x_iload_n B dL_writes_329 rfl ?_
                  refine x_iload B dL_writes_330 rfl ?_
                  refine x_iload B dL_writes_332 rfl ?_
                  refine x_iconst B dL_writes_334 ?_
                  refine x_qd B mvL_30 (q_phase (by first | assumption | omega) (by first | assumption | omega) (by first | assumption | omega) (by first | assumption | omega) (by first | assumption | omega)) dL_writes_335 rfl rfl (by decide) (by decide) (Nat.le_of_ble_eq_true rfl) (fun _ h => h) (fun r335 => ?_)
                  refine x_bipush B dL_writes_338 (by decide) ?_
                  refine x_icmp_ne (tgt := 347) B dL_writes_340 (by decide) (by first | assumption | omega) (by first | assumption | omega) (fun c340 => ?_) (fun c340 => ?_)
                  · exfalso; omega
                  · refine x_iconst B dL_writes_343 ?_
                    refine x_goto (tgt := 348) B dL_writes_344 (by decide) ?_
                    exact x_lret B R dL_writes_348 rfl (by assumption) (by omega)
theorem wrt_p2 (B : XB Γ G cL_writes RL 8 ({ frames := 7, cells := 0, slots := 0, locals := 152 } : Room) (AE e)) {k y n0 : Int} {T0 : Int → Int} (n00 : 0 ≤ n0) (hn0 : n0 ≤ 36) (K : ∀ ρ', OK m ρ' → (∀ j, 0 ≤ j → j < n0 → ρ' 2 j = T0 j) → pg2 (ρ' 2) n0 (ρ' 5 1) → XJ Γ 0 0 (PE G e m ρ') 141 [(0, .ref e), (1, vi r), (2, vi x), (3, vi (vr m r)), (4, vi (ρ' 5 1)), (5, vi nn), (6, vi k), (7, vi y)] []) (ρ : Nat → Int → Int) (ho : OK m ρ) (hT : ∀ j, 0 ≤ j → j < n0 → ρ 2 j = T0 j) (hp : pg1 (ρ 2) n0 (ρ 5 1)) : XJ Γ 0 0 (PE G e m ρ) 99 [(0, .ref e), (1, vi r), (2, vi x), (3, vi (vr m r)), (4, vi (ρ 5 1)), (5, vi nn), (6, vi k), (7, vi y)] [] := by
  have hnb : n0 + 2 ≤ ρ 5 1 ∧ ρ 5 1 ≤ n0 + 7 := by
    unfold pg1 at hp
    obtain ⟨-, -, h⟩ := hp
    omega
  obtain ⟨n1, hn1⟩ : ∃ n, n = ρ 5 1 := ⟨_, rfl⟩
  obtain ⟨T1, hT1⟩ : ∃ T, T = ρ 2 := ⟨_, rfl⟩
  have ha : Ap T1 n1 [] ρ := Ap.nil hn1.symm hT1.symm
  rw [← hT1, ← hn1] at hp
  rw [← hT1] at hT
  rw [← hn1] at hnb
  refine x_iload B dL_writes_99 rfl ?_
  refine x_iload B dL_writes_101 rfl ?_
  refine x_iconst B dL_writes_103 ?_
  refine x_shrA B dL_writes_104 (fun v104 q104 => ?_)
  refine x_iconst B dL_writes_105 ?_
  refine x_low B msL_50 dL_writes_106 (by first | assumption | omega) (by decide) (by decide) (Nat.le_of_ble_eq_true rfl) (fun w106 => ?_)
  refine x_if_ne (tgt := 137) B dL_writes_109 (by decide) (by first | assumption | omega) (fun c109 => ?_) (fun c109 => ?_)
  · refine x_iconst B dL_writes_137 ?_
    refine x_iadd B dL_writes_138 ?_
    refine x_istore B dL_writes_139 (by decide) ?_
    have hlen := ha.1
    simp only [List.length_append, List.length_cons, List.length_nil] at hlen
    refine x_locs (L' := [(0, .ref e), (1, vi r), (2, vi x), (3, vi (vr m r)), (4, vi (ρ 5 1)), (5, vi nn), (6, vi k), (7, vi y)]) (xl_cons (rfl) (xl_cons (rfl) (xl_cons (rfl) (xl_cons (rfl) (xl_cons (lg_eq rfl (by omega)) (xl_cons (rfl) (xl_cons (rfl) (xl_cons (rfl) xl_nil)))))))) ?_
    exact K ρ ho (fun j j0 j1 => (ha.2.1 j j0 (by omega)).trans (hT j j0 j1)) (by first | exact pg2_1 hp n00 ha (by omega) | exact (by have e2 : ρ 2 = T1 := hT1.symm; rw [e2, ← hn1]; exact pg2_0 hp))
  · refine x_aload_n B dL_writes_112 rfl ?_
    refine x_bipush B dL_writes_113 (by decide) ?_
    refine x_lput B msL_53 dL_writes_115 ho ha (by omega) (by simp only [List.length_append, List.length_cons, List.length_nil]; omega) (by decide) (by decide) (Nat.le_of_ble_eq_true rfl) (fun _ h => h) (fun ρ ho ha => ?_)
    refine x_aload_n B dL_writes_118 rfl ?_
    refine x_bipush B dL_writes_119 (by decide) ?_
    refine x_iload B dL_writes_121 rfl ?_
    refine x_iconst B dL_writes_123 ?_
    refine x_shrA B dL_writes_124 (fun v124 q124 => ?_)
    refine x_iconst B dL_writes_125 ?_
    refine x_low B msL_50 dL_writes_126 (by first | assumption | omega) (by decide) (by decide) (Nat.le_of_ble_eq_true rfl) (fun w126 => ?_)
    refine x_iadd B dL_writes_129 ?_
    refine x_lput B msL_53 dL_writes_130 ho ha (by omega) (by simp only [List.length_append, List.length_cons, List.length_nil]; omega) (by decide) (by decide) (Nat.le_of_ble_eq_true rfl) (fun _ h => h) (fun ρ ho ha => ?_)
    refine x_iadd B dL_writes_133 ?_
    refine x_goto (tgt := 138) B dL_writes_134 (by decide) ?_
    refine x_iadd B dL_writes_138 ?_
    refine x_istore B dL_writes_139 (by decide) ?_
    have hlen := ha.1
    simp only [List.length_append, List.length_cons, List.length_nil] at hlen
    refine x_locs (L' := [(0, .ref e), (1, vi r), (2, vi x), (3, vi (vr m r)), (4, vi (ρ 5 1)), (5, vi nn), (6, vi k), (7, vi y)]) (xl_cons (rfl) (xl_cons (rfl) (xl_cons (rfl) (xl_cons (rfl) (xl_cons (lg_eq rfl (by omega)) (xl_cons (rfl) (xl_cons (rfl) (xl_cons (rfl) xl_nil)))))))) ?_
    exact K ρ ho (fun j j0 j1 => (ha.2.1 j j0 (by omega)).trans (hT j j0 j1)) (by first | exact pg2_1 hp n00 ha (by omega) | exact (by have e2 : ρ 2 = T1 := hT1.symm; rw [e2, ← hn1]; exact pg2_0 hp))
theorem wrt_p3 (B : XB Γ G cL_writes RL 8 ({ frames := 7, cells := 0, slots := 0, locals := 152 } : Room) (AE e)) {k y n0 : Int} {T0 : Int → Int} (n00 : 0 ≤ n0) (hn0 : n0 ≤ 36) (K : ∀ ρ', OK m ρ' → (∀ j, 0 ≤ j → j < n0 → ρ' 2 j = T0 j) → pg3 (ρ' 2) n0 (ρ' 5 1) → XJ Γ 0 0 (PE G e m ρ') 199 [(0, .ref e), (1, vi r), (2, vi x), (3, vi (vr m r)), (4, vi (ρ' 5 1)), (5, vi nn), (6, vi k), (7, vi y)] []) (ρ : Nat → Int → Int) (ho : OK m ρ) (hT : ∀ j, 0 ≤ j → j < n0 → ρ 2 j = T0 j) (hp : pg2 (ρ 2) n0 (ρ 5 1)) : XJ Γ 0 0 (PE G e m ρ) 141 [(0, .ref e), (1, vi r), (2, vi x), (3, vi (vr m r)), (4, vi (ρ 5 1)), (5, vi nn), (6, vi k), (7, vi y)] [] := by
  have hnb : n0 + 2 ≤ ρ 5 1 ∧ ρ 5 1 ≤ n0 + 7 := by
    unfold pg2 at hp
    obtain ⟨s, -, -, h3, h⟩ := hp
    omega
  obtain ⟨n1, hn1⟩ : ∃ n, n = ρ 5 1 := ⟨_, rfl⟩
  obtain ⟨T1, hT1⟩ : ∃ T, T = ρ 2 := ⟨_, rfl⟩
  have ha : Ap T1 n1 [] ρ := Ap.nil hn1.symm hT1.symm
  rw [← hT1, ← hn1] at hp
  rw [← hT1] at hT
  rw [← hn1] at hnb
  refine x_iload B dL_writes_141 rfl ?_
  refine x_iload B dL_writes_143 rfl ?_
  refine x_iconst B dL_writes_145 ?_
  refine x_shrA B dL_writes_146 (fun v146 q146 => ?_)
  refine x_iconst B dL_writes_147 ?_
  refine x_low B msL_50 dL_writes_148 (by first | assumption | omega) (by decide) (by decide) (Nat.le_of_ble_eq_true rfl) (fun w148 => ?_)
  refine x_if_ne (tgt := 195) B dL_writes_151 (by decide) (by first | assumption | omega) (fun c151 => ?_) (fun c151 => ?_)
  · refine x_iconst B dL_writes_195 ?_
    refine x_iadd B dL_writes_196 ?_
    refine x_istore B dL_writes_197 (by decide) ?_
    have hlen := ha.1
    simp only [List.length_append, List.length_cons, List.length_nil] at hlen
    refine x_locs (L' := [(0, .ref e), (1, vi r), (2, vi x), (3, vi (vr m r)), (4, vi (ρ 5 1)), (5, vi nn), (6, vi k), (7, vi y)]) (xl_cons (rfl) (xl_cons (rfl) (xl_cons (rfl) (xl_cons (rfl) (xl_cons (lg_eq rfl (by omega)) (xl_cons (rfl) (xl_cons (rfl) (xl_cons (rfl) xl_nil)))))))) ?_
    exact K ρ ho (fun j j0 j1 => (ha.2.1 j j0 (by omega)).trans (hT j j0 j1)) (by first | exact pg3_1 hp n00 ha (by omega) (by omega) | exact (by have e2 : ρ 2 = T1 := hT1.symm; rw [e2, ← hn1]; exact pg3_0 hp))
  · refine x_aload_n B dL_writes_154 rfl ?_
    refine x_bipush B dL_writes_155 (by decide) ?_
    refine x_lput B msL_53 dL_writes_157 ho ha (by omega) (by simp only [List.length_append, List.length_cons, List.length_nil]; omega) (by decide) (by decide) (Nat.le_of_ble_eq_true rfl) (fun _ h => h) (fun ρ ho ha => ?_)
    refine x_aload_n B dL_writes_160 rfl ?_
    refine x_bipush B dL_writes_161 (by decide) ?_
    refine x_iload B dL_writes_163 rfl ?_
    refine x_iconst B dL_writes_165 ?_
    refine x_shrA B dL_writes_166 (fun v166 q166 => ?_)
    refine x_bipush B dL_writes_167 (by decide) ?_
    refine x_low B msL_50 dL_writes_169 (by first | assumption | omega) (by decide) (by decide) (Nat.le_of_ble_eq_true rfl) (fun w169 => ?_)
    refine x_iadd B dL_writes_172 ?_
    refine x_lput B msL_53 dL_writes_173 ho ha (by omega) (by simp only [List.length_append, List.length_cons, List.length_nil]; omega) (by decide) (by decide) (Nat.le_of_ble_eq_true rfl) (fun _ h => h) (fun ρ ho ha => ?_)
    refine x_iadd B dL_writes_176 ?_
    refine x_aload_n B dL_writes_177 rfl ?_
    refine x_bipush B dL_writes_178 (by decide) ?_
    refine x_iload B dL_writes_180 rfl ?_
    refine x_bipush B dL_writes_182 (by decide) ?_
    refine x_low B msL_50 dL_writes_184 (by first | assumption | omega) (by decide) (by decide) (Nat.le_of_ble_eq_true rfl) (fun w184 => ?_)
    refine x_iadd B dL_writes_187 ?_
    refine x_lput B msL_53 dL_writes_188 ho ha (by omega) (by simp only [List.length_append, List.length_cons, List.length_nil]; omega) (by decide) (by decide) (Nat.le_of_ble_eq_true rfl) (fun _ h => h) (fun ρ ho ha => ?_)
    refine x_iadd B dL_writes_191 ?_
    refine x_goto (tgt := 196) B dL_writes_192 (by decide) ?_
    refine x_iadd B dL_writes_196 ?_
    refine x_istore B dL_writes_197 (by decide) ?_
    have hlen := ha.1
    simp only [List.length_append, List.length_cons, List.length_nil] at hlen
    refine x_locs (L' := [(0, .ref e), (1, vi r), (2, vi x), (3, vi (vr m r)), (4, vi (ρ 5 1)), (5, vi nn), (6, vi k), (7, vi y)]) (xl_cons (rfl) (xl_cons (rfl) (xl_cons (rfl) (xl_cons (rfl) (xl_cons (lg_eq rfl (by omega)) (xl_cons (rfl) (xl_cons (rfl) (xl_cons (rfl) xl_nil)))))))) ?_
    exact K ρ ho (fun j j0 j1 => (ha.2.1 j j0 (by omega)).trans (hT j j0 j1)) (by first | exact pg3_1 hp n00 ha (by omega) (by omega) | exact (by have e2 : ρ 2 = T1 := hT1.symm; rw [e2, ← hn1]; exact pg3_0 hp))
theorem wrt_p4 (B : XB Γ G cL_writes RL 8 ({ frames := 7, cells := 0, slots := 0, locals := 152 } : Room) (AE e)) {k y n0 : Int} {T0 : Int → Int} (n00 : 0 ≤ n0) (hn0 : n0 ≤ 36) (K : ∀ ρ', OK m ρ' → (∀ j, 0 ≤ j → j < n0 → ρ' 2 j = T0 j) → seg (ρ' 2) n0 (ρ' 5 1) → XJ Γ 0 0 (PE G e m ρ') 26 [(0, .ref e), (1, vi r), (2, vi x), (3, vi (vr m r)), (4, vi (ρ' 5 1)), (5, vi nn), (6, vi (k + 1))] []) (ρ : Nat → Int → Int) (ho : OK m ρ) (hT : ∀ j, 0 ≤ j → j < n0 → ρ 2 j = T0 j) (hp : pg3 (ρ 2) n0 (ρ 5 1)) : XJ Γ 0 0 (PE G e m ρ) 199 [(0, .ref e), (1, vi r), (2, vi x), (3, vi (vr m r)), (4, vi (ρ 5 1)), (5, vi nn), (6, vi k), (7, vi y)] [] := by
  have hnb : n0 + 2 ≤ ρ 5 1 ∧ ρ 5 1 ≤ n0 + 7 := by
    unfold pg3 at hp
    obtain ⟨s, y, -, -, h3, h4, h⟩ := hp
    omega
  obtain ⟨n1, hn1⟩ : ∃ n, n = ρ 5 1 := ⟨_, rfl⟩
  obtain ⟨T1, hT1⟩ : ∃ T, T = ρ 2 := ⟨_, rfl⟩
  have ha : Ap T1 n1 [] ρ := Ap.nil hn1.symm hT1.symm
  rw [← hT1, ← hn1] at hp
  rw [← hT1] at hT
  rw [← hn1] at hnb
  refine x_iload B dL_writes_199 rfl ?_
  refine x_iload B dL_writes_201 rfl ?_
  refine x_iconst B dL_writes_203 ?_
  refine x_shrA B dL_writes_204 (fun v204 q204 => ?_)
  refine x_iconst B dL_writes_205 ?_
  refine x_low B msL_50 dL_writes_206 (by first | assumption | omega) (by decide) (by decide) (Nat.le_of_ble_eq_true rfl) (fun w206 => ?_)
  refine x_if_ne (tgt := 221) B dL_writes_209 (by decide) (by first | assumption | omega) (fun c209 => ?_) (fun c209 => ?_)
  · refine x_iconst B dL_writes_221 ?_
    refine x_aload_n B dL_writes_222 rfl ?_
    refine x_bipush B dL_writes_223 (by decide) ?_
    refine x_lput B msL_53 dL_writes_225 ho ha (by omega) (by simp only [List.length_append, List.length_cons, List.length_nil]; omega) (by decide) (by decide) (Nat.le_of_ble_eq_true rfl) (fun _ h => h) (fun ρ ho ha => ?_)
    refine x_iadd B dL_writes_228 ?_
    refine x_iadd B dL_writes_229 ?_
    refine x_istore B dL_writes_230 (by decide) ?_
    refine x_iinc B dL_writes_232 rfl (by decide) ?_
    refine x_goto (tgt := 26) B dL_writes_235 (by decide) ?_
    have hlen := ha.1
    simp only [List.length_append, List.length_cons, List.length_nil] at hlen
    refine x_locs (L' := [(0, .ref e), (1, vi r), (2, vi x), (3, vi (vr m r)), (4, vi (ρ 5 1)), (5, vi nn), (6, vi (k + 1))]) (xl_cons (rfl) (xl_cons (rfl) (xl_cons (rfl) (xl_cons (rfl) (xl_cons (lg_eq rfl (by omega)) (xl_cons (rfl) (xl_cons (rfl) xl_nil))))))) ?_
    exact K ρ ho (fun j j0 j1 => (ha.2.1 j j0 (by omega)).trans (hT j j0 j1)) (by first | exact seg_1 hp n00 ha | exact seg_0 hp n00 ha)
  · refine x_aload_n B dL_writes_212 rfl ?_
    refine x_bipush B dL_writes_213 (by decide) ?_
    refine x_lput B msL_53 dL_writes_215 ho ha (by omega) (by simp only [List.length_append, List.length_cons, List.length_nil]; omega) (by decide) (by decide) (Nat.le_of_ble_eq_true rfl) (fun _ h => h) (fun ρ ho ha => ?_)
    refine x_goto (tgt := 222) B dL_writes_218 (by decide) ?_
    refine x_aload_n B dL_writes_222 rfl ?_
    refine x_bipush B dL_writes_223 (by decide) ?_
    refine x_lput B msL_53 dL_writes_225 ho ha (by omega) (by simp only [List.length_append, List.length_cons, List.length_nil]; omega) (by decide) (by decide) (Nat.le_of_ble_eq_true rfl) (fun _ h => h) (fun ρ ho ha => ?_)
    refine x_iadd B dL_writes_228 ?_
    refine x_iadd B dL_writes_229 ?_
    refine x_istore B dL_writes_230 (by decide) ?_
    refine x_iinc B dL_writes_232 rfl (by decide) ?_
    refine x_goto (tgt := 26) B dL_writes_235 (by decide) ?_
    have hlen := ha.1
    simp only [List.length_append, List.length_cons, List.length_nil] at hlen
    refine x_locs (L' := [(0, .ref e), (1, vi r), (2, vi x), (3, vi (vr m r)), (4, vi (ρ 5 1)), (5, vi nn), (6, vi (k + 1))]) (xl_cons (rfl) (xl_cons (rfl) (xl_cons (rfl) (xl_cons (rfl) (xl_cons (lg_eq rfl (by omega)) (xl_cons (rfl) (xl_cons (rfl) xl_nil))))))) ?_
    exact K ρ ho (fun j j0 j1 => (ha.2.1 j j0 (by omega)).trans (hT j j0 j1)) (by first | exact seg_1 hp n00 ha | exact seg_0 hp n00 ha)
theorem wrt_L (B : XB Γ G cL_writes RL 8 ({ frames := 7, cells := 0, slots := 0, locals := 152 } : Room) (AE e)) (R : XR Γ "writes" (some .boolean) 0 0 (xQ (pZ True (PX G e m)) (AE e))) (hm : ∀ k, -2147483648 ≤ m k ∧ m k < 2147483648) (hr : 0 ≤ r ∧ r ≤ 1) (hx : -2147483648 ≤ x ∧ x < 2147483648) (hn : 1 ≤ nn ∧ nn ≤ 4) : ∀ (n : Nat) (k : Int) (ρ : Nat → Int → Int), 0 ≤ k → k ≤ nn → nn - k < n → OK m ρ → segs (ρ 2) k.toNat (ρ 5 1) → 0 ≤ ρ 5 1 → ρ 5 1 ≤ 9 * k → XJ Γ 0 0 (PE G e m ρ) 26 [(0, .ref e), (1, vi r), (2, vi x), (3, vi (vr m r)), (4, vi (ρ 5 1)), (5, vi nn), (6, vi k)] [] := by
  intro n
  induction n with
  | zero => intro k ρ _ _ _; omega
  | succ n ih =>
    intro k ρ k0 k1 kn ho hs hl0 hl
    have hv : 0 ≤ vr m r ∧ vr m r ≤ 9 := (Iv_iff.mp ho.I.1).1.vs (r := r) (by omega) (by omega)
    refine x_iload B dL_writes_26 rfl ?_
    refine x_iload B dL_writes_28 rfl ?_
    refine x_icmp_ge (tgt := 238) B dL_writes_30 (by decide) (by first | assumption | omega) (by first | assumption | omega) (fun c30 => ?_) (fun c30 => ?_)
    · obtain rfl : k = nn := by omega
      refine x_locs (L' := [(0, .ref e), (1, vi r), (3, vi (vr m r)), (4, vi (ρ 5 1)), (5, vi k)]) (xl_cons (rfl) (xl_cons (rfl) (xl_cons (rfl) (xl_cons (rfl) (xl_cons (rfl) xl_nil))))) ?_
      by_cases c : vr m r = 9
      · exact wrt_F B R ho hm hr hn hs c
      · exact wrt_N B R ho hm hr hn hs c
    · obtain ⟨T0, hT0⟩ : ∃ T, T = ρ 2 := ⟨_, rfl⟩
      obtain ⟨n0, hn0⟩ : ∃ n0, n0 = ρ 5 1 := ⟨_, rfl⟩
      have ha : Ap T0 n0 [] ρ := Ap.nil hn0.symm hT0.symm
      rw [← hT0, ← hn0] at hs
      rw [← hn0] at hl hl0
      refine x_iload_n B dL_writes_33 rfl ?_
      refine x_iconst B dL_writes_34 ?_
      refine x_iconst B dL_writes_35 ?_
      refine x_iload B dL_writes_36 rfl ?_
      refine x_imul B dL_writes_38 ?_
      refine x_iadd B dL_writes_39 ?_
      refine x_shrA B dL_writes_40 (fun v40 q40 => ?_)
      refine x_istore B dL_writes_41 (by decide) ?_
      refine x_iload B dL_writes_43 rfl ?_
      refine x_aload_n B dL_writes_45 rfl ?_
      refine x_cutI 77 (fun zz => zz = 109 ∨ zz = 114 ∨ zz = 102) (fun K77 => ?_) (fun z77 h77 => ?_)
      · refine x_iload B dL_writes_46 rfl ?_
        refine x_iconst B dL_writes_48 ?_
        refine x_low B msL_50 dL_writes_49 (by first | assumption | omega) (by decide) (by decide) (Nat.le_of_ble_eq_true rfl) (fun w49 => ?_)
        refine x_if_ne (tgt := 60) B dL_writes_52 (by decide) (by first | assumption | omega) (fun c52 => ?_) (fun c52 => ?_)
        · refine x_iload B dL_writes_60 rfl ?_
          refine x_iconst B dL_writes_62 ?_
          refine x_low B msL_50 dL_writes_63 (by first | assumption | omega) (by decide) (by decide) (Nat.le_of_ble_eq_true rfl) (fun w63 => ?_)
          refine x_iconst B dL_writes_66 ?_
          refine x_icmp_ne (tgt := 75) B dL_writes_67 (by decide) (by first | assumption | omega) (by first | assumption | omega) (fun c67 => ?_) (fun c67 => ?_)
          · refine x_bipush B dL_writes_75 (by decide) ?_
            exact K77 _ (by omega)
          · refine x_bipush B dL_writes_70 (by decide) ?_
            refine x_goto (tgt := 77) B dL_writes_72 (by decide) ?_
            exact K77 _ (by omega)
        · refine x_bipush B dL_writes_55 (by decide) ?_
          refine x_goto (tgt := 77) B dL_writes_57 (by decide) ?_
          exact K77 _ (by omega)
      · refine x_lput B msL_53 dL_writes_77 ho ha (by omega) (by simp only [List.length_append, List.length_cons, List.length_nil]; omega) (by decide) (by decide) (Nat.le_of_ble_eq_true rfl) (fun _ h => h) (fun ρ ho ha => ?_)
        refine x_aload_n B dL_writes_80 rfl ?_
        refine x_bipush B dL_writes_81 (by decide) ?_
        refine x_iload B dL_writes_83 rfl ?_
        refine x_iconst B dL_writes_85 ?_
        refine x_shrA B dL_writes_86 (fun v86 q86 => ?_)
        refine x_iconst B dL_writes_87 ?_
        refine x_low B msL_50 dL_writes_88 (by first | assumption | omega) (by decide) (by decide) (Nat.le_of_ble_eq_true rfl) (fun w88 => ?_)
        refine x_iadd B dL_writes_91 ?_
        refine x_lput B msL_53 dL_writes_92 ho ha (by omega) (by simp only [List.length_append, List.length_cons, List.length_nil]; omega) (by decide) (by decide) (Nat.le_of_ble_eq_true rfl) (fun _ h => h) (fun ρ ho ha => ?_)
        refine x_iadd B dL_writes_95 ?_
        refine x_iadd B dL_writes_96 ?_
        refine x_istore B dL_writes_97 (by decide) ?_
        have hlen := ha.1
        simp only [List.length_append, List.length_cons, List.length_nil] at hlen
        refine x_locs (L' := [(0, .ref e), (1, vi r), (2, vi x), (3, vi (vr m r)), (4, vi (ρ 5 1)), (5, vi nn), (6, vi k), (7, vi v40)]) (xl_cons (rfl) (xl_cons (rfl) (xl_cons (rfl) (xl_cons (rfl) (xl_cons (lg_eq rfl (by omega)) (xl_cons (rfl) (xl_cons (rfl) (xl_cons (rfl) xl_nil)))))))) ?_
        refine wrt_p2 B hl0 (by omega) (T0 := T0) (fun ρ2 o2 t2 p2 => wrt_p3 B hl0 (by omega) (T0 := T0) (fun ρ3 o3 t3 p3 => wrt_p4 B hl0 (by omega) (T0 := T0) (fun ρ4 o4 t4 p4 => ?_) ρ3 o3 t3 p3) ρ2 o2 t2 p2) ρ ho (fun j j0 j1 => ha.2.1 j j0 j1) (pg1_of ha (by omega) (by omega))
        have hl4 := p4.lt
        refine ih (k + 1) ρ4 (by omega) (by omega) (by omega) o4 ?_ (by omega) (by omega)
        rw [show (k + 1).toNat = k.toNat + 1 by omega]
        exact segs_s hs t4 p4
end WRT
theorem c_L_writes {G : xG} {l : Launch} {e : Nat} {m : Int → Int} {ρ : Nat → Int → Int} {r x : Int} (h1 : OK m ρ) (h2 : 0 ≤ r ∧ r ≤ 1) (h3 : -2147483648 ≤ x ∧ x < 2147483648) : CT G l yL_writes cL_writes 8 (some .boolean) ({ frames := 7, cells := 0, slots := 0, locals := 152 } : Room) 0 0 [.ref e, vi r, vi x] (PE G e m ρ) (pZ True (PX G e m)) (AE e) := by
  refine x_met1 (own := RL) (nm := "writes") (L := [(0, .ref e), (1, vi r), (2, vi x)]) (by decide) rfl rfl (fun _ => rfl) (Nat.le_of_ble_eq_true rfl) rfl rfl ?_
  intro Γ B R
  refine x_fact (fun H h => PE.rg h) (fun hm => ?_)
  have hI := h1.I
  have ho := h1.tx0
  have e5 : tx0 ρ 5 1 = 0 := by unfold tx0; rw [ur_eq, up_eq rfl]
  have hs : segs (tx0 ρ 2) 0 (tx0 ρ 5 1) := by rw [e5]; exact segs_0
  refine x_aload_n B dL_writes_0 rfl ?_
  refine x_iload_n B dL_writes_1 rfl ?_
  refine x_qd B mvL_24 (q_versions (by first | assumption | omega) (by first | assumption | omega)) dL_writes_2 rfl rfl (by decide) (by decide) (Nat.le_of_ble_eq_true rfl) (fun _ h => h) (fun r2 => ?_)
  refine x_istore_n B dL_writes_5 (by decide) ?_
  refine x_aload_n B dL_writes_6 rfl ?_
  refine x_qd B mvL_46 (q_clearText (by first | assumption | omega)) dL_writes_7 rfl rfl (by decide) (by decide) (Nat.le_of_ble_eq_true rfl) (fun _ h => h) (fun r7 => ?_)
  refine x_iconst B dL_writes_10 ?_
  refine x_imul B dL_writes_11 ?_
  refine x_istore B dL_writes_12 (by decide) ?_
  refine x_iconst B dL_writes_14 ?_
  refine x_iload_n B dL_writes_15 rfl ?_
  refine x_iconst B dL_writes_16 ?_
  refine x_low B msL_50 dL_writes_17 (by first | assumption | omega) (by decide) (by decide) (Nat.le_of_ble_eq_true rfl) (fun w17 => ?_)
  refine x_iadd B dL_writes_20 ?_
  refine x_istore B dL_writes_21 (by decide) ?_
  refine x_iconst B dL_writes_23 ?_
  refine x_istore B dL_writes_24 (by decide) ?_
  refine x_locs (L' := [(0, .ref e), (1, vi r), (2, vi x), (3, vi (vr m r)), (4, vi (tx0 ρ 5 1)), (5, vi (1 + lw x 4)), (6, vi 0)]) (xl_cons (rfl) (xl_cons (rfl) (xl_cons (rfl) (xl_cons (rfl) (xl_cons (lg_eq rfl (by rw [e5, Int.mul_zero])) (xl_cons (rfl) (xl_cons (rfl) xl_nil))))))) ?_
  exact wrt_L B R hm h2 h3 (by omega) 5 0 (tx0 ρ) (by omega) (by omega) (by omega) ho hs (by omega) (by omega)
/-! ===== what the reference's memory holds between two calls ===== -/
/-- a packed phase -/
def okP (p : Int) : Prop := 0 ≤ p ∧ p < 524288 ∧ 1 ≤ p / 4 % 128 ∧ p / 4 % 128 ≤ 99 ∧ 1 ≤ p / 2048 % 128 ∧ p / 2048 % 128 ≤ 100
/-- the bits of an amount behind k phases -/
def okF (k z : Int) : Prop := 1065353216 - 58720256 * k ≤ z ∧ z ≤ 1176256512 + 8388608 * k
def okU (m : Int → Int) (W u : Int) : Prop :=
  (0 ≤ m (5 + 6 * u + 0) ∧ m (5 + 6 * u + 0) ≤ 3) ∧ (1 ≤ m (5 + 6 * u + 1) ∧ m (5 + 6 * u + 1) ≤ 10000) ∧ (-1 ≤ m (5 + 6 * u + 2) ∧ m (5 + 6 * u + 2) < m 3) ∧ (0 ≤ m (5 + 6 * u + 3) ∧ m (5 + 6 * u + 3) ≤ 1) ∧ (0 ≤ m (5 + 6 * u + 4) ∧ m (5 + 6 * u + 4) ≤ 30) ∧ (0 ≤ m (5 + 6 * u + 5) ∧ m (5 + 6 * u + 5) ≤ W)
/-- the page of a batch's version; how many phases it has; its phase k -/
def pgB (m : Int → Int) (b : Int) : Int := 9 * m (548 + 10 * b + 0) + m (548 + 10 * b + 1) - 1
def lnB (m : Int → Int) (b : Int) : Int := m (62 + pgB m b)
def phB (m : Int → Int) (b k : Int) : Int := m (116 + 8 * pgB m b + k)
def okB (m : Int → Int) (b : Int) : Prop :=
  (0 ≤ m (548 + 10 * b + 0) ∧ m (548 + 10 * b + 0) < 6) ∧ (1 ≤ m (548 + 10 * b + 1) ∧ m (548 + 10 * b + 1) ≤ m (56 + m (548 + 10 * b + 0))) ∧ (1 ≤ m (548 + 10 * b + 2) ∧ m (548 + 10 * b + 2) ≤ 10000) ∧ (0 ≤ m (548 + 10 * b + 3) ∧ m (548 + 10 * b + 3) ≤ 9) ∧ (-1 ≤ m (548 + 10 * b + 4) ∧ m (548 + 10 * b + 4) < b) ∧
  (0 ≤ m (548 + 10 * b + 5) ∧ m (548 + 10 * b + 5) ≤ 6) ∧ (0 ≤ m (548 + 10 * b + 6) ∧ m (548 + 10 * b + 6) ≤ lnB m b ∧ (m (548 + 10 * b + 5) ≠ 6 → m (548 + 10 * b + 6) < lnB m b)) ∧ (0 ≤ m (548 + 10 * b + 7) ∧ m (548 + 10 * b + 7) < 99 ∧ (m (548 + 10 * b + 5) ≠ 6 → m (548 + 10 * b + 7) < phB m b (m (548 + 10 * b + 6)) / 4 % 128)) ∧ (-1 ≤ m (548 + 10 * b + 8) ∧ m (548 + 10 * b + 8) < m 2) ∧ okF (m (548 + 10 * b + 6)) (m (548 + 10 * b + 9)) ∧
  (m (548 + 10 * b + 4) ≠ -1 → m (548 + 10 * m (548 + 10 * b + 4) + 5) = 5 → 4 ≤ m (548 + 10 * b + 5))
def okV (m : Int → Int) (g : Int) : Prop := (1 ≤ m (62 + g) ∧ m (62 + g) ≤ 8) ∧ ∀ k, 0 ≤ k → k < m (62 + g) → okP (m (116 + 8 * g + k))
/-- W: what a unit may have worked -/
def Iv (m : Int → Int) (W : Int) : Prop :=
  (0 ≤ m 0 ∧ m 0 ≤ 30) ∧ (0 ≤ m 1 ∧ m 1 ≤ 60000) ∧ (0 ≤ m 2 ∧ m 2 ≤ 8) ∧ (0 ≤ m 3 ∧ m 3 ≤ 12) ∧ (0 ≤ m 4 ∧ m 4 ≤ 40) ∧ (∀ u, 0 ≤ u → u < m 2 → okU m W u) ∧ (∀ k, 0 ≤ k → k < 3 → -1 ≤ m (53 + k) ∧ m (53 + k) < m 3) ∧ (∀ r, 0 ≤ r → r < 6 → 0 ≤ m (56 + r) ∧ m (56 + r) ≤ 9) ∧
  (∀ r v, 0 ≤ r → r < 6 → 1 ≤ v → v ≤ m (56 + r) → okV m (9 * r + v - 1)) ∧ ∀ b, 0 ≤ b → b < m 3 → okB m b
/-- the history's count, the text's length -/
def Ir (ρ : Nat → Int → Int) : Prop := (0 ≤ ρ 5 0 ∧ ρ 5 0 ≤ 4) ∧ (0 ≤ ρ 5 1 ∧ ρ 5 1 ≤ 100)
section IVS
variable {m : Int → Int} {W : Int}
theorem Iv.n (h : Iv m W) : (0 ≤ m 0 ∧ m 0 ≤ 30) ∧ (0 ≤ m 1 ∧ m 1 ≤ 60000) ∧ (0 ≤ m 2 ∧ m 2 ≤ 8) ∧ (0 ≤ m 3 ∧ m 3 ≤ 12) ∧ (0 ≤ m 4 ∧ m 4 ≤ 40) := ⟨h.1, h.2.1, h.2.2.1, h.2.2.2.1, h.2.2.2.2.1⟩
theorem Iv.u (h : Iv m W) {u : Int} (h0 : 0 ≤ u) (h1 : u < m 2) : okU m W u := h.2.2.2.2.2.1 u h0 h1
theorem Iv.sh (h : Iv m W) {k : Int} (h0 : 0 ≤ k) (h1 : k < 3) : -1 ≤ m (53 + k) ∧ m (53 + k) < m 3 := h.2.2.2.2.2.2.1 k h0 h1
theorem Iv.vs (h : Iv m W) {r : Int} (h0 : 0 ≤ r) (h1 : r < 6) : 0 ≤ m (56 + r) ∧ m (56 + r) ≤ 9 := h.2.2.2.2.2.2.2.1 r h0 h1
theorem Iv.pg (h : Iv m W) {r v : Int} (h0 : 0 ≤ r) (h1 : r < 6) (h2 : 1 ≤ v) (h3 : v ≤ m (56 + r)) : okV m (9 * r + v - 1) := h.2.2.2.2.2.2.2.2.1 r v h0 h1 h2 h3
theorem Iv.b (h : Iv m W) {b : Int} (h0 : 0 ≤ b) (h1 : b < m 3) : okB m b := h.2.2.2.2.2.2.2.2.2 b h0 h1
theorem sumU_rg (h : Iv m W) (w : Int) (hw : w = 3 ∨ w = 5) : ∀ n : Nat, (n : Int) ≤ m 2 → 0 ≤ sumU m w n ∧ (w = 3 → sumU m w n ≤ n) ∧ (w = 5 → sumU m w n ≤ W * n)
  | 0, _ => by simp [sumU]
  | n + 1, hn => by
    have h1 := sumU_rg h w hw n (by omega)
    have h2 := h.u (u := n) (by omega) (by omega)
    unfold okU at h2
    unfold sumU
    have e : W * ((n + 1 : Nat) : Int) = W * n + W := by
      rw [show ((n + 1 : Nat) : Int) = (n : Int) + 1 from rfl, Int.mul_add, Int.mul_one]
    rw [e]
    rcases hw with hw | hw
    · subst hw; omega
    · subst hw; omega
end IVS
-- the parts of a packed phase
theorem c_X7_kindOf {G : xG} {l : Launch} {P : Heap → Prop} {A : Nat → Prop} {x : Int} (h1 : 0 ≤ x ∧ x < 524288) : CT G l yX7_kindOf cX7_kindOf 1 (some .int) ({ frames := 0, cells := 0, slots := 0, locals := 0 } : Room) 0 0 [vi x] P (pI (x % 4) P) A := by
  refine x_met1 (own := RX7) (nm := "kindOf") (L := [(0, vi x)]) (by decide) rfl rfl (fun _ => rfl) (Nat.le_of_ble_eq_true rfl) rfl rfl ?_
  intro Γ B R
  refine x_iload_n B dX7_kindOf_0 rfl ?_
  refine x_iconst B dX7_kindOf_1 ?_
  refine x_iand (w := x % 4) B dX7_kindOf_2 (i32_mask 2 3 rfl (by omega)) ?_
  exact x_retI B R dX7_kindOf_3 rfl (by omega) (fun H h => h)
theorem c_X7_durationOf {G : xG} {l : Launch} {P : Heap → Prop} {A : Nat → Prop} {x : Int} (h1 : 0 ≤ x ∧ x < 524288) : CT G l yX7_durationOf cX7_durationOf 1 (some .int) ({ frames := 0, cells := 0, slots := 0, locals := 0 } : Room) 0 0 [vi x] P (pI (x / 4 % 128) P) A := by
  refine x_met1 (own := RX7) (nm := "durationOf") (L := [(0, vi x)]) (by decide) rfl rfl (fun _ => rfl) (Nat.le_of_ble_eq_true rfl) rfl rfl ?_
  intro Γ B R
  refine x_iload_n B dX7_durationOf_0 rfl ?_
  refine x_iconst B dX7_durationOf_1 ?_
  refine x_ishr (w := x / 4) B dX7_durationOf_2 (i32_shr (k := 2) (by omega) (by omega)) ?_
  refine x_bipush B dX7_durationOf_3 (by decide) ?_
  refine x_iand (w := x / 4 % 128) B dX7_durationOf_5 (i32_mask 7 127 rfl (by omega)) ?_
  exact x_retI B R dX7_durationOf_6 rfl (by omega) (fun H h => h)
theorem c_X7_sharedOf {G : xG} {l : Launch} {P : Heap → Prop} {A : Nat → Prop} {x : Int} (h1 : 0 ≤ x ∧ x < 524288) : CT G l yX7_sharedOf cX7_sharedOf 1 (some .int) ({ frames := 0, cells := 0, slots := 0, locals := 0 } : Room) 0 0 [vi x] P (pI (x / 512 % 4 - 1) P) A := by
  refine x_met1 (own := RX7) (nm := "sharedOf") (L := [(0, vi x)]) (by decide) rfl rfl (fun _ => rfl) (Nat.le_of_ble_eq_true rfl) rfl rfl ?_
  intro Γ B R
  refine x_iload_n B dX7_sharedOf_0 rfl ?_
  refine x_bipush B dX7_sharedOf_1 (by decide) ?_
  refine x_ishr (w := x / 512) B dX7_sharedOf_3 (i32_shr (k := 9) (by omega) (by omega)) ?_
  refine x_iconst B dX7_sharedOf_4 ?_
  refine x_iand (w := x / 512 % 4) B dX7_sharedOf_5 (i32_mask 2 3 rfl (by omega)) ?_
  refine x_iconst B dX7_sharedOf_6 ?_
  refine x_isub B dX7_sharedOf_7 ?_
  exact x_retI B R dX7_sharedOf_8 rfl (by omega) (fun H h => h)
theorem c_X7_yieldOf {G : xG} {l : Launch} {P : Heap → Prop} {A : Nat → Prop} {x : Int} (h1 : 0 ≤ x ∧ x < 524288) : CT G l yX7_yieldOf cX7_yieldOf 1 (some .int) ({ frames := 0, cells := 0, slots := 0, locals := 0 } : Room) 0 0 [vi x] P (pI (x / 2048 % 128) P) A := by
  refine x_met1 (own := RX7) (nm := "yieldOf") (L := [(0, vi x)]) (by decide) rfl rfl (fun _ => rfl) (Nat.le_of_ble_eq_true rfl) rfl rfl ?_
  intro Γ B R
  refine x_iload_n B dX7_yieldOf_0 rfl ?_
  refine x_bipush B dX7_yieldOf_1 (by decide) ?_
  refine x_ishr (w := x / 2048) B dX7_yieldOf_3 (i32_shr (k := 11) (by omega) (by omega)) ?_
  refine x_bipush B dX7_yieldOf_4 (by decide) ?_
  refine x_iand (w := x / 2048 % 128) B dX7_yieldOf_6 (i32_mask 7 127 rfl (by omega)) ?_
  exact x_retI B R dX7_yieldOf_7 rfl (by omega) (fun H h => h)
theorem c_X7_markOf {G : xG} {l : Launch} {P : Heap → Prop} {A : Nat → Prop} {x : Int} (h1 : 0 ≤ x ∧ x < 524288) : CT G l yX7_markOf cX7_markOf 1 (some .int) ({ frames := 0, cells := 0, slots := 0, locals := 0 } : Room) 0 0 [vi x] P (pI (x / 262144 % 2) P) A := by
  refine x_met1 (own := RX7) (nm := "markOf") (L := [(0, vi x)]) (by decide) rfl rfl (fun _ => rfl) (Nat.le_of_ble_eq_true rfl) rfl rfl ?_
  intro Γ B R
  refine x_iload_n B dX7_markOf_0 rfl ?_
  refine x_bipush B dX7_markOf_1 (by decide) ?_
  refine x_ishr (w := x / 262144) B dX7_markOf_3 (i32_shr (k := 18) (by omega) (by omega)) ?_
  refine x_iconst B dX7_markOf_4 ?_
  refine x_iand (w := x / 262144 % 2) B dX7_markOf_5 (i32_mask 1 1 rfl (by omega)) ?_
  exact x_retI B R dX7_markOf_6 rfl (by omega) (fun H h => h)
theorem c_X7_phaseAt {G : xG} {l : Launch} {b : Nat} {m : Int → Int} {ρ : Nat → Int → Int} {x k : Int} (h1 : 0 ≤ x ∧ x < 12) (h2 : 0 ≤ m (548 + 10 * x + 0) ∧ m (548 + 10 * x + 0) < 6) (h3 : 1 ≤ m (548 + 10 * x + 1) ∧ m (548 + 10 * x + 1) ≤ 9) (h4 : 0 ≤ k ∧ k < 8) : CT G l yX7_phaseAt cX7_phaseAt 3 (some .int) ({ frames := 1, cells := 0, slots := 0, locals := 23 } : Room) 0 0 [.ref b, vi x, vi k] (PM G b m ρ) (pI (phB m x k) (PM G b m ρ)) (AM b) := by
  refine x_met1 (own := RX7) (nm := "phaseAt") (L := [(0, .ref b), (1, vi x), (2, vi k)]) (by decide) rfl rfl (fun _ => rfl) (Nat.le_of_ble_eq_true rfl) rfl rfl ?_
  intro Γ B R
  refine x_aload_n B dX7_phaseAt_0 rfl ?_
  refine x_aload_n B dX7_phaseAt_1 rfl ?_
  refine x_iload_n B dX7_phaseAt_2 rfl ?_
  refine x_iconst B dX7_phaseAt_3 ?_
  refine x_mV B mvX7_40 (fun l => c_X7_of (by omega)) dX7_phaseAt_4 rfl rfl (by decide) (by decide) (Nat.le_of_ble_eq_true rfl) PM.rv (fun r4 => ?_)
  refine x_aload_n B dX7_phaseAt_7 rfl ?_
  refine x_iload_n B dX7_phaseAt_8 rfl ?_
  refine x_iconst B dX7_phaseAt_9 ?_
  refine x_mV B mvX7_40 (fun l => c_X7_of (by omega)) dX7_phaseAt_10 rfl rfl (by decide) (by decide) (Nat.le_of_ble_eq_true rfl) PM.rv (fun r10 => ?_)
  refine x_iload_n B dX7_phaseAt_13 rfl ?_
  refine x_mV B mvX7_85 (fun l => c_X7_phaseIn (by omega) (by omega) (by omega)) dX7_phaseAt_14 rfl rfl (by decide) (by decide) (Nat.le_of_ble_eq_true rfl) PM.rv (fun r14 => ?_)
  exact x_retI B R dX7_phaseAt_17 (by first | rfl | omega) (by show -2147483648 ≤ m _ ∧ m _ < 2147483648; exact r14) (fun H h => by exact h)
theorem c_X7_phaseNow {G : xG} {l : Launch} {b : Nat} {m : Int → Int} {ρ : Nat → Int → Int} {x : Int} (h1 : 0 ≤ x ∧ x < 12) (h2 : 0 ≤ m (548 + 10 * x + 0) ∧ m (548 + 10 * x + 0) < 6) (h3 : 1 ≤ m (548 + 10 * x + 1) ∧ m (548 + 10 * x + 1) ≤ 9) (h4 : 0 ≤ m (548 + 10 * x + 6) ∧ m (548 + 10 * x + 6) < 8) : CT G l yX7_phaseNow cX7_phaseNow 2 (some .int) ({ frames := 2, cells := 0, slots := 0, locals := 45 } : Room) 0 0 [.ref b, vi x] (PM G b m ρ) (pI (phB m x (m (548 + 10 * x + 6))) (PM G b m ρ)) (AM b) := by
  refine x_met1 (own := RX7) (nm := "phaseNow") (L := [(0, .ref b), (1, vi x)]) (by decide) rfl rfl (fun _ => rfl) (Nat.le_of_ble_eq_true rfl) rfl rfl ?_
  intro Γ B R
  refine x_aload_n B dX7_phaseNow_0 rfl ?_
  refine x_iload_n B dX7_phaseNow_1 rfl ?_
  refine x_aload_n B dX7_phaseNow_2 rfl ?_
  refine x_iload_n B dX7_phaseNow_3 rfl ?_
  refine x_bipush B dX7_phaseNow_4 (by decide) ?_
  refine x_mV B mvX7_40 (fun l => c_X7_of (by omega)) dX7_phaseNow_6 rfl rfl (by decide) (by decide) (Nat.le_of_ble_eq_true rfl) PM.rv (fun r6 => ?_)
  refine x_mV B mvX7_89 (fun l => c_X7_phaseAt (by omega) (by omega) (by omega) (by omega)) dX7_phaseNow_9 rfl rfl (by decide) (by decide) (Nat.le_of_ble_eq_true rfl) PM.rv (fun r9 => ?_)
  exact x_retI B R dX7_phaseNow_12 (by first | rfl | omega) (by omega) (fun H h => by exact h)
theorem c_X7_left {G : xG} {l : Launch} {b : Nat} {m : Int → Int} {ρ : Nat → Int → Int} {x : Int} (h1 : 0 ≤ x ∧ x < 12) (h2 : 0 ≤ m (548 + 10 * x + 0) ∧ m (548 + 10 * x + 0) < 6) (h3 : 1 ≤ m (548 + 10 * x + 1) ∧ m (548 + 10 * x + 1) ≤ 9) (h4 : 0 ≤ m (548 + 10 * x + 6) ∧ m (548 + 10 * x + 6) < 8) (h5 : 0 ≤ phB m x (m (548 + 10 * x + 6)) ∧ phB m x (m (548 + 10 * x + 6)) < 524288) (h6 : 0 ≤ m (548 + 10 * x + 7) ∧ m (548 + 10 * x + 7) ≤ 100) : CT G l yX7_left cX7_left 2 (some .int) ({ frames := 3, cells := 0, slots := 0, locals := 66 } : Room) 0 0 [.ref b, vi x] (PM G b m ρ) (pI (phB m x (m (548 + 10 * x + 6)) / 4 % 128 - m (548 + 10 * x + 7)) (PM G b m ρ)) (AM b) := by
  refine x_met1 (own := RX7) (nm := "left") (L := [(0, .ref b), (1, vi x)]) (by decide) rfl rfl (fun _ => rfl) (Nat.le_of_ble_eq_true rfl) rfl rfl ?_
  intro Γ B R
  refine x_aload_n B dX7_left_0 rfl ?_
  refine x_iload_n B dX7_left_1 rfl ?_
  refine x_mV B mvX7_164 (fun l => c_X7_phaseNow (by omega) (by omega) (by omega) (by omega)) dX7_left_2 rfl rfl (by decide) (by decide) (Nat.le_of_ble_eq_true rfl) PM.rv (fun r2 => ?_)
  refine x_sV B msX7_134 (fun l => c_X7_durationOf (by omega)) dX7_left_5 rfl rfl (by decide) (by decide) (Nat.le_of_ble_eq_true rfl) (fun r5 => ?_)
  refine x_aload_n B dX7_left_8 rfl ?_
  refine x_iload_n B dX7_left_9 rfl ?_
  refine x_bipush B dX7_left_10 (by decide) ?_
  refine x_mV B mvX7_40 (fun l => c_X7_of (by omega)) dX7_left_12 rfl rfl (by decide) (by decide) (Nat.le_of_ble_eq_true rfl) PM.rv (fun r12 => ?_)
  refine x_isub B dX7_left_15 ?_
  exact x_retI B R dX7_left_16 (by first | rfl | omega) (by omega) (fun H h => by exact h)

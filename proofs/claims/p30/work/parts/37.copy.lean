/-! ===== the class's State: new units and batches, copies ===== -/
theorem len6 {fs : List Value} (h : fs.length = 6) : ∃ f0 f1 f2 f3 f4 f5, fs = [f0, f1, f2, f3, f4, f5] := by
  match fs, h with
  | [f0, f1, f2, f3, f4, f5], _ => exact ⟨f0, f1, f2, f3, f4, f5, rfl⟩
theorem len10 {fs : List Value} (h : fs.length = 10) : ∃ f0 f1 f2 f3 f4 f5 f6 f7 f8 f9, fs = [f0, f1, f2, f3, f4, f5, f6, f7, f8, f9] := by
  match fs, h with
  | [f0, f1, f2, f3, f4, f5, f6, f7, f8, f9], _ => exact ⟨f0, f1, f2, f3, f4, f5, f6, f7, f8, f9, rfl⟩
section NEW
variable {G : xG} {a κ : Nat} {β : Nat → Int → Int} {m od : Int → Int} {oc : Int} {H H1 : Heap}
/-- a unit, or a batch, that is not there yet may hold anything -/
theorem PS.deadU (h : PS G a κ β m od oc H) {fs : List Value} (hn : m 2 < 8) (e : oat G (uA a (m 2)) 5 fs H1) (hl : fs.length = 6) (hq : ∀ q : Nat, q < a + 30 → q ≠ uA a (m 2) → H1[q]? = H[q]?) : PS G a κ β m od oc H1 := by
  obtain ⟨⟨⟨h0, hu, hb, hh, hv, hj, ho, hU, hB⟩, hm, hod⟩, hk, hbk, hka⟩ := h
  have hm' := hm
  unfold mOK at hm'
  have q' : ∀ q : Nat, q < a + 10 → H1[q]? = H[q]? := fun q q0 => hq q (by omega) (by unfold uA; omega)
  refine ⟨⟨⟨h0.kept (q' _ (by omega)), hu.kept (q' _ (by omega)), hb.kept (q' _ (by omega)), hh.kept (q' _ (by omega)), hv.kept (q' _ (by omega)), hj.kept (fun q q0 q1 => q' q (by omega)), ho.kept (q' _ (by omega)), fun u u0 u1 => ?_, hB.kept (fun q q0 q1 => hq q (by omega) (by unfold uA; omega))⟩, hm, hod⟩, hk.kept (fun q q0 q1 => q' q (by omega)), hbk, hka⟩
  by_cases eu : u = m 2
  · subst eu
    exact ⟨fs, e, hl, fun q => by omega⟩
  · obtain ⟨fs', g1, g2⟩ := hU u u0 u1
    exact ⟨fs', g1.kept (hq _ (by unfold uA; omega) (by unfold uA; omega)), g2⟩
theorem PS.deadB (h : PS G a κ β m od oc H) {fs : List Value} (hn : m 3 < 12) (e : oat G (bA a (m 3)) 0 fs H1) (hl : fs.length = 10) (hq : ∀ q : Nat, q < a + 30 → q ≠ bA a (m 3) → H1[q]? = H[q]?) : PS G a κ β m od oc H1 := by
  obtain ⟨⟨⟨h0, hu, hb, hh, hv, hj, ho, hU, hB⟩, hm, hod⟩, hk, hbk, hka⟩ := h
  have hm' := hm
  unfold mOK at hm'
  have q' : ∀ q : Nat, q < a + 18 → H1[q]? = H[q]? := fun q q0 => hq q (by omega) (by unfold bA; omega)
  refine ⟨⟨⟨h0.kept (q' _ (by omega)), hu.kept (q' _ (by omega)), hb.kept (q' _ (by omega)), hh.kept (q' _ (by omega)), hv.kept (q' _ (by omega)), hj.kept (fun q q0 q1 => q' q (by omega)), ho.kept (q' _ (by omega)), hU.kept (fun q q0 q1 => q' q (by omega)), fun u u0 u1 => ?_⟩, hm, hod⟩, hk.kept (fun q q0 q1 => q' q (by omega)), hbk, hka⟩
  by_cases eu : u = m 3
  · subst eu
    exact ⟨fs, e, hl, fun q => by omega⟩
  · obtain ⟨fs', g1, g2⟩ := hB u u0 u1
    exact ⟨fs', g1.kept (hq _ (by unfold bA; omega) (by unfold bA; omega)), g2⟩
theorem PS.newU (h : PS G a κ β m od oc H) {kd cp : Int} (hn : m 2 < 8) (e : oat G (uA a (m 2)) 5 [vi kd, vi cp, vi (-1), vi 0, vi 0, vi 0] H) (h1 : -2147483648 ≤ kd ∧ kd < 2147483648) (h2 : -2147483648 ≤ cp ∧ cp < 2147483648) (hd : oat G a 3 (hdS κ a (m 2 + 1) (m 3) oc (m 1) (m 0)) H1) (hq : ∀ q : Nat, q ≠ a → H1[q]? = H[q]?) : PS G a κ β (s_unit m kd cp) od oc H1 := by
  obtain ⟨⟨⟨h0, hu, hb, hh, hv, hj, ho, hU, hB⟩, hm, hod⟩, hk, hbk, hka⟩ := h
  have hm' := hm
  unfold mOK at hm'
  have es : ∀ k, k ≠ 2 → (k < 5 + 6 * m 2 ∨ 5 + 6 * m 2 + 6 ≤ k) → s_unit m kd cp k = m k := fun k k2 kk => by
    unfold s_unit
    try dsimp only
    rw [up_ne (by omega), up_ne (by omega), up_ne (by omega), up_ne (by omega), up_ne (by omega), up_ne (by omega), up_ne (by omega)]
  have e2 : s_unit m kd cp 2 = m 2 + 1 := by
    unfold s_unit
    try dsimp only
    rw [up_ne (by omega), up_ne (by omega), up_ne (by omega), up_ne (by omega), up_ne (by omega), up_ne (by omega), up_eq rfl]
  have eU : fU (s_unit m kd cp) (m 2) = [vi kd, vi cp, vi (-1), vi 0, vi 0, vi 0] := by
    have f0 : s_unit m kd cp (5 + 6 * m 2 + 0) = kd := by unfold s_unit; (try dsimp only); rw [up_ne (by omega), up_ne (by omega), up_ne (by omega), up_ne (by omega), up_ne (by omega), up_eq rfl]
    have f1 : s_unit m kd cp (5 + 6 * m 2 + 1) = cp := by unfold s_unit; (try dsimp only); rw [up_ne (by omega), up_ne (by omega), up_ne (by omega), up_ne (by omega), up_eq rfl]
    have f2 : s_unit m kd cp (5 + 6 * m 2 + 2) = -1 := by unfold s_unit; (try dsimp only); rw [up_ne (by omega), up_ne (by omega), up_ne (by omega), up_eq rfl]
    have f3 : s_unit m kd cp (5 + 6 * m 2 + 3) = 0 := by unfold s_unit; (try dsimp only); rw [up_ne (by omega), up_ne (by omega), up_eq rfl]
    have f4 : s_unit m kd cp (5 + 6 * m 2 + 4) = 0 := by unfold s_unit; (try dsimp only); rw [up_ne (by omega), up_eq rfl]
    have f5 : s_unit m kd cp (5 + 6 * m 2 + 5) = 0 := by unfold s_unit; (try dsimp only); rw [up_eq rfl]
    unfold fU
    rw [f0, f1, f2, f3, f4, f5]
  have e0 := es 0 (by omega) (by omega)
  have e1 := es 1 (by omega) (by omega)
  have e3 := es 3 (by omega) (by omega)
  have e4 := es 4 (by omega) (by omega)
  refine ⟨⟨⟨by rw [e0, e1, e2, e3]; exact hd, hu.kept (hq _ (by omega)), hb.kept (hq _ (by omega)), (hh.kept (hq _ (by omega))).congr (fun k k0 k1 => (es _ (by omega) (by omega)).symm), (hv.kept (hq _ (by omega))).congr (fun k k0 k1 => (es _ (by omega) (by omega)).symm), (hj.kept (fun q q0 q1 => hq q (by omega))).congr e4 (fun k k0 k1 => es _ (by omega) (by omega)), ho.kept (hq _ (by omega)), fun u u0 u1 => ?_, ?_⟩, ?_, hod⟩, hk.kept (fun q q0 q1 => hq q (by omega)), hbk.congr (fun k k0 k1 => es _ (by omega) (by omega)), hka⟩
  · rw [e2]
    by_cases eu : u = m 2
    · subst eu
      exact ⟨_, e.kept (hq _ (by unfold uA; omega)), rfl, fun _ => eU.symm⟩
    · obtain ⟨fs', g1, g2, g3⟩ := hU u u0 u1
      exact ⟨fs', g1.kept (hq _ (by unfold uA; omega)), g2, fun q => by rw [g3 (by omega)]; exact (fU_eq (fun w w0 w1 => es _ (by omega) (by omega))).symm⟩
  · rw [e3]
    exact (hB.kept (fun q q0 q1 => hq q (by omega))).congr (fun x x0 x1 w w0 w1 => es _ (by omega) (by omega))
  · unfold mOK
    rw [e2, e3, e4]
    refine ⟨by omega, hm'.2.1, hm'.2.2.1, ?_⟩
    unfold s_unit
    try dsimp only
    exact up_rg (up_rg (up_rg (up_rg (up_rg (up_rg (up_rg hm'.2.2.2 (by omega)) h1) h2) (by omega)) (by omega)) (by omega)) (by omega)
theorem PS.newB (h : PS G a κ β m od oc H) {r sz pr bf : Int} (hn : m 3 < 12) (hr : 0 ≤ r ∧ r < 6) (e : oat G (bA a (m 3)) 0 [vi r, vi (m (56 + r)), vi sz, vi pr, vi bf, vi 0, vi 0, vi 0, vi (-1), .float (FP.i2f (Int32.ofInt sz))] H) (h2 : -2147483648 ≤ sz ∧ sz < 2147483648) (h3 : -2147483648 ≤ pr ∧ pr < 2147483648) (h4 : -2147483648 ≤ bf ∧ bf < 2147483648) (hd : oat G a 3 (hdS κ a (m 2) (m 3 + 1) oc (m 1) (m 0)) H1) (hq : ∀ q : Nat, q ≠ a → H1[q]? = H[q]?) : PS G a κ β (s_batch m r sz pr bf) od oc H1 := by
  obtain ⟨⟨⟨h0, hu, hb, hh, hv, hj, ho, hU, hB⟩, hm, hod⟩, hk, hbk, hka⟩ := h
  have hm' := hm
  unfold mOK at hm'
  have es : ∀ k, k ≠ 3 → (k < 548 + 10 * m 3 ∨ 548 + 10 * m 3 + 10 ≤ k) → s_batch m r sz pr bf k = m k := fun k k2 kk => by
    unfold s_batch
    try dsimp only
    rw [up_ne (by omega), up_ne (by omega), up_ne (by omega), up_ne (by omega), up_ne (by omega), up_ne (by omega), up_ne (by omega), up_ne (by omega), up_ne (by omega), up_ne (by omega), up_ne (by omega)]
  have e3 : s_batch m r sz pr bf 3 = m 3 + 1 := by
    unfold s_batch
    try dsimp only
    rw [up_ne (by omega), up_ne (by omega), up_ne (by omega), up_ne (by omega), up_ne (by omega), up_ne (by omega), up_ne (by omega), up_ne (by omega), up_ne (by omega), up_ne (by omega), up_eq rfl]
  have ev : up (up m 3 (m 3 + 1)) (548 + 10 * m 3 + 0) r (56 + r) = m (56 + r) := by rw [up_ne (by omega), up_ne (by omega)]
  have eB : fBt (s_batch m r sz pr bf) (m 3) = [vi r, vi (m (56 + r)), vi sz, vi pr, vi bf, vi 0, vi 0, vi 0, vi (-1), .float (FP.i2f (Int32.ofInt sz))] := by
    have f0 : s_batch m r sz pr bf (548 + 10 * m 3 + 0) = r := by unfold s_batch; (try dsimp only); rw [up_ne (by omega), up_ne (by omega), up_ne (by omega), up_ne (by omega), up_ne (by omega), up_ne (by omega), up_ne (by omega), up_ne (by omega), up_ne (by omega), up_eq rfl]
    have f1 : s_batch m r sz pr bf (548 + 10 * m 3 + 1) = m (56 + r) := by unfold s_batch; (try dsimp only); rw [up_ne (by omega), up_ne (by omega), up_ne (by omega), up_ne (by omega), up_ne (by omega), up_ne (by omega), up_ne (by omega), up_ne (by omega), up_eq rfl, ev]
    have f2 : s_batch m r sz pr bf (548 + 10 * m 3 + 2) = sz := by unfold s_batch; (try dsimp only); rw [up_ne (by omega), up_ne (by omega), up_ne (by omega), up_ne (by omega), up_ne (by omega), up_ne (by omega), up_ne (by omega), up_eq rfl]
    have f3 : s_batch m r sz pr bf (548 + 10 * m 3 + 3) = pr := by unfold s_batch; (try dsimp only); rw [up_ne (by omega), up_ne (by omega), up_ne (by omega), up_ne (by omega), up_ne (by omega), up_ne (by omega), up_eq rfl]
    have f4 : s_batch m r sz pr bf (548 + 10 * m 3 + 4) = bf := by unfold s_batch; (try dsimp only); rw [up_ne (by omega), up_ne (by omega), up_ne (by omega), up_ne (by omega), up_ne (by omega), up_eq rfl]
    have f5 : s_batch m r sz pr bf (548 + 10 * m 3 + 5) = 0 := by unfold s_batch; (try dsimp only); rw [up_ne (by omega), up_ne (by omega), up_ne (by omega), up_ne (by omega), up_eq rfl]
    have f6 : s_batch m r sz pr bf (548 + 10 * m 3 + 6) = 0 := by unfold s_batch; (try dsimp only); rw [up_ne (by omega), up_ne (by omega), up_ne (by omega), up_eq rfl]
    have f7 : s_batch m r sz pr bf (548 + 10 * m 3 + 7) = 0 := by unfold s_batch; (try dsimp only); rw [up_ne (by omega), up_ne (by omega), up_eq rfl]
    have f8 : s_batch m r sz pr bf (548 + 10 * m 3 + 8) = -1 := by unfold s_batch; (try dsimp only); rw [up_ne (by omega), up_eq rfl]
    have f9 : s_batch m r sz pr bf (548 + 10 * m 3 + 9) = fI (FP.i2f (Int32.ofInt sz)) := by unfold s_batch; (try dsimp only); rw [up_eq rfl]
    unfold fBt
    rw [f0, f1, f2, f3, f4, f5, f6, f7, f8, f9, fB_fI]
  have e0 := es 0 (by omega) (by omega)
  have e1 := es 1 (by omega) (by omega)
  have e2 := es 2 (by omega) (by omega)
  have e4 := es 4 (by omega) (by omega)
  refine ⟨⟨⟨by rw [e0, e1, e2, e3]; exact hd, hu.kept (hq _ (by omega)), hb.kept (hq _ (by omega)), (hh.kept (hq _ (by omega))).congr (fun k k0 k1 => (es _ (by omega) (by omega)).symm), (hv.kept (hq _ (by omega))).congr (fun k k0 k1 => (es _ (by omega) (by omega)).symm), (hj.kept (fun q q0 q1 => hq q (by omega))).congr e4 (fun k k0 k1 => es _ (by omega) (by omega)), ho.kept (hq _ (by omega)), ?_, fun u u0 u1 => ?_⟩, ?_, hod⟩, hk.kept (fun q q0 q1 => hq q (by omega)), hbk.congr (fun k k0 k1 => es _ (by omega) (by omega)), hka⟩
  · rw [e2]
    exact (hU.kept (fun q q0 q1 => hq q (by omega))).congr (fun x x0 x1 w w0 w1 => es _ (by omega) (by omega))
  · rw [e3]
    by_cases eu : u = m 3
    · subst eu
      exact ⟨_, e.kept (hq _ (by unfold bA; omega)), rfl, fun _ => eB.symm⟩
    · obtain ⟨fs', g1, g2, g3⟩ := hB u u0 u1
      exact ⟨fs', g1.kept (hq _ (by unfold bA; omega)), g2, fun q => by rw [g3 (by omega)]; exact (fBt_eq (fun w w0 w1 => es _ (by omega) (by omega))).symm⟩
  · unfold mOK
    rw [e2, e3, e4]
    refine ⟨hm'.1, by omega, hm'.2.2.1, ?_⟩
    unfold s_batch
    try dsimp only
    exact up_rg (up_rg (up_rg (up_rg (up_rg (up_rg (up_rg (up_rg (up_rg (up_rg (up_rg hm'.2.2.2 (by omega)) (by omega)) (by rw [ev]; exact hm'.2.2.2 _)) h2) h3) h4) (by omega)) (by omega)) (by omega)) (by omega)) (fI_rg _)
end NEW
theorem c_X3_addUnit {G : xG} {l : Launch} {a κ : Nat} {β : Nat → Int → Int} {m od : Int → Int} {oc kd cp : Int} (hn : 0 ≤ m 2 ∧ m 2 < 8) (h1 : -2147483648 ≤ kd ∧ kd < 2147483648) (h2 : -2147483648 ≤ cp ∧ cp < 2147483648) : CT G l yX3_addUnit cX3_addUnit 4 (some .int) ({ frames := 1, cells := 0, slots := 0, locals := 22 } : Room) 0 0 [.ref a, vi kd, vi cp] (PS G a κ β m od oc) (pI (m 2) (PS G a κ β (s_unit m kd cp) od oc)) (AS a) := by
  refine x_met1 (own := RX3) (nm := "addUnit") (L := [(0, .ref a), (1, vi kd), (2, vi cp)]) (by decide) rfl rfl (fun _ => rfl) (Nat.le_of_ble_eq_true rfl) rfl rfl ?_
  intro Γ B R
  have tail : XJ Γ 0 0 (PS G a κ β m od oc) 13 [(0, .ref a), (1, vi kd), (2, vi cp), (3, vi (m 2))] [vi cp, vi kd, .ref (uA a (m 2))] := by
    refine x_ex (ι := Value × Value × Value × Value × Value × Value) (P' := fun f H => PS G a κ β m od oc H ∧ oat G (uA a (m 2)) 5 [f.1, f.2.1, f.2.2.1, f.2.2.2.1, f.2.2.2.2.1, f.2.2.2.2.2] H) (fun H h => by
        obtain ⟨fs, e1, e2, -⟩ := h.1.1.2.2.2.2.2.2.2.1 (m 2) hn.1 hn.2
        obtain ⟨f0, f1, f2, f3, f4, f5, ef⟩ := len6 e2
        exact ⟨(f0, f1, f2, f3, f4, f5), h, by rw [← ef]; exact e1⟩) (fun f => ?_)
    refine x_callVg (ι := Unit) (v := fun _ => none) (P' := fun _ H => PS G a κ β m od oc H ∧ oat G (uA a (m 2)) 5 [vi kd, vi cp, vi (-1), vi 0, vi 0, vi 0] H) B mvX3_75 (fun l => c_X5_reset) dX3_addUnit_13 rfl rfl (by decide) (by decide) (Nat.le_of_ble_eq_true rfl) (fun q hq => by unfold AS; unfold uA at hq; omega) (fun H h => ⟨h.2, _, h.2⟩) (fun v' H H1 hp hpost hsz hq => ⟨(), hpost.1, hp.1.deadU hn.2 hpost.2 rfl (fun q q0 q1 => hq q (by have := hp.1.size; omega) q1), hpost.2⟩) (fun _ => ?_)
    refine x_aload_n B dX3_addUnit_16 rfl ?_
    refine x_dup B dX3_addUnit_17 rfl ?_
    refine x_getI B fgX3_50 dX3_addUnit_18 (fun H h => PS.g7 H h.1) (fun r18 => ?_)
    refine x_iconst B dX3_addUnit_21 ?_
    refine x_iadd B dX3_addUnit_22 ?_
    refine x_put (P' := PS G a κ β (s_unit m kd cp) od oc) B fpX3_50 dX3_addUnit_23 rfl rfl (by unfold AS; omega) (fun H h => ⟨_, PS.o h.1, Nat.le_of_ble_eq_true rfl, fun H1 e _ hq => h.1.newU hn.2 h.2 h1 h2 e hq⟩) ?_
    refine x_iload_n B dX3_addUnit_26 rfl ?_
    exact x_retI B R dX3_addUnit_27 (by first | rfl | omega) (by omega) (fun H h => by exact h)
  refine x_aload_n B dX3_addUnit_0 rfl ?_
  refine x_getI B fgX3_50 dX3_addUnit_1 PS.g7 (fun r1 => ?_)
  refine x_istore_n B dX3_addUnit_4 (by decide) ?_
  refine x_aload_n B dX3_addUnit_5 rfl ?_
  refine x_get B fgX3_11 dX3_addUnit_6 (fun _ h => ⟨_, PS.o h, rfl⟩) ?_
  refine x_iload_n B dX3_addUnit_9 rfl ?_
  refine x_aald (j := 3) B dX3_addUnit_10 rfl (by omega) (by decide) (PS.au (by omega)) ?_
  refine x_iload_n B dX3_addUnit_11 rfl ?_
  refine x_iload_n B dX3_addUnit_12 rfl ?_
  exact x_locs (xl_cons rfl (xl_cons rfl (xl_cons rfl (xl_cons rfl xl_nil)))) tail
theorem c_X3_addBatch {G : xG} {l : Launch} {a κ : Nat} {β : Nat → Int → Int} {m od : Int → Int} {oc r sz pr bf : Int} (hn : 0 ≤ m 3 ∧ m 3 < 12) (hr : 0 ≤ r ∧ r < 6) (h2 : -2147483648 ≤ sz ∧ sz < 2147483648) (h3 : -2147483648 ≤ pr ∧ pr < 2147483648) (h4 : -2147483648 ≤ bf ∧ bf < 2147483648) : CT G l yX3_addBatch cX3_addBatch 6 (some .int) ({ frames := 1, cells := 0, slots := 0, locals := 25 } : Room) 0 0 [.ref a, vi r, vi sz, vi pr, vi bf] (PS G a κ β m od oc) (pI (m 3) (PS G a κ β (s_batch m r sz pr bf) od oc)) (AS a) := by
  refine x_met1 (own := RX3) (nm := "addBatch") (L := [(0, .ref a), (1, vi r), (2, vi sz), (3, vi pr), (4, vi bf)]) (by decide) rfl rfl (fun _ => rfl) (Nat.le_of_ble_eq_true rfl) rfl rfl ?_
  intro Γ B R
  have tail : XJ Γ 0 0 (PS G a κ β m od oc) 24 [(0, .ref a), (1, vi r), (2, vi sz), (3, vi pr), (4, vi bf), (5, vi (m 3))] [vi bf, vi pr, vi sz, vi (m (56 + r)), vi r, .ref (bA a (m 3))] := by
    refine x_ex (ι := Value × Value × Value × Value × Value × Value × Value × Value × Value × Value) (P' := fun f H => PS G a κ β m od oc H ∧ oat G (bA a (m 3)) 0 [f.1, f.2.1, f.2.2.1, f.2.2.2.1, f.2.2.2.2.1, f.2.2.2.2.2.1, f.2.2.2.2.2.2.1, f.2.2.2.2.2.2.2.1, f.2.2.2.2.2.2.2.2.1, f.2.2.2.2.2.2.2.2.2] H) (fun H h => by
        obtain ⟨fs, e1, e2, -⟩ := h.1.1.2.2.2.2.2.2.2.2 (m 3) hn.1 hn.2
        obtain ⟨f0, f1, f2, f3, f4, f5, f6, f7, f8, f9, ef⟩ := len10 e2
        exact ⟨(f0, f1, f2, f3, f4, f5, f6, f7, f8, f9), h, by rw [← ef]; exact e1⟩) (fun f => ?_)
    refine x_callVg (ι := Unit) (v := fun _ => none) (P' := fun _ H => PS G a κ β m od oc H ∧ oat G (bA a (m 3)) 0 [vi r, vi (m (56 + r)), vi sz, vi pr, vi bf, vi 0, vi 0, vi 0, vi (-1), .float (FP.i2f (Int32.ofInt sz))] H) B mvX3_124 (fun l => c_X0_reset) dX3_addBatch_24 rfl rfl (by decide) (by decide) (Nat.le_of_ble_eq_true rfl) (fun q hq => by unfold AS; unfold bA at hq; omega) (fun H h => ⟨h.2, _, h.2⟩) (fun v' H H1 hp hpost hsz hq => ⟨(), hpost.1, hp.1.deadB hn.2 hpost.2 rfl (fun q q0 q1 => hq q (by have := hp.1.size; omega) q1), hpost.2⟩) (fun _ => ?_)
    refine x_aload_n B dX3_addBatch_27 rfl ?_
    refine x_dup B dX3_addBatch_28 rfl ?_
    refine x_getI B fgX3_57 dX3_addBatch_29 (fun H h => PS.g8 H h.1) (fun r29 => ?_)
    refine x_iconst B dX3_addBatch_32 ?_
    refine x_iadd B dX3_addBatch_33 ?_
    refine x_put (P' := PS G a κ β (s_batch m r sz pr bf) od oc) B fpX3_57 dX3_addBatch_34 rfl rfl (by unfold AS; omega) (fun H h => ⟨_, PS.o h.1, Nat.le_of_ble_eq_true rfl, fun H1 e _ hq => h.1.newB hn.2 hr h.2 h2 h3 h4 e hq⟩) ?_
    refine x_iload B dX3_addBatch_37 rfl ?_
    exact x_retI B R dX3_addBatch_39 (by first | rfl | omega) (by omega) (fun H h => by exact h)
  refine x_aload_n B dX3_addBatch_0 rfl ?_
  refine x_getI B fgX3_57 dX3_addBatch_1 PS.g8 (fun r1 => ?_)
  refine x_istore B dX3_addBatch_4 (by decide) ?_
  refine x_aload_n B dX3_addBatch_6 rfl ?_
  refine x_get B fgX3_19 dX3_addBatch_7 (fun _ h => ⟨_, PS.o h, rfl⟩) ?_
  refine x_iload B dX3_addBatch_10 rfl ?_
  refine x_aald (j := 4) B dX3_addBatch_12 rfl (by omega) (by decide) (PS.ab (by omega)) ?_
  refine x_iload_n B dX3_addBatch_13 rfl ?_
  refine x_aload_n B dX3_addBatch_14 rfl ?_
  refine x_get B fgX3_27 dX3_addBatch_15 (fun _ h => ⟨_, PS.o h, rfl⟩) ?_
  refine x_iload_n B dX3_addBatch_18 rfl ?_
  refine x_ialdR B dX3_addBatch_19 (by omega) (by decide) PS.av (fun r19 => ?_)
  refine x_iload_n B dX3_addBatch_20 rfl ?_
  refine x_iload_n B dX3_addBatch_21 rfl ?_
  refine x_iload B dX3_addBatch_22 rfl ?_
  exact x_locs (xl_cons rfl (xl_cons rfl (xl_cons rfl (xl_cons rfl (xl_cons rfl (xl_cons rfl xl_nil)))))) tail

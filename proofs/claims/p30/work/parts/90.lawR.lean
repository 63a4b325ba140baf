/-! ===== the law's small methods; rows for its calls of its own ===== -/
/-- a number below n, out of any number -/
def lw (v n : Int) : Int := v % 2147483648 % n
theorem lw_rg {v n : Int} (hn : 1 ≤ n) : 0 ≤ lw v n ∧ lw v n < n := ⟨Int.emod_nonneg _ (by omega), Int.emod_lt_of_pos _ (by omega)⟩
theorem i32_wrap (v : Int) : Int32.ofInt v = Int32.ofInt (v % 4294967296) := by
  apply Int32.toBitVec.inj
  show BitVec.ofInt 32 v = BitVec.ofInt 32 (v % 4294967296)
  apply BitVec.eq_of_toNat_eq
  simp only [BitVec.toNat_ofInt]
  congr 1
  have : ((2 ^ 32 : Nat) : Int) = 4294967296 := rfl
  omega
theorem i32_low (v : Int) : Int32.ofInt v &&& Int32.ofInt 2147483647 = Int32.ofInt (v % 2147483648) := by
  rw [i32_wrap v, i32_mask 31 2147483647 rfl (by omega)]
  congr 1
  have : ((2 ^ 31 : Nat) : Int) = 2147483648 := rfl
  omega
theorem c_L_low {G : xG} {l : Launch} {P : Heap → Prop} {A : Nat → Prop} {v n : Int} (h1 : 1 ≤ n ∧ n < 2147483648) : CT G l yL_low cL_low 2 (some .int) ({ frames := 0, cells := 0, slots := 0, locals := 0 } : Room) 0 0 [vi v, vi n] P (pI (lw v n) P) A := by
  refine x_met1 (own := RL) (nm := "low") (L := [(0, vi v), (1, vi n)]) (by decide) rfl rfl (fun _ => rfl) (Nat.le_of_ble_eq_true rfl) rfl rfl ?_
  intro Γ B R
  have hr := lw_rg (v := v) (n := n) h1.1
  refine x_iload_n B dL_low_0 rfl ?_
  refine x_ldc (n := 2147483647) B dL_low_1 ckL_8 rfl ?_
  refine x_iand (w := v % 2147483648) B dL_low_3 (i32_low v) ?_
  refine x_iload_n B dL_low_4 rfl ?_
  refine x_irem B dL_low_5 (by omega) (by omega) ?_
  exact x_retI B R dL_low_6 (by rfl) (by omega) (fun H h => by exact h)
section XLR
variable {Γ : xE} {G : xG} {cc : ByteArray} {own : String} {nL : Nat} {rm : Room} {A : Nat → Prop} {kc ks pc : Nat} {P : Heap → Prop} {L : List (Nat × Value)} {st st0 : List Value} {idx e : Nat} {y : MethodName} {bytes : ByteArray} {nL' : Nat} {rm' : Room} {As : List Value} {m : Int → Int} {ρ : Nat → Int → Int}
theorem x_low (B : XB Γ G cc own nL rm A) {v n : Int} (lk : LkS own idx yL_low cL_low 2 (some .int) 2) (d : decode cc pc = .ok (.invokestatic idx, 3)) (hn : 1 ≤ n ∧ n < 2147483648) (hR : (({ frames := 0, cells := 0, slots := 0, locals := 0 } : Room)).frames + 1 ≤ rm.frames ∧ 8 + (2 + 11) + (({ frames := 0, cells := 0, slots := 0, locals := 0 } : Room)).locals ≤ rm.locals) (hf : kc ≤ rm.cells ∧ ks ≤ rm.slots) (hw : (st.map fun v => v.category).sum ≤ 8)
    (kk : (0 ≤ lw v n ∧ lw v n < n) → XJ Γ kc ks P (pc + 3) L (vi (lw v n) :: st)) : XJ Γ kc ks P pc L (vi n :: vi v :: st) :=
  x_sV (P' := P) (As := [vi v, vi n]) B lk (fun l => c_L_low hn) d rfl rfl ⟨rfl, rfl, hR.1, hR.2⟩ hf hw (fun _ => kk (lw_rg hn.1))
/-- any number that a shift leaves -/
theorem x_shrA (B : XB Γ G cc own nL rm A) {x y : Int} (d : decode cc pc = .ok (.ishr, 1)) (k : ∀ w : Int, -2147483648 ≤ w ∧ w < 2147483648 → XJ Γ kc ks P (pc + 1) L (vi w :: st)) : XJ Γ kc ks P pc L (vi y :: vi x :: st) := by
  have h1 := Int32.le_toInt (Int32.ofInt x >>> (Int32.ofInt y &&& 31))
  have h2 := Int32.toInt_lt (Int32.ofInt x >>> (Int32.ofInt y &&& 31))
  exact x_ishr (w := (Int32.ofInt x >>> (Int32.ofInt y &&& 31)).toInt) B d (by rw [Int32.ofInt_toInt]) (k _ (by omega))
/-- a look of the law that finds all well -/
theorem x_lb (B : XB Γ G cc own nL rm A) {n : Nat} (lk : LkS own idx y bytes nL' (some .boolean) n) (hM : ∀ l, CT G l y bytes nL' (some .boolean) rm' 0 0 As (PE G e m ρ) (pZ True (PE G e m ρ)) (AE e))
    (d : decode cc pc = .ok (.invokestatic idx, 3)) (hst : st0 = As.reverse ++ st) (hn : As.length = n) (hR : rm'.cells = 0 ∧ rm'.slots = 0 ∧ rm'.frames + 1 ≤ rm.frames ∧ 8 + (nL' + 11) + rm'.locals ≤ rm.locals)
    (hf : kc ≤ rm.cells ∧ ks ≤ rm.slots) (hw : (st.map fun v => v.category).sum ≤ 8) (hAA : ∀ q, AE e q → A q)
    (kk : XJ Γ kc ks (PE G e m ρ) (pc + 3) L (vi 1 :: st)) : XJ Γ kc ks (PE G e m ρ) pc L st0 :=
  x_callSg B lk hM d hst hn hR hf hw hAA (fun H h => h) (ι := Unit) (v := fun _ => some (vi 1)) (P' := fun _ => PE G e m ρ) (fun v' H H1 _ h _ _ => ⟨(), h.1, h.2⟩) (fun _ => kk)
/-- what the law holds between two steps, behind one -/
def NX (m : Int → Int) (i : (Int → Int) × (Nat → Int → Int)) : Prop := OK i.1 i.2 ∧ i.1 2 = m 2 ∧ m 1 ≤ i.1 1 ∧ i.1 1 ≤ m 1 + 40
def PX (G : xG) (e : Nat) (m : Int → Int) (H : Heap) : Prop := ∃ i : (Int → Int) × (Nat → Int → Int), NX m i ∧ PE G e i.1 i.2 H
/-- a step of the law that finds all well -/
theorem x_lx (B : XB Γ G cc own nL rm A) {n : Nat} (lk : LkS own idx y bytes nL' (some .boolean) n) (hM : ∀ l, CT G l y bytes nL' (some .boolean) rm' 0 0 As (PE G e m ρ) (pZ True (PX G e m)) (AE e))
    (d : decode cc pc = .ok (.invokestatic idx, 3)) (hst : st0 = As.reverse ++ st) (hn : As.length = n) (hR : rm'.cells = 0 ∧ rm'.slots = 0 ∧ rm'.frames + 1 ≤ rm.frames ∧ 8 + (nL' + 11) + rm'.locals ≤ rm.locals)
    (hf : kc ≤ rm.cells ∧ ks ≤ rm.slots) (hw : (st.map fun v => v.category).sum ≤ 8) (hAA : ∀ q, AE e q → A q)
    (kk : ∀ m' ρ', OK m' ρ' → (m' 2 = m 2 ∧ m 1 ≤ m' 1 ∧ m' 1 ≤ m 1 + 40) → XJ Γ kc ks (PE G e m' ρ') (pc + 3) L (vi 1 :: st)) : XJ Γ kc ks (PE G e m ρ) pc L st0 :=
  x_callSg B lk hM d hst hn hR hf hw hAA (fun H h => h) (ι := { i : (Int → Int) × (Nat → Int → Int) // NX m i }) (v := fun _ => some (vi 1)) (P' := fun i => PE G e i.1.1 i.1.2) (fun v' H H1 _ h _ _ => by
    obtain ⟨h1, i, h2, h3⟩ := h
    exact ⟨⟨i, h2⟩, h1, h3⟩) (fun i => kk i.1.1 i.1.2 i.2.1 i.2.2)
/-- the end of a step -/
theorem x_lret (B : XB Γ G cc own nL rm A) {nm : String} {m' : Int → Int} {ρ' : Nat → Int → Int} {z : Int} (R : XR Γ nm (some .boolean) kc ks (xQ (pZ True (PX G e m)) A)) (d : decode cc pc = .ok (.ireturn, 1)) (hz : z = 1) (ho : OK m' ρ') (h : m' 2 = m 2 ∧ m 1 ≤ m' 1 ∧ m' 1 ≤ m 1 + 40) : XJ Γ kc ks (PE G e m' ρ') pc L [vi z] := by
  subst hz
  exact x_retZ B R d (bz_t trivial).symm (fun H hP => ⟨(m', ρ'), ⟨ho, h⟩, hP⟩)
theorem x_bret (B : XB Γ G cc own nL rm A) {nm : String} {z : Int} (R : XR Γ nm (some .boolean) kc ks (xQ (pZ True (PE G e m ρ)) A)) (d : decode cc pc = .ok (.ireturn, 1)) (hz : z = 1) : XJ Γ kc ks (PE G e m ρ) pc L [vi z] := by
  subst hz
  exact x_retZ B R d (bz_t trivial).symm (fun H hP => hP)
end XLR
section LPUT
variable {G : xG} {l : Launch} {e : Nat} {m : Int → Int} {ρ : Nat → Int → Int} {c : Int}
theorem c_L_put (h1 : IL m ρ) (h2 : 32 ≤ c ∧ c ≤ 126) (h3 : ρ 5 1 < 100) : CT G l yL_put cL_put 2 (some .int) ({ frames := 2, cells := 0, slots := 0, locals := 43 } : Room) 0 0 [.ref e, vi c] (PE G e m ρ) (pI 1 (PE G e m (txp ρ c))) (AE e) := by
  refine x_met1 (own := RL) (nm := "put") (L := [(0, .ref e), (1, vi c)]) (by decide) rfl rfl (fun _ => rfl) (Nat.le_of_ble_eq_true rfl) rfl rfl ?_
  intro Γ B R
  have h4 := h1.2.2.1.2
  refine x_aload_n B dL_put_0 rfl ?_
  refine x_iload_n B dL_put_1 rfl ?_
  refine x_qd B mvL_43 (q_type (by first | assumption | omega) (by first | assumption | omega) (by first | assumption | omega)) dL_put_2 rfl rfl (by decide) (by decide) (Nat.le_of_ble_eq_true rfl) (fun _ h => h) (fun r2 => ?_)
  refine x_if_le (tgt := 12) B dL_put_5 (by decide) (by omega) (fun c5 => ?_) (fun c5 => ?_)
  · exfalso; omega
  · refine x_iconst B dL_put_8 ?_
    refine x_goto (tgt := 15) B dL_put_9 (by decide) ?_
    exact x_retI B R dL_put_15 (by first | rfl | omega) (by omega) (fun H h => by exact h)
end LPUT
theorem x_lput {Γ : xE} {G : xG} {cc : ByteArray} {own : String} {nL : Nat} {rm : Room} {A : Nat → Prop} {kc ks pc : Nat} {L : List (Nat × Value)} {st : List Value} {idx e : Nat} {m : Int → Int} {ρ : Nat → Int → Int} {c : Int} {T0 : Int → Int} {n0 : Int} {l0 : List Int} (B : XB Γ G cc own nL rm A) (lk : LkS own idx yL_put cL_put 2 (some .int) 2) (d : decode cc pc = .ok (.invokestatic idx, 3)) (ho : OK m ρ) (ha : Ap T0 n0 l0 ρ) (hc : 32 ≤ c ∧ c ≤ 126) (hl : n0 + l0.length < 100) (hR : (({ frames := 2, cells := 0, slots := 0, locals := 43 } : Room)).frames + 1 ≤ rm.frames ∧ 8 + (2 + 11) + (({ frames := 2, cells := 0, slots := 0, locals := 43 } : Room)).locals ≤ rm.locals) (hf : kc ≤ rm.cells ∧ ks ≤ rm.slots) (hw : (st.map fun v => v.category).sum ≤ 8) (hAA : ∀ q, AE e q → A q)
    (kk : ∀ ρ', OK m ρ' → Ap T0 n0 (l0 ++ [c]) ρ' → XJ Γ kc ks (PE G e m ρ') (pc + 3) L (vi 1 :: st)) : XJ Γ kc ks (PE G e m ρ) pc L (vi c :: .ref e :: st) := by
  have hl' : ρ 5 1 < 100 := by rw [ha.1]; exact hl
  exact x_callSg B lk (fun l => c_L_put ho.I hc hl') d (As := [.ref e, vi c]) rfl rfl ⟨rfl, rfl, hR.1, hR.2⟩ hf hw hAA (fun H h => h) (ι := Unit) (v := fun _ => some (vi 1)) (P' := fun _ => PE G e m (txp ρ c)) (fun v' H H1 _ h _ _ => ⟨(), h.1, h.2.2⟩) (fun _ => kk _ (ho.txp hc hl') ha.put)

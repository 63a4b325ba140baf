/-! ===== rows as the walks use them: numbers come with their range, booleans as propositions ===== -/
def bz (c : Prop) [Decidable c] : Int := if c then 1 else 0
theorem bz_t {c : Prop} [Decidable c] (h : c) : bz c = 1 := if_pos h
theorem bz_f {c : Prop} [Decidable c] (h : ¬ c) : bz c = 0 := if_neg h
theorem bz_ne {c : Prop} [Decidable c] : bz c ≠ 0 ↔ c := by
  unfold bz
  by_cases h : c <;> simp [h]
theorem bz_rg (c : Prop) [Decidable c] : 0 ≤ bz c ∧ bz c ≤ 1 := by
  unfold bz
  by_cases h : c <;> simp [h]
/-- a method's end: an int, a boolean, nothing -/
def pI (r : Int) (P : Heap → Prop) : Option Value → Heap → Prop := fun v H => v = some (vi r) ∧ (-2147483648 ≤ r ∧ r < 2147483648) ∧ P H
def pZ (c : Prop) [Decidable c] (P : Heap → Prop) : Option Value → Heap → Prop := fun v H => v = some (vi (bz c)) ∧ P H
def pV (P : Heap → Prop) : Option Value → Heap → Prop := fun v H => v = none ∧ P H
section XR7
variable {Γ : xE} {G : xG} {cc : ByteArray} {own : String} {nL : Nat} {rm : Room} {A : Nat → Prop} {kc ks pc : Nat} {P : Heap → Prop} {L : List (Nat × Value)} {st st0 : List Value}
variable {idx : Nat} {y : MethodName} {bytes : ByteArray} {nL' : Nat} {ret : Option FieldType} {ci n : Nat} {rm' : Room} {b : Nat} {As : List Value} {P' : Heap → Prop}
/-- a number's other name -/
theorem x_nm {x : Int} (k : ∀ z : Int, z = x → XJ Γ kc ks P pc L (vi z :: st)) : XJ Γ kc ks P pc L (vi x :: st) := k x rfl
theorem x_getI (B : XB Γ G cc own nL rm A) {k a : Nat} {z : Int} (lk : LkG own idx ci k) (d : decode cc pc = .ok (.getfield idx, 3)) (hv : ∀ H, P H → ∃ fs, oat G a ci fs H ∧ fs[k]? = some (vi z) ∧ (-2147483648 ≤ z ∧ z < 2147483648))
    (kk : (-2147483648 ≤ z ∧ z < 2147483648) → XJ Γ kc ks P (pc + 3) L (vi z :: st)) : XJ Γ kc ks P pc L (.ref a :: st) :=
  x_fact (φ := -2147483648 ≤ z ∧ z < 2147483648) (fun H h => (hv H h).choose_spec.2.2) (fun h => x_get B lk d (fun H hp => ⟨(hv H hp).choose, (hv H hp).choose_spec.1, (hv H hp).choose_spec.2.1⟩) (kk h))
theorem x_ialdR (B : XB Γ G cc own nL rm A) {a n : Nat} {f : Int → Int} {z : Int} (d : decode cc pc = .ok (.iaload, 1)) (hz : 0 ≤ z ∧ z < n) (hn : n ≤ 2147483647) (hv : ∀ H, P H → aat G 0 a n f H ∧ ∀ k, -2147483648 ≤ f k ∧ f k < 2147483648)
    (kk : (-2147483648 ≤ f z ∧ f z < 2147483648) → XJ Γ kc ks P (pc + 1) L (vi (f z) :: st)) : XJ Γ kc ks P pc L (vi z :: .ref a :: st) :=
  x_fact (fun H h => (hv H h).2 z) (fun h => x_iald B d hz hn (fun H hp => (hv H hp).1) (kk h))
theorem x_mV (B : XB Γ G cc own nL rm A) {r : Int} (lk : LkV own idx y bytes nL' ret ci n) (hM : ∀ l, CT G l y bytes nL' ret rm' 0 0 (.ref b :: As) P (pI r P') A)
    (d : decode cc pc = .ok (.invokevirtual idx, 3)) (hst : st0 = As.reverse ++ .ref b :: st) (hn : As.length = n) (hR : rm'.cells = 0 ∧ rm'.slots = 0 ∧ rm'.frames + 1 ≤ rm.frames ∧ 8 + (nL' + 11) + rm'.locals ≤ rm.locals)
    (hf : kc ≤ rm.cells ∧ ks ≤ rm.slots) (hw : (st.map fun v => v.category).sum ≤ 8) (hP : ∀ H, P H → ∃ fs, oat G b ci fs H)
    (kk : (-2147483648 ≤ r ∧ r < 2147483648) → XJ Γ kc ks P' (pc + 3) L (vi r :: st)) : XJ Γ kc ks P pc L st0 :=
  x_callVg B lk hM d hst hn hR hf hw (fun _ h => h) (fun H h => ⟨h, hP H h⟩) (ι := PLift (-2147483648 ≤ r ∧ r < 2147483648)) (v := fun _ => some (vi r)) (P' := fun _ => P') (fun v' H H1 _ h _ _ => ⟨⟨h.2.1⟩, h.1, h.2.2⟩) (fun i => kk i.down)
theorem x_mZ (B : XB Γ G cc own nL rm A) {c : Prop} [Decidable c] (lk : LkV own idx y bytes nL' ret ci n) (hM : ∀ l, CT G l y bytes nL' ret rm' 0 0 (.ref b :: As) P (pZ c P') A)
    (d : decode cc pc = .ok (.invokevirtual idx, 3)) (hst : st0 = As.reverse ++ .ref b :: st) (hn : As.length = n) (hR : rm'.cells = 0 ∧ rm'.slots = 0 ∧ rm'.frames + 1 ≤ rm.frames ∧ 8 + (nL' + 11) + rm'.locals ≤ rm.locals)
    (hf : kc ≤ rm.cells ∧ ks ≤ rm.slots) (hw : (st.map fun v => v.category).sum ≤ 8) (hP : ∀ H, P H → ∃ fs, oat G b ci fs H)
    (kk : XJ Γ kc ks P' (pc + 3) L (vi (bz c) :: st)) : XJ Γ kc ks P pc L st0 :=
  x_callVg B lk hM d hst hn hR hf hw (fun _ h => h) (fun H h => ⟨h, hP H h⟩) (ι := Unit) (v := fun _ => some (vi (bz c))) (P' := fun _ => P') (fun v' H H1 _ h _ _ => ⟨(), h.1, h.2⟩) (fun _ => kk)
theorem x_mN (B : XB Γ G cc own nL rm A) (lk : LkV own idx y bytes nL' ret ci n) (hM : ∀ l, CT G l y bytes nL' ret rm' 0 0 (.ref b :: As) P (pV P') A)
    (d : decode cc pc = .ok (.invokevirtual idx, 3)) (hst : st0 = As.reverse ++ .ref b :: st) (hn : As.length = n) (hR : rm'.cells = 0 ∧ rm'.slots = 0 ∧ rm'.frames + 1 ≤ rm.frames ∧ 8 + (nL' + 11) + rm'.locals ≤ rm.locals)
    (hf : kc ≤ rm.cells ∧ ks ≤ rm.slots) (hw : (st.map fun v => v.category).sum ≤ 8) (hP : ∀ H, P H → ∃ fs, oat G b ci fs H)
    (kk : XJ Γ kc ks P' (pc + 3) L st) : XJ Γ kc ks P pc L st0 :=
  x_callVg B lk hM d hst hn hR hf hw (fun _ h => h) (fun H h => ⟨h, hP H h⟩) (ι := Unit) (v := fun _ => none) (P' := fun _ => P') (fun v' H H1 _ h _ _ => ⟨(), h.1, h.2⟩) (fun _ => kk)
theorem x_sV (B : XB Γ G cc own nL rm A) {r : Int} (lk : LkS own idx y bytes nL' ret n) (hM : ∀ l, CT G l y bytes nL' ret rm' 0 0 As P (pI r P') A)
    (d : decode cc pc = .ok (.invokestatic idx, 3)) (hst : st0 = As.reverse ++ st) (hn : As.length = n) (hR : rm'.cells = 0 ∧ rm'.slots = 0 ∧ rm'.frames + 1 ≤ rm.frames ∧ 8 + (nL' + 11) + rm'.locals ≤ rm.locals)
    (hf : kc ≤ rm.cells ∧ ks ≤ rm.slots) (hw : (st.map fun v => v.category).sum ≤ 8)
    (kk : (-2147483648 ≤ r ∧ r < 2147483648) → XJ Γ kc ks P' (pc + 3) L (vi r :: st)) : XJ Γ kc ks P pc L st0 :=
  x_callSg B lk hM d hst hn hR hf hw (fun _ h => h) (fun H h => h) (ι := PLift (-2147483648 ≤ r ∧ r < 2147483648)) (v := fun _ => some (vi r)) (P' := fun _ => P') (fun v' H H1 _ h _ _ => ⟨⟨h.2.1⟩, h.1, h.2.2⟩) (fun i => kk i.down)
theorem x_sZ (B : XB Γ G cc own nL rm A) {c : Prop} [Decidable c] (lk : LkS own idx y bytes nL' ret n) (hM : ∀ l, CT G l y bytes nL' ret rm' 0 0 As P (pZ c P') A)
    (d : decode cc pc = .ok (.invokestatic idx, 3)) (hst : st0 = As.reverse ++ st) (hn : As.length = n) (hR : rm'.cells = 0 ∧ rm'.slots = 0 ∧ rm'.frames + 1 ≤ rm.frames ∧ 8 + (nL' + 11) + rm'.locals ≤ rm.locals)
    (hf : kc ≤ rm.cells ∧ ks ≤ rm.slots) (hw : (st.map fun v => v.category).sum ≤ 8)
    (kk : XJ Γ kc ks P' (pc + 3) L (vi (bz c) :: st)) : XJ Γ kc ks P pc L st0 :=
  x_callSg B lk hM d hst hn hR hf hw (fun _ h => h) (fun H h => h) (ι := Unit) (v := fun _ => some (vi (bz c))) (P' := fun _ => P') (fun v' H H1 _ h _ _ => ⟨(), h.1, h.2⟩) (fun _ => kk)
theorem x_sN (B : XB Γ G cc own nL rm A) (lk : LkS own idx y bytes nL' ret n) (hM : ∀ l, CT G l y bytes nL' ret rm' 0 0 As P (pV P') A)
    (d : decode cc pc = .ok (.invokestatic idx, 3)) (hst : st0 = As.reverse ++ st) (hn : As.length = n) (hR : rm'.cells = 0 ∧ rm'.slots = 0 ∧ rm'.frames + 1 ≤ rm.frames ∧ 8 + (nL' + 11) + rm'.locals ≤ rm.locals)
    (hf : kc ≤ rm.cells ∧ ks ≤ rm.slots) (hw : (st.map fun v => v.category).sum ≤ 8)
    (kk : XJ Γ kc ks P' (pc + 3) L st) : XJ Γ kc ks P pc L st0 :=
  x_callSg B lk hM d hst hn hR hf hw (fun _ h => h) (fun H h => h) (ι := Unit) (v := fun _ => none) (P' := fun _ => P') (fun v' H H1 _ h _ _ => ⟨(), h.1, h.2⟩) (fun _ => kk)
theorem x_ifz_eq (B : XB Γ G cc own nL rm A) {c : Prop} [Decidable c] {off : Int} {tgt : Nat} (d : decode cc pc = .ok (.ifCond .eq off, 3)) (ht : (pc : Int) + off = (tgt : Int))
    (kt : ¬ c → XJ Γ kc ks P tgt L st) (kf : c → XJ Γ kc ks P (pc + 3) L st) : XJ Γ kc ks P pc L (vi (bz c) :: st) :=
  x_if_eq B d ht (by have := bz_rg c; omega) (fun h => kt (fun q => by rw [bz_t q] at h; omega)) (fun h => kf (bz_ne.mp h))
theorem x_ifz_ne (B : XB Γ G cc own nL rm A) {c : Prop} [Decidable c] {off : Int} {tgt : Nat} (d : decode cc pc = .ok (.ifCond .ne off, 3)) (ht : (pc : Int) + off = (tgt : Int))
    (kt : c → XJ Γ kc ks P tgt L st) (kf : ¬ c → XJ Γ kc ks P (pc + 3) L st) : XJ Γ kc ks P pc L (vi (bz c) :: st) :=
  x_if_ne B d ht (by have := bz_rg c; omega) (fun h => kt (bz_ne.mp h)) (fun h => kf (fun q => by rw [bz_t q] at h; omega))
theorem x_retI (B : XB Γ G cc own nL rm A) {nm : String} {r z : Int} (R : XR Γ nm (some .int) kc ks (xQ (pI r P') A)) (d : decode cc pc = .ok (.ireturn, 1)) (he : z = r) (hr : -2147483648 ≤ r ∧ r < 2147483648) (hq : ∀ H, P H → P' H) : XJ Γ kc ks P pc L [vi z] :=
  x_iret B R d (fun H h => ⟨by rw [he], hr, hq H h⟩)
theorem x_retZ (B : XB Γ G cc own nL rm A) {nm : String} {c : Prop} [Decidable c] {z : Int} (R : XR Γ nm (some .boolean) kc ks (xQ (pZ c P') A)) (d : decode cc pc = .ok (.ireturn, 1)) (he : z = bz c) (hq : ∀ H, P H → P' H) : XJ Γ kc ks P pc L [vi z] :=
  x_zret B R d (by
    rw [he]
    by_cases h : c
    · rw [bz_t h]; rfl
    · rw [bz_f h]; rfl) (fun H h => ⟨by rw [he], hq H h⟩)
theorem x_retV (B : XB Γ G cc own nL rm A) {nm : String} (R : XR Γ nm none kc ks (xQ (pV P') A)) (d : decode cc pc = .ok (.return_, 1)) (hq : ∀ H, P H → P' H) : XJ Γ kc ks P pc L [] :=
  x_vret B R d (fun H h => ⟨rfl, hq H h⟩)
theorem x_dup2 (B : XB Γ G cc own nL rm A) {v w : Value} (d : decode cc pc = .ok (.dup2, 1)) (hv : v.category = 1) (hw : w.category = 1) (k : XJ Γ kc ks P (pc + 1) L (v :: w :: v :: w :: st)) : XJ Γ kc ks P pc L (v :: w :: st) := by
  obtain ⟨p, l, e, R, s, m, args, below, meth, c, A', Q⟩ := Γ
  obtain ⟨hx, hb, hml, -⟩ := B
  intro H locs ls hP hS hL
  exact lv_dup2_11 hx hb d hv hw (k H locs ls hP hS hL)
theorem x_pop (B : XB Γ G cc own nL rm A) {v : Value} (d : decode cc pc = .ok (.pop, 1)) (hv : v.category = 1) (k : XJ Γ kc ks P (pc + 1) L st) : XJ Γ kc ks P pc L (v :: st) := by
  obtain ⟨p, l, e, R, s, m, args, below, meth, c, A', Q⟩ := Γ
  obtain ⟨hx, hb, hml, -⟩ := B
  intro H locs ls hP hS hL
  exact lv_pop hx hb d hv (k H locs ls hP hS hL)
theorem x_iand (B : XB Γ G cc own nL rm A) {x y w : Int} (d : decode cc pc = .ok (.iand, 1)) (hv : Int32.ofInt x &&& Int32.ofInt y = Int32.ofInt w) (k : XJ Γ kc ks P (pc + 1) L (vi w :: st)) : XJ Γ kc ks P pc L (vi y :: vi x :: st) := by
  obtain ⟨p, l, e, R, s, m, args, below, meth, c, A', Q⟩ := Γ
  obtain ⟨hx, hb, hml, -⟩ := B
  intro H locs ls hP hS hL
  refine lv_iand hx hb d ?_
  rw [hv]
  exact k H locs ls hP hS hL
theorem x_ior (B : XB Γ G cc own nL rm A) {x y w : Int} (d : decode cc pc = .ok (.ior, 1)) (hv : Int32.ofInt x ||| Int32.ofInt y = Int32.ofInt w) (k : XJ Γ kc ks P (pc + 1) L (vi w :: st)) : XJ Γ kc ks P pc L (vi y :: vi x :: st) := by
  obtain ⟨p, l, e, R, s, m, args, below, meth, c, A', Q⟩ := Γ
  obtain ⟨hx, hb, hml, -⟩ := B
  intro H locs ls hP hS hL
  refine lv_ior hx hb d ?_
  rw [hv]
  exact k H locs ls hP hS hL
theorem x_ishl (B : XB Γ G cc own nL rm A) {x y w : Int} (d : decode cc pc = .ok (.ishl, 1)) (hv : Int32.ofInt x <<< (Int32.ofInt y &&& 31) = Int32.ofInt w) (k : XJ Γ kc ks P (pc + 1) L (vi w :: st)) : XJ Γ kc ks P pc L (vi y :: vi x :: st) := by
  obtain ⟨p, l, e, R, s, m, args, below, meth, c, A', Q⟩ := Γ
  obtain ⟨hx, hb, hml, -⟩ := B
  intro H locs ls hP hS hL
  refine lv_ishl hx hb d ?_
  rw [hv]
  exact k H locs ls hP hS hL
theorem x_ishr (B : XB Γ G cc own nL rm A) {x y w : Int} (d : decode cc pc = .ok (.ishr, 1)) (hv : Int32.ofInt x >>> (Int32.ofInt y &&& 31) = Int32.ofInt w) (k : XJ Γ kc ks P (pc + 1) L (vi w :: st)) : XJ Γ kc ks P pc L (vi y :: vi x :: st) := by
  obtain ⟨p, l, e, R, s, m, args, below, meth, c, A', Q⟩ := Γ
  obtain ⟨hx, hb, hml, -⟩ := B
  intro H locs ls hP hS hL
  refine lv_ishr hx hb d ?_
  rw [hv]
  exact k H locs ls hP hS hL
theorem x_tsw (B : XB Γ G cc own nL rm A) {dflt lo hi : Int} {offs : Array Int} {len : Nat} {x : Int} {tgt : Nat} {tgs : List Nat} {n : Nat} (d : decode cc pc = .ok (.tableswitch dflt lo hi offs, len)) (ht : (pc : Int) + dflt = (tgt : Int)) (hts : offs.toList.map (fun o : Int => (pc : Int) + o) = tgs.map (fun t : Nat => (t : Int))) (hn : tgs.length = n) (hlh : hi - lo + 1 = (n : Int)) (hx : -2147483648 ≤ x ∧ x < 2147483648)
    (kout : x < lo ∨ hi < x → XJ Γ kc ks P tgt L st) (kin : ∀ i : Nat, i < n → x = lo + (i : Int) → XJ Γ kc ks P (tgs.getD i 0) L st) : XJ Γ kc ks P pc L (vi x :: st) := by
  obtain ⟨p, l, e, R, s, m, args, below, meth, c, A', Q⟩ := Γ
  obtain ⟨hx0, hb, hml, -⟩ := B
  intro H locs ls hP hS hL
  have e0 : (Int32.ofInt x).toInt = x := Int32.toInt_ofInt_of_le (by omega) (by omega)
  by_cases h : x < lo ∨ hi < x
  · exact lv_tableOut hx0 hb d (by rw [e0]; exact h) ht (kout h H locs ls hP hS hL)
  · have hlo : lo ≤ x := by omega
    have hhi : x ≤ hi := by omega
    have hi1 : (x - lo).toNat < n := by omega
    have h1 : (offs.toList.map (fun o => (pc : Int) + o))[(x - lo).toNat]? = some ((tgs.getD (x - lo).toNat 0 : Nat) : Int) := by
      rw [hts, List.getElem?_map, List.getElem?_eq_getElem (by omega : (x - lo).toNat < tgs.length)]
      simp [List.getD, List.getElem?_eq_getElem (by omega : (x - lo).toNat < tgs.length)]
    rw [List.getElem?_map] at h1
    cases ho : offs.toList[(x - lo).toNat]? with
    | none => rw [ho] at h1; cases h1
    | some off =>
      rw [ho] at h1
      have h2 : (pc : Int) + off = ((tgs.getD (x - lo).toNat 0 : Nat) : Int) := Option.some.inj h1
      exact lv_tableIn hx0 hb d (by rw [e0]; omega) (by rw [e0]; omega) (by rw [e0, ← Array.getElem?_toList]; exact ho) h2 (kin (x - lo).toNat hi1 (by omega) H locs ls hP hS hL)
end XR7
theorem x_met1 {G : xG} {l : Launch} {y : MethodName} {cc : ByteArray} {nL : Nat} {ret : Option FieldType} {rm : Room} {mc ms : Nat} {av : List Value} {P : Heap → Prop} {post : Option Value → Heap → Prop} {A : Nat → Prop} {own nm : String} {L : List (Nat × Value)}
    (hp : plainName y.cls = true) (ho : y.cls = own) (hnm : y.name = nm) (hrm : ∀ ws, (headSpec ws rm).room = rm) (hn : (lg_sl av).length ≤ nL) (hL : lv_args 0 av = L) (hc : L.all (fun q => Nat.beq q.2.category 1) = true)
    (body : ∀ Γ : xE, XB Γ G cc own nL rm A → XR Γ nm ret mc ms (xQ post A) → XJ Γ 0 0 P 0 L []) : CT G l y cc nL ret rm mc ms av P post A := by
  subst ho
  subst hnm
  exact x_met hp hrm hn hL (fun q hq => Nat.eq_of_beq_eq_true (List.all_eq_true.mp hc q hq)) (fun Γ _ B R => body Γ B R)
theorem xl_nil {L : List (Nat × Value)} : ∀ q ∈ ([] : List (Nat × Value)), lget L q.1 = some q.2 := fun _ h => by cases h
theorem xl_cons {L L' : List (Nat × Value)} {i : Nat} {v : Value} (h : lget L i = some v) (h' : ∀ q ∈ L', lget L q.1 = some q.2) : ∀ q ∈ (i, v) :: L', lget L q.1 = some q.2 := fun q hq => by
  rcases List.mem_cons.mp hq with e | e
  · rw [e]; exact h
  · exact h' q e
/-- the locals in another order, or fewer -/
theorem x_locs {Γ : xE} {kc ks pc : Nat} {P : Heap → Prop} {L L' : List (Nat × Value)} {st : List Value} (h : ∀ q ∈ L', lget L q.1 = some q.2) (k : XJ Γ kc ks P pc L' st) : XJ Γ kc ks P pc L st :=
  x_loc (fun q hq => lget_mem (h q hq)) k

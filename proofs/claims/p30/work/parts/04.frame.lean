/-! ===== the frame of this proof: numbers as Int, entries of the heap, a judgement over a predicate of the heap ===== -/
def vi (z : Int) : Value := .int (Int32.ofInt z)
abbrev xG : Type := va_G × (Nat → ClassId)
def xTys (G : xG) : List (ClassId × FieldType) := [(G.2 0, .int), (G.2 1, .char), (G.2 2, .array .int), (G.2 3, .object "BatchExecutive$Unit"), (G.2 4, .object "BatchExecutive$Batch"), (G.2 5, .object "BatchExecutive$State")]
/-- an array of arrays: as va_AO, over an array type -/
def xAOA (t : FieldType) (U : State) : Prop := (Cond.arrayOver (.array t)).before #[] U = true
theorem xAOA.moved {t : FieldType} {u U : State} (hvm : u.vm.Alike U.vm) (h : xAOA t u) : xAOA t U := by
  have h1 : (Cond.arrayOver (.array t)).before #[] (u.setVm U.vm) = true := by rw [Cond.arrayOver_setVmC hvm]; exact h
  exact h1
/-- the words of the tables that no list of words may hold: links of nest mates, arrays of references -/
def xN (U : State) : Prop := (va_Nw (.methodLinkNest RX6 9 yX1_init RX6) U ∧ va_Nw (.methodLinkNest RX6 18 yX4_init RX6) U ∧ va_Nw (.methodLinkNest RX3 32 yX2_init RX6) U ∧ va_Nw (.methodLinkNest RX3 48 yX5_init RX6) U ∧ va_Nw (.methodLinkNest RX3 49 yX0_init RX6) U ∧ va_Nw (.methodLinkNest RX4 69 yX6_oneIf RX6) U ∧ va_Nw (.methodLinkNest RX3 195 yX6_isPiece RX6) U) ∧
  va_AO "BatchExecutive$Unit" U ∧ va_AO "BatchExecutive$Batch" U ∧ va_AO "BatchExecutive$State" U ∧ xAOA .int U
theorem xN.warm {s U : State} (hW : s.WarmedH U.vm) (h : xN s) : xN U := by
  obtain ⟨⟨h1, h2, h3, h4, h5, h6, hp⟩, h7, h8, h9, h10⟩ := h
  exact ⟨⟨h1.warmM hW, h2.warmM hW, h3.warmM hW, h4.warmM hW, h5.warmM hW, h6.warmM hW, hp.warmM hW⟩, h7.moved hW.alike, h8.moved hW.alike, h9.moved hW.alike, h10.moved hW.alike⟩
theorem xN.same {s U : State} (e : s.vm = U.vm) (h : xN s) : xN U := by
  obtain ⟨⟨h1, h2, h3, h4, h5, h6, hp⟩, h7, h8, h9, h10⟩ := h
  have ha : s.vm.Alike U.vm := by rw [e]; exact Vm.Alike.refl _
  exact ⟨⟨h1.same rfl e, h2.same rfl e, h3.same rfl e, h4.same rfl e, h5.same rfl e, h6.same rfl e, hp.same rfl e⟩, h7.moved ha, h8.moved ha, h9.moved ha, h10.moved ha⟩
def xK (G : xG) (U : State) : Prop := va_K G.1 vwCl (xTys G) U ∧ xN U
theorem xK.warm {G : xG} {s U : State} (hW : s.WarmedH U.vm) (h : xK G s) : xK G U := ⟨h.1.moved hW.alike, h.2.warm hW⟩
theorem xK.same {G : xG} {s U : State} (e : s.vm = U.vm) (h : xK G s) : xK G U := ⟨h.1.moved (by rw [e]; exact Vm.Alike.refl _), h.2.same e⟩
theorem wone {D : va_G} {cl : List vw_C} {q : Nat × va_E} {H : Heap} (h : va_at D cl q H) : va_P D cl [q] H := by
  intro k q' hk
  have hz : k < 1 := (List.getElem?_eq_some_iff.mp hk).1
  rw [show k = 0 by omega] at hk
  cases hk
  exact h
/-- an object's fields; an int array's, a char array's, an array of references' contents -/
def oat (G : xG) (a ci : Nat) (fs : List Value) (H : Heap) : Prop := va_at G.1 vwCl (a, .inr (ci, fs)) H
def aat (G : xG) (j a n : Nat) (f : Int → Int) (H : Heap) : Prop := va_at G.1 vwCl (a, .inl (G.2 j, n, .inl (fun k => Int32.ofInt (f (k : Int))))) H
def rat (G : xG) (j a n : Nat) (f : Nat → Option Nat) (H : Heap) : Prop := va_at G.1 vwCl (a, .inl (G.2 j, n, .inr (.inr (.inr (.inr f))))) H
theorem oat.kept {G : xG} {a ci : Nat} {fs : List Value} {H H1 : Heap} (h : oat G a ci fs H) (hq : H1[a]? = H[a]?) : oat G a ci fs H1 := va_at.kept h hq
theorem aat.kept {G : xG} {j a n : Nat} {f : Int → Int} {H H1 : Heap} (h : aat G j a n f H) (hq : H1[a]? = H[a]?) : aat G j a n f H1 := va_at.kept h hq
theorem rat.kept {G : xG} {j a n : Nat} {f : Nat → Option Nat} {H H1 : Heap} (h : rat G j a n f H) (hq : H1[a]? = H[a]?) : rat G j a n f H1 := va_at.kept h hq
theorem oat.lt {G : xG} {a ci : Nat} {fs : List Value} {H : Heap} (h : oat G a ci fs H) : a < H.size := va_at.lt h
theorem aat.lt {G : xG} {j a n : Nat} {f : Int → Int} {H : Heap} (h : aat G j a n f H) : a < H.size := va_at.lt h
theorem rat.lt {G : xG} {j a n : Nat} {f : Nat → Option Nat} {H : Heap} (h : rat G j a n f H) : a < H.size := va_at.lt h
/-- f, but v at k -/
def up (f : Int → Int) (k v : Int) : Int → Int := fun j => if j = k then v else f j
theorem up_eq {f : Int → Int} {k v j : Int} (h : j = k) : up f k v j = v := if_pos h
theorem up_ne {f : Int → Int} {k v j : Int} (h : j ≠ k) : up f k v j = f j := if_neg h
theorem aat.congr {G : xG} {j a n : Nat} {f g : Int → Int} {H : Heap} (h : aat G j a n f H) (e : ∀ k : Int, 0 ≤ k → k < n → f k = g k) : aat G j a n g H := by
  have h1 : H[a]? = some (vp_cell (G.2 j) (n, .inl (fun k => Int32.ofInt (f (k : Int))))) := h
  show H[a]? = some (vp_cell (G.2 j) (n, .inl (fun k => Int32.ofInt (g (k : Int)))))
  rw [h1, vp_cell_i, vp_cell_i]
  unfold arrV
  congr 2
  congr 1
  funext k
  show Value.int (Int32.ofInt (f (k.val : Int))) = Value.int (Int32.ofInt (g (k.val : Int)))
  rw [e (k.val : Int) (by omega) (by have := k.isLt; omega)]
-- locals
def lget : List (Nat × Value) → Nat → Option Value
  | [], _ => none
  | q :: l, i => bif Nat.beq q.1 i then some q.2 else lget l i
def lrm : List (Nat × Value) → Nat → List (Nat × Value)
  | [], _ => []
  | q :: l, i => bif Nat.beq q.1 i then lrm l i else q :: lrm l i
def lset : List (Nat × Value) → Nat → Value → List (Nat × Value)
  | [], i, v => [(i, v)]
  | q :: l, i, v => bif Nat.beq q.1 i then (i, v) :: lrm l i else q :: lset l i v
theorem lrm_mem : ∀ {l : List (Nat × Value)} {i : Nat} {q : Nat × Value}, q ∈ lrm l i → q ∈ l ∧ q.1 ≠ i
  | [], i, q, h => by cases h
  | x :: l, i, q, h => by
    unfold lrm at h
    cases hb : Nat.beq x.1 i with
    | true =>
      rw [hb] at h
      exact ⟨List.mem_cons_of_mem _ (lrm_mem h).1, (lrm_mem h).2⟩
    | false =>
      rw [hb] at h
      rcases List.mem_cons.mp h with h | h
      · refine ⟨by rw [h]; exact List.mem_cons_self, fun e => ?_⟩
        rw [h] at e
        rw [e] at hb
        simp at hb
      · exact ⟨List.mem_cons_of_mem _ (lrm_mem h).1, (lrm_mem h).2⟩
theorem lget_mem : ∀ {l : List (Nat × Value)} {i : Nat} {v : Value}, lget l i = some v → (i, v) ∈ l
  | [], i, v, h => by cases h
  | q :: l, i, v, h => by
    unfold lget at h
    cases hb : Nat.beq q.1 i with
    | true =>
      rw [hb] at h
      have e := Nat.eq_of_beq_eq_true hb
      have h2 : q.2 = v := Option.some.inj h
      rw [← e, ← h2]
      exact List.mem_cons_self
    | false =>
      rw [hb] at h
      exact List.mem_cons_of_mem _ (lget_mem h)
theorem lset_mem : ∀ {l : List (Nat × Value)} {i : Nat} {v : Value} {q : Nat × Value}, q ∈ lset l i v → q = (i, v) ∨ (q ∈ l ∧ q.1 ≠ i)
  | [], i, v, q, h => by
    left
    simpa [lset] using h
  | x :: l, i, v, q, h => by
    unfold lset at h
    cases hb : Nat.beq x.1 i with
    | true =>
      rw [hb] at h
      rcases List.mem_cons.mp h with h | h
      · exact Or.inl h
      · exact Or.inr ⟨List.mem_cons_of_mem _ (lrm_mem h).1, (lrm_mem h).2⟩
    | false =>
      rw [hb] at h
      rcases List.mem_cons.mp h with h | h
      · refine Or.inr ⟨by rw [h]; exact List.mem_cons_self, fun e => ?_⟩
        rw [h] at e
        rw [e] at hb
        simp at hb
      · rcases lset_mem h with h | h
        · exact Or.inl h
        · exact Or.inr ⟨List.mem_cons_of_mem _ h.1, h.2⟩
def lhas (ls : Array Slot) (nL : Nat) (L : List (Nat × Value)) : Prop := lv_has ls nL L ∧ ∀ q ∈ L, q.2.category = 1
theorem lhas.get {ls : Array Slot} {nL : Nat} {L : List (Nat × Value)} (h : lhas ls nL L) {i : Nat} {v : Value} (hg : lget L i = some v) : ls[i]? = some (.val v) := h.1.2.2 (i, v) (lget_mem hg)
theorem lhas.cat {ls : Array Slot} {nL : Nat} {L : List (Nat × Value)} (h : lhas ls nL L) {i : Nat} {v : Value} (hg : lget L i = some v) : v.category = 1 := h.2 (i, v) (lget_mem hg)
theorem lhas.set {ls ls' : Array Slot} {nL : Nat} {L : List (Nat × Value)} {i : Nat} {v : Value} (h : lhas ls nL L) (hc : v.category = 1) (h' : lv_has ls' nL ((i, v) :: L.filter (fun q => !(q.1 == i) && !(q.1 + 1 == i && q.2.category == 2)))) : lhas ls' nL (lset L i v) := by
  refine ⟨⟨h'.1, h'.2.1, fun q hq => ?_⟩, fun q hq => ?_⟩
  · rcases lset_mem hq with e | ⟨e1, e2⟩
    · exact h'.2.2 q (by rw [e]; exact List.mem_cons_self)
    · refine h'.2.2 q (List.mem_cons_of_mem _ (List.mem_filter.mpr ⟨e1, ?_⟩))
      have e3 := h.2 q e1
      simp [e2, e3]
  · rcases lset_mem hq with e | ⟨e1, e2⟩
    · rw [e]; exact hc
    · exact h.2 q e1
theorem lhas.mono {ls : Array Slot} {nL : Nat} {L L' : List (Nat × Value)} (h : lhas ls nL L) (hs : ∀ q ∈ L', q ∈ L) : lhas ls nL L' := ⟨⟨h.1.1, h.1.2.1, fun q hq => h.1.2.2 q (hs q hq)⟩, fun q hq => h.2 q (hs q hq)⟩
-- the frame
abbrev xE : Type := Program × Launch × Env × Room × State × MethodId × Array Value × List Frame × Method × Code × (Nat → Prop) × (State → Prop)
/-- from every heap of the predicate P, at pc, with the locals L and the stack st, the machine comes to Q -/
def XJ (Γ : xE) (kc ks : Nat) (P : Heap → Prop) (pc : Nat) (L : List (Nat × Value)) (st : List Value) : Prop :=
  match Γ with
  | (p, l, e, R, s, m, args, below, meth, c, A, Q) => ∀ (H : Heap) (locs : List Loc) (ls : Array Slot), P H → va_S A s.heap H locs → lhas ls c.maxLocals L → W p l e R s m args below meth c H locs kc ks Q (F0 m pc ls st)
def XB (Γ : xE) (G : xG) (cc : ByteArray) (own : String) (nL : Nat) (rm : Room) (A : Nat → Prop) : Prop :=
  match Γ with
  | (p, _, _, R, s, m, args, _, _, c, A', _) => p.tables.exec = Jvm.exec ∧ c.code = cc ∧ c.maxLocals = nL ∧ s.vm.findClass own = some m.cls ∧ (∀ w ∈ xw, w.before args s = true) ∧ xK G s ∧ R = rm ∧ A' = A
def XR (Γ : xE) (nm : String) (ret : Option FieldType) (mc ms : Nat) (Qc : Array Value → State → Outcome → State → Prop) : Prop :=
  match Γ with
  | (_, _, _, _, s, _, args, below, meth, _, A, Q) => meth.sig.returnType = ret ∧ meth.locks = false ∧ meth.name = nm ∧ Q = MQ below Qc args s mc ms A
/-- a method's end: what it returned, and its heap; nothing outside A changed -/
def xQ (post : Option Value → Heap → Prop) (A : Nat → Prop) : Array Value → State → Outcome → State → Prop := fun _ st oc t => ∃ v, oc = .returned v ∧ post v t.heap ∧ va_F A st t
/-- a method's contract -/
def CT (G : xG) (l : Launch) (y : MethodName) (cc : ByteArray) (nL : Nat) (ret : Option FieldType) (rm : Room) (mc ms : Nat) (av : List Value) (P : Heap → Prop) (post : Option Value → Heap → Prop) (A : Nat → Prop) : Prop :=
  Met l y (Cond.code y cc nL ret :: xw) rm (va_Pc av (fun U => P U.heap ∧ xK G U)) (xQ post A) mc ms A
theorem x_met {G : xG} {l : Launch} {y : MethodName} {cc : ByteArray} {nL : Nat} {ret : Option FieldType} {rm : Room} {mc ms : Nat} {av : List Value} {P : Heap → Prop} {post : Option Value → Heap → Prop} {A : Nat → Prop} {L : List (Nat × Value)}
    (hp : plainName y.cls = true) (hrm : ∀ ws, (headSpec ws rm).room = rm) (hn : (lg_sl av).length ≤ nL) (hL : lv_args 0 av = L) (hc : ∀ q ∈ L, q.2.category = 1)
    (body : ∀ Γ : xE, Γ.2.1 = l → XB Γ G cc y.cls nL rm A → XR Γ y.name ret mc ms (xQ post A) → XJ Γ 0 0 P 0 L []) : CT G l y cc nL ret rm mc ms av P post A := by
  unfold CT
  refine Met.ofW (cc := cc) (maxL := nL) (ret := ret) hp rfl ?_
  intro p e s m args below meth c s₁ B hml hv
  obtain ⟨rfl, hP, hK⟩ := hv
  have hts := atoms_spec (ws := Cond.code y cc nL ret :: xw) B.pre
  have hown : s.vm.findClass y.cls = some m.cls := findClass_of_methodNamed B.named
  have hnm : meth.name = y.name := (name_of_methodNamed B.named B.method).1
  have h := body (p, l, e, (headSpec (Cond.code y cc nL ret :: xw) rm).room, s, m, av.toArray, below, meth, c, A, MQ below (xQ post A) av.toArray s mc ms A) rfl
    ⟨B.exec, B.bytes, hml, hown, fun w hw => hts w (List.mem_cons_of_mem _ hw), hK, hrm _, rfl⟩ ⟨B.returns, B.notSynchronized, hnm, rfl⟩
  have hl := lv_entry av (n := nL) hn
  rw [lg_entry_eq]
  refine h s.heap [] _ hP va_S.rf ?_
  rw [hml]
  exact ⟨by rw [← hL]; exact hl, hc⟩
-- the plain rows
section XR1
variable {Γ : xE} {G : xG} {cc : ByteArray} {own : String} {nL : Nat} {rm : Room} {A : Nat → Prop} {kc ks pc : Nat} {P : Heap → Prop} {L : List (Nat × Value)} {st : List Value}
theorem x_iconst (B : XB Γ G cc own nL rm A) {n : Int} (d : decode cc pc = .ok (.iconst n, 1)) (k : XJ Γ kc ks P (pc + 1) L (vi n :: st)) : XJ Γ kc ks P pc L st := by
  obtain ⟨p, l, e, R, s, m, args, below, meth, c, A', Q⟩ := Γ
  obtain ⟨hx, hb, hml, -⟩ := B
  intro H locs ls hP hS hL
  exact lv_iconst hx hb d rfl (k H locs ls hP hS hL)
theorem x_bipush (B : XB Γ G cc own nL rm A) {n : Int} (d : decode cc pc = .ok (.bipush n, 2)) (hv : (Int8.ofInt n).toInt32 = Int32.ofInt n) (k : XJ Γ kc ks P (pc + 2) L (vi n :: st)) : XJ Γ kc ks P pc L st := by
  obtain ⟨p, l, e, R, s, m, args, below, meth, c, A', Q⟩ := Γ
  obtain ⟨hx, hb, hml, -⟩ := B
  intro H locs ls hP hS hL
  exact lv_bipush hx hb d hv (k H locs ls hP hS hL)
theorem x_sipush (B : XB Γ G cc own nL rm A) {n : Int} (d : decode cc pc = .ok (.sipush n, 3)) (hv : (Int16.ofInt n).toInt32 = Int32.ofInt n) (k : XJ Γ kc ks P (pc + 3) L (vi n :: st)) : XJ Γ kc ks P pc L st := by
  obtain ⟨p, l, e, R, s, m, args, below, meth, c, A', Q⟩ := Γ
  obtain ⟨hx, hb, hml, -⟩ := B
  intro H locs ls hP hS hL
  exact lv_sipush hx hb d hv (k H locs ls hP hS hL)
theorem x_ldc (B : XB Γ G cc own nL rm A) {index : Nat} {n : Int} {v : Int32} (d : decode cc pc = .ok (.ldc index, 2)) (hw : Cond.constant own index v ∈ xw) (hv : v = Int32.ofInt n) (k : XJ Γ kc ks P (pc + 2) L (vi n :: st)) : XJ Γ kc ks P pc L st := by
  obtain ⟨p, l, e, R, s, m, args, below, meth, c, A', Q⟩ := Γ
  obtain ⟨hx, hb, hml, ho, hts, -⟩ := B
  intro H locs ls hP hS hL
  subst hv
  exact lv_ldc hx hb ho (hts _ hw) d (k H locs ls hP hS hL)
theorem x_iload_n (B : XB Γ G cc own nL rm A) {i : Fin 4} {x : Int} (d : decode cc pc = .ok (.iload_n i, 1)) (hl : lget L i = some (vi x)) (k : XJ Γ kc ks P (pc + 1) L (vi x :: st)) : XJ Γ kc ks P pc L st := by
  obtain ⟨p, l, e, R, s, m, args, below, meth, c, A', Q⟩ := Γ
  obtain ⟨hx, hb, hml, -⟩ := B
  intro H locs ls hP hS hL
  exact lv_iload_n hx hb d rfl (hL.get hl) (k H locs ls hP hS hL)
theorem x_iload (B : XB Γ G cc own nL rm A) {i : Nat} {x : Int} (d : decode cc pc = .ok (.iload i, 2)) (hl : lget L i = some (vi x)) (k : XJ Γ kc ks P (pc + 2) L (vi x :: st)) : XJ Γ kc ks P pc L st := by
  obtain ⟨p, l, e, R, s, m, args, below, meth, c, A', Q⟩ := Γ
  obtain ⟨hx, hb, hml, -⟩ := B
  intro H locs ls hP hS hL
  exact lv_iload hx hb d (hL.get hl) (k H locs ls hP hS hL)
theorem x_aload_n (B : XB Γ G cc own nL rm A) {i : Fin 4} {a : Nat} (d : decode cc pc = .ok (.aload_n i, 1)) (hl : lget L i = some (.ref a)) (k : XJ Γ kc ks P (pc + 1) L (.ref a :: st)) : XJ Γ kc ks P pc L st := by
  obtain ⟨p, l, e, R, s, m, args, below, meth, c, A', Q⟩ := Γ
  obtain ⟨hx, hb, hml, -⟩ := B
  intro H locs ls hP hS hL
  exact lv_aload_n hx hb d rfl (hL.get hl) (k H locs ls hP hS hL)
theorem x_aload (B : XB Γ G cc own nL rm A) {i : Nat} {a : Nat} (d : decode cc pc = .ok (.aload i, 2)) (hl : lget L i = some (.ref a)) (k : XJ Γ kc ks P (pc + 2) L (.ref a :: st)) : XJ Γ kc ks P pc L st := by
  obtain ⟨p, l, e, R, s, m, args, below, meth, c, A', Q⟩ := Γ
  obtain ⟨hx, hb, hml, -⟩ := B
  intro H locs ls hP hS hL
  exact lv_aload hx hb d (hL.get hl) (k H locs ls hP hS hL)
theorem x_fload_n (B : XB Γ G cc own nL rm A) {i : Fin 4} {x : UInt32} (d : decode cc pc = .ok (.fload_n i, 1)) (hl : lget L i = some (.float x)) (k : XJ Γ kc ks P (pc + 1) L (.float x :: st)) : XJ Γ kc ks P pc L st := by
  obtain ⟨p, l, e, R, s, m, args, below, meth, c, A', Q⟩ := Γ
  obtain ⟨hx, hb, hml, -⟩ := B
  intro H locs ls hP hS hL
  exact lv_fload_n hx hb d rfl (hL.get hl) (k H locs ls hP hS hL)
theorem x_istore_n (B : XB Γ G cc own nL rm A) {i : Fin 4} {x : Int} (d : decode cc pc = .ok (.istore_n i, 1)) (hi : (i : Nat) < nL) (k : XJ Γ kc ks P (pc + 1) (lset L i (vi x)) st) : XJ Γ kc ks P pc L (vi x :: st) := by
  obtain ⟨p, l, e, R, s, m, args, below, meth, c, A', Q⟩ := Γ
  obtain ⟨hx, hb, hml, -⟩ := B
  intro H locs ls hP hS hL
  exact lv_istore_n hx hb d rfl hL.1 (by rw [hml]; exact hi) rfl (fun ls' h' => k H locs ls' hP hS (hL.set rfl h'))
theorem x_istore (B : XB Γ G cc own nL rm A) {i : Nat} {x : Int} (d : decode cc pc = .ok (.istore i, 2)) (hi : i < nL) (k : XJ Γ kc ks P (pc + 2) (lset L i (vi x)) st) : XJ Γ kc ks P pc L (vi x :: st) := by
  obtain ⟨p, l, e, R, s, m, args, below, meth, c, A', Q⟩ := Γ
  obtain ⟨hx, hb, hml, -⟩ := B
  intro H locs ls hP hS hL
  exact lv_istore hx hb d hL.1 (by rw [hml]; exact hi) rfl (fun ls' h' => k H locs ls' hP hS (hL.set rfl h'))
theorem x_astore_n (B : XB Γ G cc own nL rm A) {i : Fin 4} {a : Nat} (d : decode cc pc = .ok (.astore_n i, 1)) (hi : (i : Nat) < nL) (k : XJ Γ kc ks P (pc + 1) (lset L i (.ref a)) st) : XJ Γ kc ks P pc L (.ref a :: st) := by
  obtain ⟨p, l, e, R, s, m, args, below, meth, c, A', Q⟩ := Γ
  obtain ⟨hx, hb, hml, -⟩ := B
  intro H locs ls hP hS hL
  exact lv_astore_n hx hb d rfl hL.1 (by rw [hml]; exact hi) rfl (fun ls' h' => k H locs ls' hP hS (hL.set rfl h'))
theorem x_astore (B : XB Γ G cc own nL rm A) {i : Nat} {a : Nat} (d : decode cc pc = .ok (.astore i, 2)) (hi : i < nL) (k : XJ Γ kc ks P (pc + 2) (lset L i (.ref a)) st) : XJ Γ kc ks P pc L (.ref a :: st) := by
  obtain ⟨p, l, e, R, s, m, args, below, meth, c, A', Q⟩ := Γ
  obtain ⟨hx, hb, hml, -⟩ := B
  intro H locs ls hP hS hL
  exact lv_astore hx hb d hL.1 (by rw [hml]; exact hi) rfl (fun ls' h' => k H locs ls' hP hS (hL.set rfl h'))
theorem x_fstore_n (B : XB Γ G cc own nL rm A) {i : Fin 4} {x : UInt32} (d : decode cc pc = .ok (.fstore_n i, 1)) (hi : (i : Nat) < nL) (k : XJ Γ kc ks P (pc + 1) (lset L i (.float x)) st) : XJ Γ kc ks P pc L (.float x :: st) := by
  obtain ⟨p, l, e, R, s, m, args, below, meth, c, A', Q⟩ := Γ
  obtain ⟨hx, hb, hml, -⟩ := B
  intro H locs ls hP hS hL
  exact lv_fstore_n hx hb d rfl hL.1 (by rw [hml]; exact hi) rfl (fun ls' h' => k H locs ls' hP hS (hL.set rfl h'))
theorem x_fstore (B : XB Γ G cc own nL rm A) {i : Nat} {x : UInt32} (d : decode cc pc = .ok (.fstore i, 2)) (hi : i < nL) (k : XJ Γ kc ks P (pc + 2) (lset L i (.float x)) st) : XJ Γ kc ks P pc L (.float x :: st) := by
  obtain ⟨p, l, e, R, s, m, args, below, meth, c, A', Q⟩ := Γ
  obtain ⟨hx, hb, hml, -⟩ := B
  intro H locs ls hP hS hL
  exact lv_fstore hx hb d hL.1 (by rw [hml]; exact hi) rfl (fun ls' h' => k H locs ls' hP hS (hL.set rfl h'))
theorem x_iinc (B : XB Γ G cc own nL rm A) {i : Nat} {n x : Int} (d : decode cc pc = .ok (.iinc i n, 3)) (hl : lget L i = some (vi x)) (hi : i < nL) (k : XJ Γ kc ks P (pc + 3) (lset L i (vi (x + n))) st) : XJ Γ kc ks P pc L st := by
  obtain ⟨p, l, e, R, s, m, args, below, meth, c, A', Q⟩ := Γ
  obtain ⟨hx, hb, hml, -⟩ := B
  intro H locs ls hP hS hL
  obtain ⟨j, hj⟩ := List.getElem?_of_mem (lget_mem hl)
  exact lv_iinc (v := Int32.ofInt (x + n)) hx hb d hL.1 hj (by rw [Int32.ofInt_add]) (by rw [hml]; exact hi) rfl (fun ls' h' => k H locs ls' hP hS (hL.set rfl h'))
theorem x_iadd (B : XB Γ G cc own nL rm A) {x y : Int} (d : decode cc pc = .ok (.iadd, 1)) (k : XJ Γ kc ks P (pc + 1) L (vi (x + y) :: st)) : XJ Γ kc ks P pc L (vi y :: vi x :: st) := by
  obtain ⟨p, l, e, R, s, m, args, below, meth, c, A', Q⟩ := Γ
  obtain ⟨hx, hb, hml, -⟩ := B
  intro H locs ls hP hS hL
  refine lv_iadd hx hb d ?_
  rw [← Int32.ofInt_add]
  exact k H locs ls hP hS hL
theorem x_isub (B : XB Γ G cc own nL rm A) {x y : Int} (d : decode cc pc = .ok (.isub, 1)) (k : XJ Γ kc ks P (pc + 1) L (vi (x - y) :: st)) : XJ Γ kc ks P pc L (vi y :: vi x :: st) := by
  obtain ⟨p, l, e, R, s, m, args, below, meth, c, A', Q⟩ := Γ
  obtain ⟨hx, hb, hml, -⟩ := B
  intro H locs ls hP hS hL
  refine lv_isub hx hb d ?_
  rw [← Int32.ofInt_sub]
  exact k H locs ls hP hS hL
theorem x_imul (B : XB Γ G cc own nL rm A) {x y : Int} (d : decode cc pc = .ok (.imul, 1)) (k : XJ Γ kc ks P (pc + 1) L (vi (x * y) :: st)) : XJ Γ kc ks P pc L (vi y :: vi x :: st) := by
  obtain ⟨p, l, e, R, s, m, args, below, meth, c, A', Q⟩ := Γ
  obtain ⟨hx, hb, hml, -⟩ := B
  intro H locs ls hP hS hL
  refine lv_imul hx hb d ?_
  rw [← Int32.ofInt_mul]
  exact k H locs ls hP hS hL
/-- another name of the number on top -/
theorem x_top {x y : Int} (h : x = y) (k : XJ Γ kc ks P pc L (vi y :: st)) : XJ Γ kc ks P pc L (vi x :: st) := by rw [h]; exact k
theorem x_top32 {x : Int32} {y : Int} (h : x = Int32.ofInt y) (k : XJ Γ kc ks P pc L (vi y :: st)) : XJ Γ kc ks P pc L (.int x :: st) := by rw [h]; exact k
theorem x_dup (B : XB Γ G cc own nL rm A) {v : Value} (d : decode cc pc = .ok (.dup, 1)) (hc : v.category = 1) (k : XJ Γ kc ks P (pc + 1) L (v :: v :: st)) : XJ Γ kc ks P pc L (v :: st) := by
  obtain ⟨p, l, e, R, s, m, args, below, meth, c, A', Q⟩ := Γ
  obtain ⟨hx, hb, hml, -⟩ := B
  intro H locs ls hP hS hL
  exact lv_dup hx hb d hc (k H locs ls hP hS hL)
theorem x_goto (B : XB Γ G cc own nL rm A) {off : Int} {tgt : Nat} (d : decode cc pc = .ok (.goto off, 3)) (ht : (pc : Int) + off = (tgt : Int)) (k : XJ Γ kc ks P tgt L st) : XJ Γ kc ks P pc L st := by
  obtain ⟨p, l, e, R, s, m, args, below, meth, c, A', Q⟩ := Γ
  obtain ⟨hx, hb, hml, -⟩ := B
  intro H locs ls hP hS hL
  exact lv_goto hx hb d ht (k H locs ls hP hS hL)
/-- fewer locals listed -/
theorem x_loc {L' : List (Nat × Value)} (h : ∀ q ∈ L', q ∈ L) (k : XJ Γ kc ks P pc L' st) : XJ Γ kc ks P pc L st := by
  obtain ⟨p, l, e, R, s, m, args, below, meth, c, A', Q⟩ := Γ
  intro H locs ls hP hS hL
  exact k H locs ls hP hS (hL.mono h)
/-- another predicate of the heap -/
theorem x_weak {P' : Heap → Prop} (h : ∀ H, P H → P' H) (k : XJ Γ kc ks P' pc L st) : XJ Γ kc ks P pc L st := by
  obtain ⟨p, l, e, R, s, m, args, below, meth, c, A', Q⟩ := Γ
  intro H locs ls hP hS hL
  exact k H locs ls (h H hP) hS hL
/-- a fact that the predicate gives -/
theorem x_fact {φ : Prop} (h : ∀ H, P H → φ) (k : φ → XJ Γ kc ks P pc L st) : XJ Γ kc ks P pc L st := by
  obtain ⟨p, l, e, R, s, m, args, below, meth, c, A', Q⟩ := Γ
  intro H locs ls hP hS hL
  exact k (h H hP) H locs ls hP hS hL
theorem x_ex {ι : Type} {P' : ι → Heap → Prop} (h : ∀ H, P H → ∃ i, P' i H) (k : ∀ i, XJ Γ kc ks (P' i) pc L st) : XJ Γ kc ks P pc L st := by
  obtain ⟨p, l, e, R, s, m, args, below, meth, c, A', Q⟩ := Γ
  intro H locs ls hP hS hL
  obtain ⟨i, hi⟩ := h H hP
  exact k i H locs ls hi hS hL
end XR1
theorem i32_eq {x y : Int} (hx : -2147483648 ≤ x ∧ x < 2147483648) (hy : -2147483648 ≤ y ∧ y < 2147483648) : Int32.ofInt x = Int32.ofInt y ↔ x = y := by
  rw [← Int32.toInt_inj, Int32.toInt_ofInt_of_le (by omega) (by omega), Int32.toInt_ofInt_of_le (by omega) (by omega)]
theorem i32_lt {x y : Int} (hx : -2147483648 ≤ x ∧ x < 2147483648) (hy : -2147483648 ≤ y ∧ y < 2147483648) : Int32.ofInt x < Int32.ofInt y ↔ x < y := by
  rw [Int32.lt_iff_toInt_lt, Int32.toInt_ofInt_of_le (by omega) (by omega), Int32.toInt_ofInt_of_le (by omega) (by omega)]
theorem i32_le {x y : Int} (hx : -2147483648 ≤ x ∧ x < 2147483648) (hy : -2147483648 ≤ y ∧ y < 2147483648) : Int32.ofInt x ≤ Int32.ofInt y ↔ x ≤ y := by
  rw [Int32.le_iff_toInt_le, Int32.toInt_ofInt_of_le (by omega) (by omega), Int32.toInt_ofInt_of_le (by omega) (by omega)]
section XR2
variable {Γ : xE} {G : xG} {cc : ByteArray} {own : String} {nL : Nat} {rm : Room} {A : Nat → Prop} {kc ks pc : Nat} {P : Heap → Prop} {L : List (Nat × Value)} {st : List Value} {off : Int} {tgt : Nat} {x y : Int}
theorem x_icmp_eq (B : XB Γ G cc own nL rm A) (d : decode cc pc = .ok (.if_icmp .eq off, 3)) (ht : (pc : Int) + off = (tgt : Int)) (hx : -2147483648 ≤ x ∧ x < 2147483648) (hy : -2147483648 ≤ y ∧ y < 2147483648) 
    (kt : x = y → XJ Γ kc ks P tgt L st) (kf : ¬ (x = y) → XJ Γ kc ks P (pc + 3) L st) : XJ Γ kc ks P pc L (vi y :: vi x :: st) := by
  obtain ⟨p, l, e, R, s, m, args, below, meth, c, A', Q⟩ := Γ
  obtain ⟨hx0, hb, hml, -⟩ := B
  intro H locs ls hP hS hL
  exact lv_icmp_eq hx0 hb d ht (fun h => kt ((i32_eq hx hy).mp h) H locs ls hP hS hL) (fun h => kf (fun z => h ((i32_eq hx hy).mpr z)) H locs ls hP hS hL)
theorem x_if_eq (B : XB Γ G cc own nL rm A) (d : decode cc pc = .ok (.ifCond .eq off, 3)) (ht : (pc : Int) + off = (tgt : Int)) (hx : -2147483648 ≤ x ∧ x < 2147483648) 
    (kt : x = 0 → XJ Γ kc ks P tgt L st) (kf : ¬ (x = 0) → XJ Γ kc ks P (pc + 3) L st) : XJ Γ kc ks P pc L (vi x :: st) := by
  obtain ⟨p, l, e, R, s, m, args, below, meth, c, A', Q⟩ := Γ
  obtain ⟨hx0, hb, hml, -⟩ := B
  intro H locs ls hP hS hL
  exact lv_if_eq hx0 hb d ht (fun h => kt ((i32_eq (y := 0) hx (by omega)).mp h) H locs ls hP hS hL) (fun h => kf (fun z => h ((i32_eq (y := 0) hx (by omega)).mpr z)) H locs ls hP hS hL)
theorem x_icmp_ne (B : XB Γ G cc own nL rm A) (d : decode cc pc = .ok (.if_icmp .ne off, 3)) (ht : (pc : Int) + off = (tgt : Int)) (hx : -2147483648 ≤ x ∧ x < 2147483648) (hy : -2147483648 ≤ y ∧ y < 2147483648) 
    (kt : x ≠ y → XJ Γ kc ks P tgt L st) (kf : x = y → XJ Γ kc ks P (pc + 3) L st) : XJ Γ kc ks P pc L (vi y :: vi x :: st) := by
  obtain ⟨p, l, e, R, s, m, args, below, meth, c, A', Q⟩ := Γ
  obtain ⟨hx0, hb, hml, -⟩ := B
  intro H locs ls hP hS hL
  exact lv_icmp_ne hx0 hb d ht (fun h => kt (fun z => h ((i32_eq hx hy).mpr z)) H locs ls hP hS hL) (fun h => kf ((i32_eq hx hy).mp h) H locs ls hP hS hL)
theorem x_if_ne (B : XB Γ G cc own nL rm A) (d : decode cc pc = .ok (.ifCond .ne off, 3)) (ht : (pc : Int) + off = (tgt : Int)) (hx : -2147483648 ≤ x ∧ x < 2147483648) 
    (kt : x ≠ 0 → XJ Γ kc ks P tgt L st) (kf : x = 0 → XJ Γ kc ks P (pc + 3) L st) : XJ Γ kc ks P pc L (vi x :: st) := by
  obtain ⟨p, l, e, R, s, m, args, below, meth, c, A', Q⟩ := Γ
  obtain ⟨hx0, hb, hml, -⟩ := B
  intro H locs ls hP hS hL
  exact lv_if_ne hx0 hb d ht (fun h => kt (fun z => h ((i32_eq (y := 0) hx (by omega)).mpr z)) H locs ls hP hS hL) (fun h => kf ((i32_eq (y := 0) hx (by omega)).mp h) H locs ls hP hS hL)
theorem x_icmp_lt (B : XB Γ G cc own nL rm A) (d : decode cc pc = .ok (.if_icmp .lt off, 3)) (ht : (pc : Int) + off = (tgt : Int)) (hx : -2147483648 ≤ x ∧ x < 2147483648) (hy : -2147483648 ≤ y ∧ y < 2147483648) 
    (kt : x < y → XJ Γ kc ks P tgt L st) (kf : y ≤ x → XJ Γ kc ks P (pc + 3) L st) : XJ Γ kc ks P pc L (vi y :: vi x :: st) := by
  obtain ⟨p, l, e, R, s, m, args, below, meth, c, A', Q⟩ := Γ
  obtain ⟨hx0, hb, hml, -⟩ := B
  intro H locs ls hP hS hL
  exact lv_icmp_lt hx0 hb d ht (fun h => kt ((i32_lt hx hy).mp h) H locs ls hP hS hL) (fun h => kf (Int.not_lt.mp (fun z => h ((i32_lt hx hy).mpr z))) H locs ls hP hS hL)
theorem x_if_lt (B : XB Γ G cc own nL rm A) (d : decode cc pc = .ok (.ifCond .lt off, 3)) (ht : (pc : Int) + off = (tgt : Int)) (hx : -2147483648 ≤ x ∧ x < 2147483648) 
    (kt : x < 0 → XJ Γ kc ks P tgt L st) (kf : 0 ≤ x → XJ Γ kc ks P (pc + 3) L st) : XJ Γ kc ks P pc L (vi x :: st) := by
  obtain ⟨p, l, e, R, s, m, args, below, meth, c, A', Q⟩ := Γ
  obtain ⟨hx0, hb, hml, -⟩ := B
  intro H locs ls hP hS hL
  exact lv_if_lt hx0 hb d ht (fun h => kt ((i32_lt (y := 0) hx (by omega)).mp h) H locs ls hP hS hL) (fun h => kf (Int.not_lt.mp (fun z => h ((i32_lt (y := 0) hx (by omega)).mpr z))) H locs ls hP hS hL)
theorem x_icmp_ge (B : XB Γ G cc own nL rm A) (d : decode cc pc = .ok (.if_icmp .ge off, 3)) (ht : (pc : Int) + off = (tgt : Int)) (hx : -2147483648 ≤ x ∧ x < 2147483648) (hy : -2147483648 ≤ y ∧ y < 2147483648) 
    (kt : y ≤ x → XJ Γ kc ks P tgt L st) (kf : x < y → XJ Γ kc ks P (pc + 3) L st) : XJ Γ kc ks P pc L (vi y :: vi x :: st) := by
  obtain ⟨p, l, e, R, s, m, args, below, meth, c, A', Q⟩ := Γ
  obtain ⟨hx0, hb, hml, -⟩ := B
  intro H locs ls hP hS hL
  exact lv_icmp_ge hx0 hb d ht (fun h => kt ((i32_le (x := y) (y := x) hy hx).mp h) H locs ls hP hS hL) (fun h => kf (Int.not_le.mp (fun z => h ((i32_le (x := y) (y := x) hy hx).mpr z))) H locs ls hP hS hL)
theorem x_if_ge (B : XB Γ G cc own nL rm A) (d : decode cc pc = .ok (.ifCond .ge off, 3)) (ht : (pc : Int) + off = (tgt : Int)) (hx : -2147483648 ≤ x ∧ x < 2147483648) 
    (kt : 0 ≤ x → XJ Γ kc ks P tgt L st) (kf : x < 0 → XJ Γ kc ks P (pc + 3) L st) : XJ Γ kc ks P pc L (vi x :: st) := by
  obtain ⟨p, l, e, R, s, m, args, below, meth, c, A', Q⟩ := Γ
  obtain ⟨hx0, hb, hml, -⟩ := B
  intro H locs ls hP hS hL
  exact lv_if_ge hx0 hb d ht (fun h => kt ((i32_le (x := 0) (y := x) (by omega) hx).mp h) H locs ls hP hS hL) (fun h => kf (Int.not_le.mp (fun z => h ((i32_le (x := 0) (y := x) (by omega) hx).mpr z))) H locs ls hP hS hL)
theorem x_icmp_gt (B : XB Γ G cc own nL rm A) (d : decode cc pc = .ok (.if_icmp .gt off, 3)) (ht : (pc : Int) + off = (tgt : Int)) (hx : -2147483648 ≤ x ∧ x < 2147483648) (hy : -2147483648 ≤ y ∧ y < 2147483648) 
    (kt : y < x → XJ Γ kc ks P tgt L st) (kf : x ≤ y → XJ Γ kc ks P (pc + 3) L st) : XJ Γ kc ks P pc L (vi y :: vi x :: st) := by
  obtain ⟨p, l, e, R, s, m, args, below, meth, c, A', Q⟩ := Γ
  obtain ⟨hx0, hb, hml, -⟩ := B
  intro H locs ls hP hS hL
  exact lv_icmp_gt hx0 hb d ht (fun h => kt ((i32_lt (x := y) (y := x) hy hx).mp h) H locs ls hP hS hL) (fun h => kf (Int.not_lt.mp (fun z => h ((i32_lt (x := y) (y := x) hy hx).mpr z))) H locs ls hP hS hL)
theorem x_if_gt (B : XB Γ G cc own nL rm A) (d : decode cc pc = .ok (.ifCond .gt off, 3)) (ht : (pc : Int) + off = (tgt : Int)) (hx : -2147483648 ≤ x ∧ x < 2147483648) 
    (kt : 0 < x → XJ Γ kc ks P tgt L st) (kf : x ≤ 0 → XJ Γ kc ks P (pc + 3) L st) : XJ Γ kc ks P pc L (vi x :: st) := by
  obtain ⟨p, l, e, R, s, m, args, below, meth, c, A', Q⟩ := Γ
  obtain ⟨hx0, hb, hml, -⟩ := B
  intro H locs ls hP hS hL
  exact lv_if_gt hx0 hb d ht (fun h => kt ((i32_lt (x := 0) (y := x) (by omega) hx).mp h) H locs ls hP hS hL) (fun h => kf (Int.not_lt.mp (fun z => h ((i32_lt (x := 0) (y := x) (by omega) hx).mpr z))) H locs ls hP hS hL)
theorem x_icmp_le (B : XB Γ G cc own nL rm A) (d : decode cc pc = .ok (.if_icmp .le off, 3)) (ht : (pc : Int) + off = (tgt : Int)) (hx : -2147483648 ≤ x ∧ x < 2147483648) (hy : -2147483648 ≤ y ∧ y < 2147483648) 
    (kt : x ≤ y → XJ Γ kc ks P tgt L st) (kf : y < x → XJ Γ kc ks P (pc + 3) L st) : XJ Γ kc ks P pc L (vi y :: vi x :: st) := by
  obtain ⟨p, l, e, R, s, m, args, below, meth, c, A', Q⟩ := Γ
  obtain ⟨hx0, hb, hml, -⟩ := B
  intro H locs ls hP hS hL
  exact lv_icmp_le hx0 hb d ht (fun h => kt ((i32_le hx hy).mp h) H locs ls hP hS hL) (fun h => kf (Int.not_le.mp (fun z => h ((i32_le hx hy).mpr z))) H locs ls hP hS hL)
theorem x_if_le (B : XB Γ G cc own nL rm A) (d : decode cc pc = .ok (.ifCond .le off, 3)) (ht : (pc : Int) + off = (tgt : Int)) (hx : -2147483648 ≤ x ∧ x < 2147483648) 
    (kt : x ≤ 0 → XJ Γ kc ks P tgt L st) (kf : 0 < x → XJ Γ kc ks P (pc + 3) L st) : XJ Γ kc ks P pc L (vi x :: st) := by
  obtain ⟨p, l, e, R, s, m, args, below, meth, c, A', Q⟩ := Γ
  obtain ⟨hx0, hb, hml, -⟩ := B
  intro H locs ls hP hS hL
  exact lv_if_le hx0 hb d ht (fun h => kt ((i32_le (y := 0) hx (by omega)).mp h) H locs ls hP hS hL) (fun h => kf (Int.not_le.mp (fun z => h ((i32_le (y := 0) hx (by omega)).mpr z))) H locs ls hP hS hL)
end XR2
-- fields
section XR3
variable {Γ : xE} {G : xG} {cc : ByteArray} {own : String} {nL : Nat} {rm : Room} {A : Nat → Prop} {kc ks pc : Nat} {P : Heap → Prop} {L : List (Nat × Value)} {st : List Value}
theorem x_get (B : XB Γ G cc own nL rm A) {idx ci k a : Nat} {v : Value} (lk : LkG own idx ci k) (d : decode cc pc = .ok (.getfield idx, 3)) (hv : ∀ H, P H → ∃ fs, oat G a ci fs H ∧ fs[k]? = some v)
    (kk : XJ Γ kc ks P (pc + 3) L (v :: st)) : XJ Γ kc ks P pc L (.ref a :: st) := by
  obtain ⟨p, l, e, R, s, m, args, below, meth, c, A', Q⟩ := Γ
  obtain ⟨hx, hb, hml, ho, hts, ⟨hK, hN⟩, hR, hA⟩ := B
  obtain ⟨C, T, N, hc, hk, hin, hl⟩ := lk
  intro H locs ls hP hS hL
  obtain ⟨fs, h1, h2⟩ := hv H hP
  exact va_get (ws := [(a, .inr (ci, fs))]) hx hb hts hin ho hK (wone h1) 0 rfl hc k hk (hts _ hl) (fun _ h => h) h2 d (kk H locs ls hP hS hL)
theorem x_put (B : XB Γ G cc own nL rm A) {idx ci k a : Nat} {v : Value} {ty : FieldType} {P' : Heap → Prop} (lk : LkP own idx ci k ty false) (d : decode cc pc = .ok (.putfield idx, 3)) (hn : narrow ty v = v) (hf : fits ty v = true) (hA : A a)
    (hv : ∀ H, P H → ∃ fs, oat G a ci fs H ∧ k < fs.length ∧ ∀ H1, oat G a ci (fs.set k v) H1 → H1.size = H.size → (∀ q, q ≠ a → H1[q]? = H[q]?) → P' H1)
    (kk : XJ Γ kc ks P' (pc + 3) L st) : XJ Γ kc ks P pc L (v :: .ref a :: st) := by
  obtain ⟨p, l, e, R, s, m, args, below, meth, c, A', Q⟩ := Γ
  obtain ⟨hx, hb, hml, ho, hts, ⟨hK, hN⟩, hR, hAA⟩ := B
  obtain ⟨C, T, N, ty0, hc, hk, hin, hlk, hty, hnm, hfin, hd, hC⟩ := lk
  intro H locs ls hP hS hL
  obtain ⟨fs, h1, hl, h2⟩ := hv H hP
  have hap := va_apart (own := own) hts hin ty0 hty hnm hK hc
  obtain ⟨r, hr1, cell, q1, q2, q3, q4⟩ := h1
  have hr : r = (C, T, N) := Option.some.inj (hr1.symm.trans hc)
  subst hr
  obtain ⟨hSl, hfc, kC, hkC, hkind⟩ := hK.1 ci _ hc
  obtain ⟨cf, kf, fi, f, hi, hsl⟩ := hSl k hk
  have hlay := hts _ (hin _ (u_in_lay hk))
  unfold u_lay at hlay
  rw [if_neg (by rw [hfin]; decide)] at hlay
  have hst := (u_facts hfc hkC (u_lays hts hin hk) hi).1
  have h6 := u_store hfc hkC hkind hlay hi hd hn hf
  subst hAA
  refine W.putK hx hb (f := f) ⟨ho, hts _ hlk, ⟨_, _, _, hi⟩, hst⟩ (by rw [q2]; exact h6) q1 q3 (by rw [hsl]; exact k2_hasslot (q4 k hk)) rfl rfl d fun H' e1 e2 e3 => ?_
  rw [hsl] at e1 ⊢
  exact kk H' _ ls (h2 H' ⟨_, hc, t_OB.to (V := updV (vp_V fs) k v) ⟨_, e1, q2, q3, t_set q4 hap hk v⟩ (fun j _ => vp_updV_set hl v j)⟩ e2 e3) (hS.put e2 e3 hA) hL
theorem x_putF (B : XB Γ G cc own nL rm A) {nm : String} {ret : Option FieldType} {mc ms : Nat} {Qc : Array Value → State → Outcome → State → Prop} (R : XR Γ nm ret mc ms Qc) (hnm0 : nm = "<init>") {idx ci k a : Nat} {v : Value} {ty : FieldType} {P' : Heap → Prop} (lk : LkP own idx ci k ty true) (hown : ∀ C T N, vwCl[ci]? = some (C, T, N) → C = own) (d : decode cc pc = .ok (.putfield idx, 3)) (hn : narrow ty v = v) (hf : fits ty v = true) (hA : A a)
    (hv : ∀ H, P H → ∃ fs, oat G a ci fs H ∧ k < fs.length ∧ ∀ H1, oat G a ci (fs.set k v) H1 → H1.size = H.size → (∀ q, q ≠ a → H1[q]? = H[q]?) → P' H1)
    (kk : XJ Γ kc ks P' (pc + 3) L st) : XJ Γ kc ks P pc L (v :: .ref a :: st) := by
  obtain ⟨p, l, e, R', s, m, args, below, meth, c, A', Q⟩ := Γ
  obtain ⟨hx, hb, hml, ho, hts, ⟨hK, hN⟩, hR, hAA⟩ := B
  obtain ⟨-, -, hmn, -⟩ := R
  obtain ⟨C, T, N, ty0, hc, hk, hin, hlk, hty, hnm, hfin, hd, hC⟩ := lk
  have hCo := hown C T N hc
  intro H locs ls hP hS hL
  obtain ⟨fs, h1, hl, h2⟩ := hv H hP
  have hap := va_apart (own := own) hts hin ty0 hty hnm hK hc
  obtain ⟨r, hr1, cell, q1, q2, q3, q4⟩ := h1
  have hr : r = (C, T, N) := Option.some.inj (hr1.symm.trans hc)
  subst hr
  obtain ⟨hSl, hfc, kC, hkC, hkind⟩ := hK.1 ci _ hc
  obtain ⟨cf, kf, fi, f, hi, hsl⟩ := hSl k hk
  have hlay := hts _ (hin _ (u_in_lay hk))
  unfold u_lay at hlay
  rw [if_pos hfin] at hlay
  have hst := (u_facts hfc hkC (u_lays hts hin hk) hi).1
  have hcf : m.cls = cf := by
    obtain ⟨_, _, c', _, _, _, -, -, hf', -, -, -, hown2, -⟩ := Cond.laysFinal_spec hlay
    have e1 : c' = cf := by have := hi.symm.trans hf'; simp at this; exact this.1.symm
    rw [hC.trans hCo] at hown2
    rw [← e1]; exact Option.some.inj (ho.symm.trans hown2)
  have h6 := u_fits hfc hkC hkind (Or.inr hlay) hi hd hn hf
  subst hAA
  refine W.putFinK hx hb ho (hts _ hlk) hi hst hcf (hmn.trans hnm0) (by rw [q2]; exact h6) q1 q3 (by rw [hsl]; exact k2_hasslot (q4 k hk)) rfl rfl d fun H' e1 e2 e3 => ?_
  rw [hsl] at e1 ⊢
  exact kk H' _ ls (h2 H' ⟨_, hc, t_OB.to (V := updV (vp_V fs) k v) ⟨_, e1, q2, q3, t_set q4 hap hk v⟩ (fun j _ => vp_updV_set hl v j)⟩ e2 e3) (hS.put e2 e3 hA) hL

end XR3
theorem vi_nat {z : Int} {n : Nat} (h : 0 ≤ z ∧ z < n) (hn : n ≤ 2147483647) : (Int32.ofInt z).toNatClampNeg = z.toNat ∧ vp_in (Int32.ofInt z) n := by
  have e : (Int32.ofInt z).toInt = z := Int32.toInt_ofInt_of_le (by omega) (by omega)
  have e1 : (Int32.ofInt z).toNatClampNeg = z.toNat := by show (Int32.ofInt z).toInt.toNat = _; rw [e]
  refine ⟨e1, fun q => ?_⟩
  rcases q with q | q
  · rw [Int32.lt_iff_toInt_lt, e] at q
    have h0 : (0 : Int32).toInt = 0 := rfl
    omega
  · rw [e1] at q
    omega
section XR4
variable {Γ : xE} {G : xG} {cc : ByteArray} {own : String} {nL : Nat} {rm : Room} {A : Nat → Prop} {kc ks pc : Nat} {P : Heap → Prop} {L : List (Nat × Value)} {st : List Value}
theorem x_iald (B : XB Γ G cc own nL rm A) {a n : Nat} {f : Int → Int} {z : Int} (d : decode cc pc = .ok (.iaload, 1)) (hz : 0 ≤ z ∧ z < n) (hn : n ≤ 2147483647) (hv : ∀ H, P H → aat G 0 a n f H)
    (kk : XJ Γ kc ks P (pc + 1) L (vi (f z) :: st)) : XJ Γ kc ks P pc L (vi z :: .ref a :: st) := by
  obtain ⟨p, l, e, R, s, m, args, below, meth, c, A', Q⟩ := Γ
  obtain ⟨hx, hb, hml, ho, hts, ⟨hK, hN⟩, hR, hA⟩ := B
  intro H locs ls hP hS hL
  obtain ⟨e1, e2⟩ := vi_nat hz hn
  refine va_iald (ws := [(a, .inl (G.2 0, n, .inl (fun k => Int32.ofInt (f (k : Int)))))]) (tys := xTys G) hx hb hK (wone (hv H hP)) 0 0 rfl rfl e2 d ?_
  rw [e1, show ((z.toNat : Nat) : Int) = z by omega]
  exact kk H locs ls hP hS hL
theorem x_cald (B : XB Γ G cc own nL rm A) {a n : Nat} {f : Int → Int} {z : Int} (d : decode cc pc = .ok (.caload, 1)) (hz : 0 ≤ z ∧ z < n) (hn : n ≤ 2147483647) (hv : ∀ H, P H → aat G 1 a n f H)
    (kk : XJ Γ kc ks P (pc + 1) L (vi (f z) :: st)) : XJ Γ kc ks P pc L (vi z :: .ref a :: st) := by
  obtain ⟨p, l, e, R, s, m, args, below, meth, c, A', Q⟩ := Γ
  obtain ⟨hx, hb, hml, ho, hts, ⟨hK, hN⟩, hR, hA⟩ := B
  intro H locs ls hP hS hL
  obtain ⟨e1, e2⟩ := vi_nat hz hn
  refine va_cald (ws := [(a, .inl (G.2 1, n, .inl (fun k => Int32.ofInt (f (k : Int)))))]) (tys := xTys G) hx hb hK (wone (hv H hP)) 0 1 rfl rfl e2 d ?_
  rw [e1, show ((z.toNat : Nat) : Int) = z by omega]
  exact kk H locs ls hP hS hL
theorem x_aald (B : XB Γ G cc own nL rm A) {j a n r : Nat} {C : String} {f : Nat → Option Nat} {z : Int} (d : decode cc pc = .ok (.aaload, 1)) (hj : (xTys G)[j]? = some (G.2 j, .object C)) (hz : 0 ≤ z ∧ z < n) (hn : n ≤ 2147483647) (hv : ∀ H, P H → rat G j a n f H ∧ f z.toNat = some r)
    (kk : XJ Γ kc ks P (pc + 1) L (.ref r :: st)) : XJ Γ kc ks P pc L (vi z :: .ref a :: st) := by
  obtain ⟨p, l, e, R, s, m, args, below, meth, c, A', Q⟩ := Γ
  obtain ⟨hx, hb, hml, ho, hts, ⟨hK, hN⟩, hR, hA⟩ := B
  intro H locs ls hP hS hL
  obtain ⟨e1, e2⟩ := vi_nat hz hn
  obtain ⟨h1, h2⟩ := hv H hP
  refine va_aldq (ws := [(a, .inl (G.2 j, n, .inr (.inr (.inr (.inr f)))))]) (tys := xTys G) hx hb hK (wone h1) 0 j rfl hj e2 d ?_
  rw [e1, h2]
  exact kk H locs ls hP hS hL
theorem x_aaldA (B : XB Γ G cc own nL rm A) {j a n r : Nat} {t : FieldType} {f : Nat → Option Nat} {z : Int} (d : decode cc pc = .ok (.aaload, 1)) (hj : (xTys G)[j]? = some (G.2 j, .array t)) (hz : 0 ≤ z ∧ z < n) (hn : n ≤ 2147483647) (hv : ∀ H, P H → rat G j a n f H ∧ f z.toNat = some r)
    (kk : XJ Γ kc ks P (pc + 1) L (.ref r :: st)) : XJ Γ kc ks P pc L (vi z :: .ref a :: st) := by
  obtain ⟨p, l, e, R, s, m, args, below, meth, c, A', Q⟩ := Γ
  obtain ⟨hx, hb, hml, ho, hts, ⟨hK, hN⟩, hR, hA⟩ := B
  intro H locs ls hP hS hL
  obtain ⟨e1, e2⟩ := vi_nat hz hn
  obtain ⟨h1, h2⟩ := hv H hP
  have hlt : (Int32.ofInt z).toNatClampNeg < n := Nat.not_le.mp fun q => e2 (Or.inr q)
  refine W.aald (v := va_rf (f (Int32.ofInt z).toNatClampNeg)) (ty := .array t) hx hb h1 ((hK.2 j _ hj).1 n (fun j => va_rf (f j))) rfl (fun q => by cases q) (by show ¬ (Int32.ofInt z < 0 ∨ (arrV _ _ _).slots.size ≤ _); rw [arrV_size]; exact e2) (by show (arrV _ _ _).slots[_]? = _; rw [arrV_read _ _ hlt]) rfl rfl d ?_
  rw [e1, h2]
  exact kk H locs ls hP hS hL
/-- a store into an int array -/
theorem x_iast (B : XB Γ G cc own nL rm A) {a n : Nat} {f : Int → Int} {z v : Int} {P' : Heap → Prop} (d : decode cc pc = .ok (.iastore, 1)) (hz : 0 ≤ z ∧ z < n) (hn : n ≤ 2147483647) (hA : A a)
    (hv : ∀ H, P H → aat G 0 a n f H ∧ ∀ H1, aat G 0 a n (up f z v) H1 → H1.size = H.size → (∀ q, q ≠ a → H1[q]? = H[q]?) → P' H1)
    (kk : XJ Γ kc ks P' (pc + 1) L st) : XJ Γ kc ks P pc L (vi v :: vi z :: .ref a :: st) := by
  obtain ⟨p, l, e, R, s, m, args, below, meth, c, A', Q⟩ := Γ
  obtain ⟨hx, hb, hml, ho, hts, ⟨hK, hN⟩, hR, hAA⟩ := B
  intro H locs ls hP hS hL
  obtain ⟨e1, e2⟩ := vi_nat hz hn
  obtain ⟨h1, h2⟩ := hv H hP
  subst hAA
  refine W.iast hx hb h1 ((hK.2 0 (G.2 0, .int) rfl).1 n (fun j => .int (Int32.ofInt (f (j : Int))))) (fun q => by cases q) (by show ¬ (Int32.ofInt z < 0 ∨ (arrV _ _ _).slots.size ≤ _); rw [arrV_size]; exact e2) rfl rfl d fun H1 e z1 oq => ?_
  refine kk H1 _ ls (h2 H1 ?_ z1 oq) (hS.put z1 oq hA) hL
  show H1[a]? = some (vp_cell _ _)
  rw [e, vp_cell_i, vp_cell_i, arrV_store]
  congr 2
  funext q
  rw [e1]
  by_cases hq : q = z.toNat
  · subst hq
    rw [up_eq (by omega)]
    simp [updV]
  · rw [up_ne (by omega)]
    simp [updV, hq]
theorem x_cast (B : XB Γ G cc own nL rm A) {a n : Nat} {f : Int → Int} {z v : Int} {P' : Heap → Prop} (d : decode cc pc = .ok (.castore, 1)) (hz : 0 ≤ z ∧ z < n) (hn : n ≤ 2147483647) (hA : A a) (hc : narrow .char (vi v) = vi v)
    (hv : ∀ H, P H → aat G 1 a n f H ∧ ∀ H1, aat G 1 a n (up f z v) H1 → H1.size = H.size → (∀ q, q ≠ a → H1[q]? = H[q]?) → P' H1)
    (kk : XJ Γ kc ks P' (pc + 1) L st) : XJ Γ kc ks P pc L (vi v :: vi z :: .ref a :: st) := by
  obtain ⟨p, l, e, R, s, m, args, below, meth, c, A', Q⟩ := Γ
  obtain ⟨hx, hb, hml, ho, hts, ⟨hK, hN⟩, hR, hAA⟩ := B
  intro H locs ls hP hS hL
  obtain ⟨e1, e2⟩ := vi_nat hz hn
  obtain ⟨h1, h2⟩ := hv H hP
  subst hAA
  refine W.cast hx hb h1 ((hK.2 1 (G.2 1, .char) rfl).1 n (fun j => .int (Int32.ofInt (f (j : Int))))) (fun q => by cases q) (by show ¬ (Int32.ofInt z < 0 ∨ (arrV _ _ _).slots.size ≤ _); rw [arrV_size]; exact e2) rfl rfl d fun H1 e z1 oq => ?_
  refine kk H1 _ ls (h2 H1 ?_ z1 oq) (hS.put z1 oq hA) hL
  show H1[a]? = some (vp_cell _ _)
  rw [e, show narrow .char (.int (Int32.ofInt v)) = Value.int (Int32.ofInt v) from hc, vp_cell_i, vp_cell_i, arrV_store]
  congr 2
  funext q
  rw [e1]
  by_cases hq : q = z.toNat
  · subst hq
    rw [up_eq (by omega)]
    simp [updV]
  · rw [up_ne (by omega)]
    simp [updV, hq]
/-- a store into an array of references -/
theorem x_aast (B : XB Γ G cc own nL rm A) {j ci a n v : Nat} {f : Nat → Option Nat} {z : Int} {r : vw_C} {P' : Heap → Prop} (d : decode cc pc = .ok (.aastore, 1)) (hj : (xTys G)[j]? = some (G.2 j, .object r.1)) (hc : vwCl[ci]? = some r) (hz : 0 ≤ z ∧ z < n) (hn : n ≤ 2147483647) (hA : A a)
    (hv : ∀ H, P H → rat G j a n f H ∧ (∃ fs, oat G v ci fs H) ∧ ∀ H1, rat G j a n (va_up f z.toNat (some v)) H1 → H1.size = H.size → (∀ q, q ≠ a → H1[q]? = H[q]?) → P' H1)
    (kk : XJ Γ kc ks P' (pc + 1) L st) : XJ Γ kc ks P pc L (.ref v :: vi z :: .ref a :: st) := by
  obtain ⟨p, l, e, R, s, m, args, below, meth, c, A', Q⟩ := Γ
  obtain ⟨hx, hb, hml, ho, hts, ⟨hK, hN⟩, hR, hAA⟩ := B
  intro H locs ls hP hS hL
  obtain ⟨e1, hin⟩ := vi_nat hz hn
  obtain ⟨ha, ⟨fs, hvv⟩, h2⟩ := hv H hP
  subst hAA
  have hlt : (Int32.ofInt z).toNatClampNeg < n := Nat.not_le.mp fun q => hin (Or.inr q)
  have h0 : ¬ Int32.ofInt z < 0 := fun q => hin (Or.inl q)
  obtain ⟨r', hr', cellV, g1, g2, g3, -⟩ := hvv
  have hcls := (hK.1 ci r hc).2
  obtain ⟨kA, comp, k1, k2, k3, -⟩ := (hK.2 j _ hj).2
  have hcomp : comp = G.1.1 ci := Option.some.inj (k3.symm.trans hcls.1)
  subst hcomp
  obtain ⟨kC, hkC, -⟩ := hcls.2
  refine W.aast hx hb ha (fun q h => by cases h) (fun h => by cases h) k1 k2 rfl hkC ⟨h0, by show _ < (arrV _ _ _).slots.size; rw [arrV_size]; exact hlt⟩ g1 (fun q h => by rw [g3] at h; cases h) (by rw [g2]; exact hkC) (by rw [g2]; exact va_assign hcls) rfl rfl d fun H1 e z1 oq => ?_
  refine kk H1 _ ls (h2 H1 ?_ z1 oq) (hS.put z1 oq hA) hL
  show H1[a]? = some (vp_cell _ _)
  rw [e, vp_cell_q, vp_cell_q, arrV_store]
  congr 2
  funext q
  rw [e1]
  by_cases hq : q = z.toNat
  · subst hq
    simp [updV, va_up, va_rf]
  · simp [updV, va_up, hq]
/-- the array's length -/
theorem x_alen (B : XB Γ G cc own nL rm A) {j a n : Nat} {ty : FieldType} {f : Int → Int} {v : Int} (d : decode cc pc = .ok (.arraylength, 1)) (hj : (xTys G)[j]? = some (G.2 j, ty)) (hn : (n : Int) = v) (hv : ∀ H, P H → aat G j a n f H)
    (kk : XJ Γ kc ks P (pc + 1) L (vi v :: st)) : XJ Γ kc ks P pc L (.ref a :: st) := by
  obtain ⟨p, l, e, R, s, m, args, below, meth, c, A', Q⟩ := Γ
  obtain ⟨hx, hb, hml, ho, hts, ⟨hK, hN⟩, hR, hA⟩ := B
  intro H locs ls hP hS hL
  refine va_alen (ws := [(a, .inl (G.2 j, n, .inl (fun k => Int32.ofInt (f (k : Int)))))]) (tys := xTys G) (v := Int32.ofInt v) hx hb hK (wone (hv H hP)) 0 j rfl hj ?_ d (kk H locs ls hP hS hL)
  rw [← hn, Int32.ofInt_eq_ofNat]
-- ends
theorem x_iret (B : XB Γ G cc own nL rm A) {nm : String} {post : Option Value → Heap → Prop} (R : XR Γ nm (some .int) kc ks (xQ post A)) {z : Int} (d : decode cc pc = .ok (.ireturn, 1)) (hq : ∀ H, P H → post (some (vi z)) H) : XJ Γ kc ks P pc L [vi z] := by
  obtain ⟨p, l, e, R', s, m, args, below, meth, c, A', Q⟩ := Γ
  obtain ⟨hx, hb, hml, ho, hts, ⟨hK, hN⟩, hR, hAA⟩ := B
  obtain ⟨hr, hlk, hnm, hQ⟩ := R
  subst hAA
  subst hQ
  intro H locs ls hP hS hL
  exact W.iret hx hb hr (fun t ht _ => ⟨_, rfl, by rw [ht]; exact hq H hP, hS.F ht⟩) hS.2.2 d hlk
theorem x_zret (B : XB Γ G cc own nL rm A) {nm : String} {post : Option Value → Heap → Prop} (R : XR Γ nm (some .boolean) kc ks (xQ post A)) {z : Int} (d : decode cc pc = .ok (.ireturn, 1)) (hn : narrow .boolean (vi z) = vi z) (hq : ∀ H, P H → post (some (vi z)) H) : XJ Γ kc ks P pc L [vi z] := by
  obtain ⟨p, l, e, R', s, m, args, below, meth, c, A', Q⟩ := Γ
  obtain ⟨hx, hb, hml, ho, hts, ⟨hK, hN⟩, hR, hAA⟩ := B
  obtain ⟨hr, hlk, hnm, hQ⟩ := R
  subst hAA
  subst hQ
  intro H locs ls hP hS hL
  exact W.zret hx hb hr hn (fun t ht _ => ⟨_, rfl, by rw [ht]; exact hq H hP, hS.F ht⟩) hS.2.2 d hlk
theorem x_vret (B : XB Γ G cc own nL rm A) {nm : String} {post : Option Value → Heap → Prop} (R : XR Γ nm none kc ks (xQ post A)) (d : decode cc pc = .ok (.return_, 1)) (hq : ∀ H, P H → post none H) : XJ Γ kc ks P pc L [] := by
  obtain ⟨p, l, e, R', s, m, args, below, meth, c, A', Q⟩ := Γ
  obtain ⟨hx, hb, hml, ho, hts, ⟨hK, hN⟩, hR, hAA⟩ := B
  obtain ⟨hr, hlk, hnm, hQ⟩ := R
  subst hAA
  subst hQ
  intro H locs ls hP hS hL
  exact W.vret hx hb hr (fun t ht _ => ⟨_, rfl, by rw [ht]; exact hq H hP, hS.F ht⟩) hS.2.2 d hlk
/-- more room than was used -/
theorem x_widen {k n : Nat} (h1 : kc ≤ k) (h2 : ks ≤ n) (kk : XJ Γ k n P pc L st) : XJ Γ kc ks P pc L st := by
  obtain ⟨p, l, e, R', s, m, args, below, meth, c, A', Q⟩ := Γ
  intro H locs ls hP hS hL
  exact W.widen h1 h2 (kk H locs ls hP hS hL)
end XR4

-- calls
theorem x_blind {G : xG} {av : List Value} {P : Heap → Prop} : FrameBlind (va_Pc av (fun U => P U.heap ∧ xK G U)) := fun _ _ _ _ h => ⟨h.1, h.2.1, h.2.2.same rfl⟩
section XR5
variable {p : Program} {l : Launch} {e : Env} {R : Room} {s : State} {m : MethodId} {args : Array Value} {below : List Frame} {meth : Method} {c : Code} {A A0 : Nat → Prop} {Q : State → Prop} {H : Heap} {locs : List Loc} {ls : Array Slot} {kc ks mc ms pc : Nat} {L : List (Nat × Value)} {st st0 : List Value} {post : Option Value → Heap → Prop} {a : Array Value}
theorem xj_after (hr : va_Run p l e R s m args below meth c H locs kc ks mc ms (F0 m pc ls st0) st (xQ post A0 a) A0) (hS : va_S A s.heap H locs) (hAA : ∀ q, A0 q → A q)
    (kk : ∀ (v : Option Value) (H1 : Heap) (locs1 : List Loc), post v H1 → H.size ≤ H1.size → (∀ q : Nat, q < H.size → ¬ A0 q → H1[q]? = H[q]?) → va_S A s.heap H1 locs1 → W p l e R s m args below meth c H1 locs1 (kc + mc) (ks + ms) Q (F0 m (pc + 3) ls (v.toList ++ st))) : W p l e R s m args below meth c H locs kc ks Q (F0 m pc ls st0) := by
  intro T hT X
  obtain ⟨v, st₀, t, T', L, h0, X', hL, e1, e2, ⟨v', hv, hp, hz, hk⟩, st⟩ := hr T hT X
  cases hv
  rw [h0] at hz hk
  obtain ⟨t2, a1, b1⟩ := kk v T'.heap (locs ++ L) (by rw [e1]; exact hp) (by rw [e1]; exact hz) (fun q h1 h2 => by rw [e1]; exact hk q h1 h2)
    ⟨Nat.le_trans hS.1 (by rw [e1]; exact hz), fun q h1 h2 => by rw [e1, hk q (Nat.lt_of_lt_of_le h1 hS.1) (fun z => h2 (hAA q z))]; exact hS.2.1 q h1 h2, fun q hq => by
      rcases List.mem_append.mp hq with h | h
      · exact hS.2.2 q h
      · exact hAA _ (hL q h)⟩ T' rfl X'
  exact ⟨t2, st t2 a1, b1⟩
end XR5
section XR6
variable {Γ : xE} {G : xG} {cc : ByteArray} {own : String} {nL : Nat} {rm : Room} {A : Nat → Prop} {kc ks pc : Nat} {P : Heap → Prop} {L : List (Nat × Value)} {st st0 : List Value}
variable {idx : Nat} {y : MethodName} {bytes : ByteArray} {nL' : Nat} {ret : Option FieldType} {ci n : Nat} {rm' : Room} {mc ms b : Nat} {As : List Value} {P0 : Heap → Prop} {post : Option Value → Heap → Prop} {A0 : Nat → Prop}
theorem x_callVg (B : XB Γ G cc own nL rm A) (lk : LkV own idx y bytes nL' ret ci n) (hM : ∀ l, CT G l y bytes nL' ret rm' mc ms (.ref b :: As) P0 post A0)
    (d : decode cc pc = .ok (.invokevirtual idx, 3)) (hst : st0 = As.reverse ++ .ref b :: st) (hn : As.length = n) (hR : rm'.cells = mc ∧ rm'.slots = ms ∧ rm'.frames + 1 ≤ rm.frames ∧ 8 + (nL' + 11) + rm'.locals ≤ rm.locals)
    (hf : kc + mc ≤ rm.cells ∧ ks + ms ≤ rm.slots) (hw : (st.map fun v => v.category).sum ≤ 8) (hAA : ∀ q, A0 q → A q) (hP : ∀ H, P H → P0 H ∧ ∃ fs, oat G b ci fs H) {ι : Type} {v : ι → Option Value} {P' : ι → Heap → Prop}
    (hb : ∀ v' H H1, P H → post v' H1 → H.size ≤ H1.size → (∀ q : Nat, q < H.size → ¬ A0 q → H1[q]? = H[q]?) → ∃ i, v' = v i ∧ P' i H1)
    (kk : ∀ i, XJ Γ (kc + mc) (ks + ms) (P' i) (pc + 3) L ((v i).toList ++ st)) : XJ Γ kc ks P pc L st0 := by
  obtain ⟨p, l, e, R, s, m, args, below, meth, c, A', Q⟩ := Γ
  obtain ⟨hx, hb0, hml, ho, hts, hK, hRR, hA⟩ := B
  obtain ⟨w1, w2, w3, w4, w5, w6, T, N, hc⟩ := lk
  subst hA
  subst hRR
  subst hst
  intro H locs ls hPH hS hL
  obtain ⟨h0, fs, ho1⟩ := hP H hPH
  have hG : GoodIn xw (Cond.code y bytes nL' ret :: xw) := xw_self (fun w h => by
    rcases List.mem_cons.mp h with h | h
    · rw [h]; exact w5
    · exact h)
  refine xj_after (va_runV (As := As) (rest := st) ⟨hx, hb0, hml, ho, hts⟩ (hM l) ⟨callB_of n hts hG rfl hR.1 hR.2.1 (hts _ w4) (hts _ w1) w6 hR.2.2, hts _ w2, hts _ w3⟩ ⟨x_blind, va_recv hK.1 (wone ho1) (ci := ci) (q0 := 0) hc rfl, fun U hU hW => ⟨rfl, by rw [hU]; exact h0, hK.warm hW⟩⟩ rfl hn (hL.1.1.trans hml) rfl (lv_room hw) d hf) hS hAA (fun v' H1 locs1 h1 h2 h3 h4 => ?_)
  obtain ⟨i, e1, e2⟩ := hb v' H H1 hPH h1 h2 h3
  rw [e1]
  exact kk i H1 locs1 ls e2 h4 hL
theorem x_callSg (B : XB Γ G cc own nL rm A) (lk : LkS own idx y bytes nL' ret n) (hM : ∀ l, CT G l y bytes nL' ret rm' mc ms As P0 post A0)
    (d : decode cc pc = .ok (.invokestatic idx, 3)) (hst : st0 = As.reverse ++ st) (hn : As.length = n) (hR : rm'.cells = mc ∧ rm'.slots = ms ∧ rm'.frames + 1 ≤ rm.frames ∧ 8 + (nL' + 11) + rm'.locals ≤ rm.locals)
    (hf : kc + mc ≤ rm.cells ∧ ks + ms ≤ rm.slots) (hw : (st.map fun v => v.category).sum ≤ 8) (hAA : ∀ q, A0 q → A q) (hP : ∀ H, P H → P0 H) {ι : Type} {v : ι → Option Value} {P' : ι → Heap → Prop}
    (hb : ∀ v' H H1, P H → post v' H1 → H.size ≤ H1.size → (∀ q : Nat, q < H.size → ¬ A0 q → H1[q]? = H[q]?) → ∃ i, v' = v i ∧ P' i H1)
    (kk : ∀ i, XJ Γ (kc + mc) (ks + ms) (P' i) (pc + 3) L ((v i).toList ++ st)) : XJ Γ kc ks P pc L st0 := by
  obtain ⟨p, l, e, R, s, m, args, below, meth, c, A', Q⟩ := Γ
  obtain ⟨hx, hb0, hml, ho, hts, hK, hRR, hA⟩ := B
  obtain ⟨w1, w2, w4, w5, w6⟩ := lk
  subst hA
  subst hRR
  subst hst
  intro H locs ls hPH hS hL
  have hG : GoodIn xw (Cond.code y bytes nL' ret :: xw) := xw_self (fun w h => by
    rcases List.mem_cons.mp h with h | h
    · rw [h]; exact w5
    · exact h)
  refine xj_after (va_runS (As := As) (rest := st) ⟨hx, hb0, hml, ho, hts⟩ (hM l) ⟨callB_of n hts hG rfl hR.1 hR.2.1 (hts _ w4) (hts _ w1) w6 hR.2.2, hts _ w2⟩ ⟨x_blind, fun U hU hW => ⟨rfl, by rw [hU]; exact hP H hPH, hK.warm hW⟩⟩ rfl hn (hL.1.1.trans hml) rfl (lv_room hw) d hf) hS hAA (fun v' H1 locs1 h1 h2 h3 h4 => ?_)
  obtain ⟨i, e1, e2⟩ := hb v' H H1 hPH h1 h2 h3
  rw [e1]
  exact kk i H1 locs1 ls e2 h4 hL
theorem x_callSNg (B : XB Γ G cc own nL rm A) {host : String} (lk : LkSN y bytes nL' ret n) (hnest : ∀ s, xN s → va_Nw (.methodLinkNest own idx y host) s) (hM : ∀ l, CT G l y bytes nL' ret rm' mc ms As P0 post A0)
    (d : decode cc pc = .ok (.invokestatic idx, 3)) (hst : st0 = As.reverse ++ st) (hn : As.length = n) (hR : rm'.cells = mc ∧ rm'.slots = ms ∧ rm'.frames + 1 ≤ rm.frames ∧ 8 + (nL' + 11) + rm'.locals ≤ rm.locals)
    (hf : kc + mc ≤ rm.cells ∧ ks + ms ≤ rm.slots) (hw : (st.map fun v => v.category).sum ≤ 8) (hAA : ∀ q, A0 q → A q) (hP : ∀ H, P H → P0 H) {ι : Type} {v : ι → Option Value} {P' : ι → Heap → Prop}
    (hb : ∀ v' H H1, P H → post v' H1 → H.size ≤ H1.size → (∀ q : Nat, q < H.size → ¬ A0 q → H1[q]? = H[q]?) → ∃ i, v' = v i ∧ P' i H1)
    (kk : ∀ i, XJ Γ (kc + mc) (ks + ms) (P' i) (pc + 3) L ((v i).toList ++ st)) : XJ Γ kc ks P pc L st0 := by
  obtain ⟨p, l, e, R, s, m, args, below, meth, c, A', Q⟩ := Γ
  obtain ⟨hx, hb0, hml, ho, hts, hK, hRR, hA⟩ := B
  obtain ⟨w2, w4, w5, w6⟩ := lk
  subst hA
  subst hRR
  subst hst
  intro H locs ls hPH hS hL
  have hG : GoodIn xw (Cond.code y bytes nL' ret :: xw) := xw_self (fun w h => by
    rcases List.mem_cons.mp h with h | h
    · rw [h]; exact w5
    · exact h)
  refine xj_after (va_runSN (As := As) (rest := st) ⟨hx, hb0, hml, ho, hts⟩ (hM l) ⟨va_cnB n hts hG rfl hR.1 hR.2.1 (hnest s hK.2) (hts _ w4) w6 hR.2.2, hts _ w2, trivial⟩ ⟨x_blind, fun U hU hW => ⟨rfl, by rw [hU]; exact hP H hPH, hK.warm hW⟩⟩ rfl hn (hL.1.1.trans hml) rfl (lv_room hw) d hf) hS hAA (fun v' H1 locs1 h1 h2 h3 h4 => ?_)
  obtain ⟨i, e1, e2⟩ := hb v' H H1 hPH h1 h2 h3
  rw [e1]
  exact kk i H1 locs1 ls e2 h4 hL
theorem x_callIg (B : XB Γ G cc own nL rm A) (lk : LkI y bytes nL' n) (hlink : Cond.methodLink own idx y ∈ xw) (hM : ∀ l, CT G l y bytes nL' none rm' mc ms (.ref b :: As) P0 post A0)
    (d : decode cc pc = .ok (.invokespecial idx, 3)) (hst : st0 = As.reverse ++ .ref b :: st) (hn : As.length = n) (hR : rm'.cells = mc ∧ rm'.slots = ms ∧ rm'.frames + 1 ≤ rm.frames ∧ 8 + (nL' + 11) + rm'.locals ≤ rm.locals)
    (hf : kc + mc ≤ rm.cells ∧ ks + ms ≤ rm.slots) (hw : (st.map fun v => v.category).sum ≤ 8) (hAA : ∀ q, A0 q → A q) (hP : ∀ H, P H → P0 H) {P' : Heap → Prop}
    (hb : ∀ v' H H1, P H → post v' H1 → H.size ≤ H1.size → (∀ q : Nat, q < H.size → ¬ A0 q → H1[q]? = H[q]?) → v' = none ∧ P' H1)
    (kk : XJ Γ (kc + mc) (ks + ms) P' (pc + 3) L st) : XJ Γ kc ks P pc L st0 := by
  obtain ⟨p, l, e, R, s, m, args, below, meth, c, A', Q⟩ := Γ
  obtain ⟨hx, hb0, hml, ho, hts, hK, hRR, hA⟩ := B
  obtain ⟨w2, w4, w5, w6, w7⟩ := lk
  subst hA
  subst hRR
  subst hst
  intro H locs ls hPH hS hL
  have hG : GoodIn xw (Cond.code y bytes nL' none :: xw) := xw_self (fun w h => by
    rcases List.mem_cons.mp h with h | h
    · rw [h]; exact w5
    · exact h)
  refine xj_after (va_runI (As := As) (rest := st) ⟨hx, hb0, hml, ho, hts⟩ (hM l) ⟨callB_of n hts hG rfl hR.1 hR.2.1 (hts _ w4) (hts _ hlink) w6 hR.2.2, w7, hts _ w2⟩ ⟨x_blind, fun U hU hW => ⟨rfl, by rw [hU]; exact hP H hPH, hK.warm hW⟩⟩ rfl hn (hL.1.1.trans hml) rfl (lv_room hw) d hf) hS hAA (fun v' H1 locs1 h1 h2 h3 h4 => ?_)
  obtain ⟨e1, e2⟩ := hb v' H H1 hPH h1 h2 h3
  rw [e1]
  exact kk H1 locs1 ls e2 h4 hL
theorem x_callINg (B : XB Γ G cc own nL rm A) {host : String} (lk : LkI y bytes nL' n) (hnest : ∀ s, xN s → va_Nw (.methodLinkNest own idx y host) s) (hM : ∀ l, CT G l y bytes nL' none rm' mc ms (.ref b :: As) P0 post A0)
    (d : decode cc pc = .ok (.invokespecial idx, 3)) (hst : st0 = As.reverse ++ .ref b :: st) (hn : As.length = n) (hR : rm'.cells = mc ∧ rm'.slots = ms ∧ rm'.frames + 1 ≤ rm.frames ∧ 8 + (nL' + 11) + rm'.locals ≤ rm.locals)
    (hf : kc + mc ≤ rm.cells ∧ ks + ms ≤ rm.slots) (hw : (st.map fun v => v.category).sum ≤ 8) (hAA : ∀ q, A0 q → A q) (hP : ∀ H, P H → P0 H) {P' : Heap → Prop}
    (hb : ∀ v' H H1, P H → post v' H1 → H.size ≤ H1.size → (∀ q : Nat, q < H.size → ¬ A0 q → H1[q]? = H[q]?) → v' = none ∧ P' H1)
    (kk : XJ Γ (kc + mc) (ks + ms) P' (pc + 3) L st) : XJ Γ kc ks P pc L st0 := by
  obtain ⟨p, l, e, R, s, m, args, below, meth, c, A', Q⟩ := Γ
  obtain ⟨hx, hb0, hml, ho, hts, hK, hRR, hA⟩ := B
  obtain ⟨w2, w4, w5, w6, w7⟩ := lk
  subst hA
  subst hRR
  subst hst
  intro H locs ls hPH hS hL
  have hG : GoodIn xw (Cond.code y bytes nL' none :: xw) := xw_self (fun w h => by
    rcases List.mem_cons.mp h with h | h
    · rw [h]; exact w5
    · exact h)
  refine xj_after (va_runIN (As := As) (rest := st) ⟨hx, hb0, hml, ho, hts⟩ (hM l) ⟨va_cnB n hts hG rfl hR.1 hR.2.1 (hnest s hK.2) (hts _ w4) w6 hR.2.2, w7, hts _ w2⟩ ⟨x_blind, fun U hU hW => ⟨rfl, by rw [hU]; exact hP H hPH, hK.warm hW⟩⟩ rfl hn (hL.1.1.trans hml) rfl (lv_room hw) d hf) hS hAA (fun v' H1 locs1 h1 h2 h3 h4 => ?_)
  obtain ⟨e1, e2⟩ := hb v' H H1 hPH h1 h2 h3
  rw [e1]
  exact kk H1 locs1 ls e2 h4 hL
/-- a call of a method of the same predicates: its P is ours, its end's P' is ours then; r: what it returns -/
theorem x_callV (B : XB Γ G cc own nL rm A) {P' : Heap → Prop} {r : Int} (lk : LkV own idx y bytes nL' ret ci n) (hM : ∀ l, CT G l y bytes nL' ret rm' 0 0 (.ref b :: As) P (fun v H => v = some (vi r) ∧ P' H) A)
    (d : decode cc pc = .ok (.invokevirtual idx, 3)) (hst : st0 = As.reverse ++ .ref b :: st) (hn : As.length = n) (hR : rm'.cells = 0 ∧ rm'.slots = 0 ∧ rm'.frames + 1 ≤ rm.frames ∧ 8 + (nL' + 11) + rm'.locals ≤ rm.locals)
    (hf : kc ≤ rm.cells ∧ ks ≤ rm.slots) (hw : (st.map fun v => v.category).sum ≤ 8) (hP : ∀ H, P H → ∃ fs, oat G b ci fs H)
    (kk : XJ Γ kc ks P' (pc + 3) L (vi r :: st)) : XJ Γ kc ks P pc L st0 :=
  x_callVg B lk hM d hst hn hR hf hw (fun _ h => h) (fun H h => ⟨h, hP H h⟩) (ι := Unit) (v := fun _ => some (vi r)) (P' := fun _ => P') (fun v' H H1 _ h _ _ => ⟨(), h.1, h.2⟩) (fun _ => kk)
theorem x_callVv (B : XB Γ G cc own nL rm A) {P' : Heap → Prop} (lk : LkV own idx y bytes nL' ret ci n) (hM : ∀ l, CT G l y bytes nL' ret rm' 0 0 (.ref b :: As) P (fun v H => v = none ∧ P' H) A)
    (d : decode cc pc = .ok (.invokevirtual idx, 3)) (hst : st0 = As.reverse ++ .ref b :: st) (hn : As.length = n) (hR : rm'.cells = 0 ∧ rm'.slots = 0 ∧ rm'.frames + 1 ≤ rm.frames ∧ 8 + (nL' + 11) + rm'.locals ≤ rm.locals)
    (hf : kc ≤ rm.cells ∧ ks ≤ rm.slots) (hw : (st.map fun v => v.category).sum ≤ 8) (hP : ∀ H, P H → ∃ fs, oat G b ci fs H)
    (kk : XJ Γ kc ks P' (pc + 3) L st) : XJ Γ kc ks P pc L st0 :=
  x_callVg B lk hM d hst hn hR hf hw (fun _ h => h) (fun H h => ⟨h, hP H h⟩) (ι := Unit) (v := fun _ => none) (P' := fun _ => P') (fun v' H H1 _ h _ _ => ⟨(), h.1, h.2⟩) (fun _ => kk)
/-- a call of a static method that looks at no heap -/
theorem x_callS (B : XB Γ G cc own nL rm A) {r : Int} (lk : LkS own idx y bytes nL' ret n) (hM : ∀ l, CT G l y bytes nL' ret rm' 0 0 As (fun _ => True) (fun v _ => v = some (vi r)) (fun _ => False))
    (d : decode cc pc = .ok (.invokestatic idx, 3)) (hst : st0 = As.reverse ++ st) (hn : As.length = n) (hR : rm'.cells = 0 ∧ rm'.slots = 0 ∧ rm'.frames + 1 ≤ rm.frames ∧ 8 + (nL' + 11) + rm'.locals ≤ rm.locals)
    (hf : kc ≤ rm.cells ∧ ks ≤ rm.slots) (hw : (st.map fun v => v.category).sum ≤ 8) (hP : ∀ H H1, P H → H.size ≤ H1.size → (∀ q : Nat, q < H.size → H1[q]? = H[q]?) → P H1)
    (kk : XJ Γ kc ks P (pc + 3) L (vi r :: st)) : XJ Γ kc ks P pc L st0 :=
  x_callSg B lk hM d hst hn hR hf hw (fun _ h => h.elim) (fun _ _ => trivial) (ι := Unit) (v := fun _ => some (vi r)) (P' := fun _ => P) (fun v' H H1 hp h hz hk => ⟨(), h, hP H H1 hp hz (fun q hq => hk q hq (fun h => h))⟩) (fun _ => kk)
end XR6

/-! ===== the law's failures and repairs; its ticks ===== -/
section UNT
variable {Γ : xE} {G : xG} {e : Nat} {m : Int → Int} {ρ : Nat → Int → Int} {u x z : Int}
theorem unt_failS (B : XB Γ G cL_units RL 8 ({ frames := 5, cells := 0, slots := 0, locals := 118 } : Room) (AE e)) (R : XR Γ "units" (some .boolean) 0 0 (xQ (pZ True (PX G e m)) (AE e))) (ho : OK m ρ) (hm : ∀ k, -2147483648 ≤ m k ∧ m k < 2147483648) (hu0 : 0 ≤ u ∧ u < m 2) (hx : -2147483648 ≤ x ∧ x < 2147483648) (hz : (ui m u 2 = -4 ∧ z = 0) ∨ (ui m u 2 ≠ -4 ∧ z = bi m (ui m u 2) 5)) (rb : -2147483648 ≤ cn m 1 ∧ cn m 1 < 2147483648) (h3 : ui m u 3 = 1) : XJ Γ 0 0 (PE G e m ρ) 40 [(0, .ref e), (1, vi u), (2, vi x), (3, vi (ui m u 2)), (4, vi z), (5, vi (cn m 1))] [] := by
  have hI := ho.I
  have hb := hI.b
  obtain ⟨f1, f2, f3, f4, f5⟩ := fu hI ho.Q hu0.1 hu0.2
  refine x_cutI 55 (fun zz => (zz = 1 ∧ ui m u 3 = 1) ∨ (zz = 0 ∧ ¬ (ui m u 3 = 1))) (fun K55 => ?_) (fun z55 h55 => ?_)
  · refine x_aload_n B dL_units_40 rfl ?_
    refine x_iload_n B dL_units_41 rfl ?_
    refine x_iconst B dL_units_42 ?_
    refine x_qd B mvL_15 (q_unitInfo (by first | assumption | omega) (by first | assumption | omega) (by first | assumption | omega)) dL_units_43 rfl rfl (by decide) (by decide) (Nat.le_of_ble_eq_true rfl) (fun _ h => h) (fun r43 => ?_)
    refine x_iconst B dL_units_46 ?_
    refine x_icmp_ne (tgt := 54) B dL_units_47 (by decide) (by first | assumption | omega) (by first | assumption | omega) (fun c47 => ?_) (fun c47 => ?_)
    · refine x_iconst B dL_units_54 ?_
      exact K55 _ (by omega)
    · refine x_iconst B dL_units_50 ?_
      refine x_goto (tgt := 55) B dL_units_51 (by decide) ?_
      exact K55 _ (by omega)
  · refine x_istore B dL_units_55 (by decide) ?_
    refine x_aload_n B dL_units_57 rfl ?_
    refine x_iload_n B dL_units_58 rfl ?_
    refine x_qd B mvL_84 (q_failS hI hu0 h3) dL_units_59 rfl rfl (by decide) (by decide) (Nat.le_of_ble_eq_true rfl) (fun _ h => h) (fun r59 => ?_)
    refine x_istore B dL_units_62 (by decide) ?_
    refine x_iload B dL_units_64 rfl ?_
    refine x_if_eq (tgt := 92) B dL_units_66 (by decide) (by first | assumption | omega) (fun c66 => ?_) (fun c66 => ?_)
    · exfalso; omega
    · refine x_iload B dL_units_69 rfl ?_
      refine x_bipush B dL_units_71 (by decide) ?_
      refine x_icmp_ne (tgt := 90) B dL_units_73 (by decide) (by first | assumption | omega) (by first | assumption | omega) (fun c73 => ?_) (fun c73 => ?_)
      · exfalso; omega
      · refine x_aload_n B dL_units_76 rfl ?_
        refine x_iconst B dL_units_77 ?_
        refine x_qd B mvL_9 (q_count (by first | assumption | omega) (by first | assumption | omega)) dL_units_78 rfl rfl (by decide) (by decide) (Nat.le_of_ble_eq_true rfl) (fun _ h => h) (fun r78 => ?_)
        refine x_iload B dL_units_81 rfl ?_
        refine x_icmp_ne (tgt := 90) B dL_units_83 (by decide) (by first | assumption | omega) (by first | assumption | omega) (fun c83 => ?_) (fun c83 => ?_)
        · exfalso; omega
        · refine x_iconst B dL_units_86 ?_
          refine x_goto (tgt := 91) B dL_units_87 (by decide) ?_
          exact x_lret B R dL_units_91 rfl (by assumption) (by omega)
theorem unt_fail (B : XB Γ G cL_units RL 8 ({ frames := 5, cells := 0, slots := 0, locals := 118 } : Room) (AE e)) (R : XR Γ "units" (some .boolean) 0 0 (xQ (pZ True (PX G e m)) (AE e))) (ho : OK m ρ) (hm : ∀ k, -2147483648 ≤ m k ∧ m k < 2147483648) (hu0 : 0 ≤ u ∧ u < m 2) (hx : -2147483648 ≤ x ∧ x < 2147483648) (hz : (ui m u 2 = -4 ∧ z = 0) ∨ (ui m u 2 ≠ -4 ∧ z = bi m (ui m u 2) 5)) (rb : -2147483648 ≤ cn m 1 ∧ cn m 1 < 2147483648) (h3 : ui m u 3 ≠ 1) : XJ Γ 0 0 (PE G e m ρ) 40 [(0, .ref e), (1, vi u), (2, vi x), (3, vi (ui m u 2)), (4, vi z), (5, vi (cn m 1))] [] := by
  have hI := ho.I
  have hb := hI.b
  obtain ⟨f1, f2, f3, f4, f5⟩ := fu hI ho.Q hu0.1 hu0.2
  obtain ⟨ho', ⟨e1, e2, e3⟩, g1, g2, g3, g4, g5⟩ := OK_fail ho hm hu0 h3
  have hq := q_fail (G := G) (e := e) hI hu0 h3
  have hI' := ho'.I
  obtain ⟨t, ht⟩ : ∃ t, t = (if ui m u 2 = -4 ∨ ¬ (bi m (ui m u 2) 5 = 1 ∨ bi m (ui m u 2) 5 = 3) then -4 else ui m u 2) := ⟨_, rfl⟩
  rw [← ht] at hq
  have ht' : ((ui m u 2 = -4 ∨ ¬ (bi m (ui m u 2) 5 = 1 ∨ bi m (ui m u 2) 5 = 3)) ∧ t = -4) ∨ (¬ (ui m u 2 = -4 ∨ ¬ (bi m (ui m u 2) 5 = 1 ∨ bi m (ui m u 2) 5 = 3)) ∧ t = ui m u 2) := by
    rw [ht]
    split
    · next q => exact Or.inl ⟨q, rfl⟩
    · next q => exact Or.inr ⟨q, rfl⟩
  clear ht
  generalize flM m u = m' at *
  generalize s_keep m ρ = ρ' at *
  refine x_cutI 55 (fun zz => (zz = 1 ∧ ui m u 3 = 1) ∨ (zz = 0 ∧ ¬ (ui m u 3 = 1))) (fun K55 => ?_) (fun z55 h55 => ?_)
  · refine x_aload_n B dL_units_40 rfl ?_
    refine x_iload_n B dL_units_41 rfl ?_
    refine x_iconst B dL_units_42 ?_
    refine x_qd B mvL_15 (q_unitInfo (by first | assumption | omega) (by first | assumption | omega) (by first | assumption | omega)) dL_units_43 rfl rfl (by decide) (by decide) (Nat.le_of_ble_eq_true rfl) (fun _ h => h) (fun r43 => ?_)
    refine x_iconst B dL_units_46 ?_
    refine x_icmp_ne (tgt := 54) B dL_units_47 (by decide) (by first | assumption | omega) (by first | assumption | omega) (fun c47 => ?_) (fun c47 => ?_)
    · refine x_iconst B dL_units_54 ?_
      exact K55 _ (by omega)
    · refine x_iconst B dL_units_50 ?_
      refine x_goto (tgt := 55) B dL_units_51 (by decide) ?_
      exact K55 _ (by omega)
  · refine x_istore B dL_units_55 (by decide) ?_
    refine x_aload_n B dL_units_57 rfl ?_
    refine x_iload_n B dL_units_58 rfl ?_
    refine x_qd B mvL_84 (id hq) dL_units_59 rfl rfl (by decide) (by decide) (Nat.le_of_ble_eq_true rfl) (fun _ h => h) (fun r59 => ?_)
    refine x_istore B dL_units_62 (by decide) ?_
    refine x_iload B dL_units_64 rfl ?_
    refine x_if_eq (tgt := 92) B dL_units_66 (by decide) (by first | assumption | omega) (fun c66 => ?_) (fun c66 => ?_)
    · refine x_iload B dL_units_92 rfl ?_
      refine x_cutI 112 (fun zz => zz = t) (fun K112 => ?_) (fun z112 h112 => ?_)
      · refine x_iload B dL_units_94 rfl ?_
        refine x_iconst B dL_units_96 ?_
        refine x_icmp_eq (tgt := 106) B dL_units_97 (by decide) (by first | assumption | omega) (by first | assumption | omega) (fun c97 => ?_) (fun c97 => ?_)
        · refine x_iload_n B dL_units_106 rfl ?_
          refine x_goto (tgt := 112) B dL_units_107 (by decide) ?_
          exact K112 _ (by omega)
        · refine x_iload B dL_units_100 rfl ?_
          refine x_iconst B dL_units_102 ?_
          refine x_icmp_ne (tgt := 110) B dL_units_103 (by decide) (by first | assumption | omega) (by first | assumption | omega) (fun c103 => ?_) (fun c103 => ?_)
          · refine x_bipush B dL_units_110 (by decide) ?_
            exact K112 _ (by omega)
          · refine x_iload_n B dL_units_106 rfl ?_
            refine x_goto (tgt := 112) B dL_units_107 (by decide) ?_
            exact K112 _ (by omega)
      · refine x_icmp_ne (tgt := 188) B dL_units_112 (by decide) (by first | assumption | omega) (by first | assumption | omega) (fun c112 => ?_) (fun c112 => ?_)
        · exfalso; omega
        · refine x_aload_n B dL_units_115 rfl ?_
          refine x_iconst B dL_units_116 ?_
          refine x_qd B mvL_9 (q_count (by first | assumption | omega) (by first | assumption | omega)) dL_units_117 rfl rfl (by decide) (by decide) (Nat.le_of_ble_eq_true rfl) (fun _ h => h) (fun r117 => ?_)
          refine x_iload B dL_units_120 rfl ?_
          refine x_iconst B dL_units_122 ?_
          refine x_iadd B dL_units_123 ?_
          refine x_icmp_ne (tgt := 188) B dL_units_124 (by decide) (by first | assumption | omega) (by first | assumption | omega) (fun c124 => ?_) (fun c124 => ?_)
          · exfalso; omega
          · refine x_aload_n B dL_units_127 rfl ?_
            refine x_iload_n B dL_units_128 rfl ?_
            refine x_iconst B dL_units_129 ?_
            refine x_qd B mvL_15 (q_unitInfo (by first | assumption | omega) (by first | assumption | omega) (by first | assumption | omega)) dL_units_130 rfl rfl (by decide) (by decide) (Nat.le_of_ble_eq_true rfl) (fun _ h => h) (fun r130 => ?_)
            refine x_iconst B dL_units_133 ?_
            refine x_icmp_ne (tgt := 188) B dL_units_134 (by decide) (by first | assumption | omega) (by first | assumption | omega) (fun c134 => ?_) (fun c134 => ?_)
            · exfalso; omega
            · refine x_aload_n B dL_units_137 rfl ?_
              refine x_iload_n B dL_units_138 rfl ?_
              refine x_bipush B dL_units_139 (by decide) ?_
              refine x_qd B mvL_15 (q_unitInfo (by first | assumption | omega) (by first | assumption | omega) (by first | assumption | omega)) dL_units_141 rfl rfl (by decide) (by decide) (Nat.le_of_ble_eq_true rfl) (fun _ h => h) (fun r141 => ?_)
              refine x_if_ne (tgt := 188) B dL_units_144 (by decide) (by first | assumption | omega) (fun c144 => ?_) (fun c144 => ?_)
              · exfalso; omega
              · refine x_aload_n B dL_units_147 rfl ?_
                refine x_iload_n B dL_units_148 rfl ?_
                refine x_iconst B dL_units_149 ?_
                refine x_qd B mvL_15 (q_unitInfo (by first | assumption | omega) (by first | assumption | omega) (by first | assumption | omega)) dL_units_150 rfl rfl (by decide) (by decide) (Nat.le_of_ble_eq_true rfl) (fun _ h => h) (fun r150 => ?_)
                refine x_iload_n B dL_units_153 rfl ?_
                refine x_icmp_ne (tgt := 188) B dL_units_154 (by decide) (by first | assumption | omega) (by first | assumption | omega) (fun c154 => ?_) (fun c154 => ?_)
                · exfalso; omega
                · refine x_iload B dL_units_157 rfl ?_
                  refine x_bipush B dL_units_159 (by decide) ?_
                  refine x_icmp_eq (tgt := 184) B dL_units_161 (by decide) (by first | assumption | omega) (by first | assumption | omega) (fun c161 => ?_) (fun c161 => ?_)
                  · refine x_iconst B dL_units_184 ?_
                    refine x_goto (tgt := 189) B dL_units_185 (by decide) ?_
                    exact x_lret B R dL_units_189 rfl (by assumption) (by omega)
                  · refine x_aload_n B dL_units_164 rfl ?_
                    refine x_iload_n B dL_units_165 rfl ?_
                    refine x_iconst B dL_units_166 ?_
                    refine x_qd B mvL_21 (q_batchInfo (by first | assumption | omega) (by first | assumption | omega) (by first | assumption | omega)) dL_units_167 rfl rfl (by decide) (by decide) (Nat.le_of_ble_eq_true rfl) (fun _ h => h) (fun r167 => ?_)
                    refine x_iconst B dL_units_170 ?_
                    refine x_icmp_ne (tgt := 188) B dL_units_171 (by decide) (by first | assumption | omega) (by first | assumption | omega) (fun c171 => ?_) (fun c171 => ?_)
                    · exfalso; omega
                    · have g8 : bi m' (ui m u 2) 5 = 2 ∧ bi m' (ui m u 2) 8 = u := by omega
                      refine x_aload_n B dL_units_174 rfl ?_
                      refine x_iload_n B dL_units_175 rfl ?_
                      refine x_qd B mvL_72 (q_restartS hI' (by omega) (Or.inr (by rw [g8.2]; exact ⟨by omega, g2⟩))) dL_units_176 rfl rfl (by decide) (by decide) (Nat.le_of_ble_eq_true rfl) (fun _ h => h) (fun r176 => ?_)
                      refine x_bipush B dL_units_179 (by decide) ?_
                      refine x_icmp_ne (tgt := 188) B dL_units_181 (by decide) (by first | assumption | omega) (by first | assumption | omega) (fun c181 => ?_) (fun c181 => ?_)
                      · exfalso; omega
                      · refine x_iconst B dL_units_184 ?_
                        refine x_goto (tgt := 189) B dL_units_185 (by decide) ?_
                        exact x_lret B R dL_units_189 rfl (by assumption) (by omega)
    · exfalso; omega
theorem unt_repairS (B : XB Γ G cL_units RL 8 ({ frames := 5, cells := 0, slots := 0, locals := 118 } : Room) (AE e)) (R : XR Γ "units" (some .boolean) 0 0 (xQ (pZ True (PX G e m)) (AE e))) (ho : OK m ρ) (hm : ∀ k, -2147483648 ≤ m k ∧ m k < 2147483648) (hu0 : 0 ≤ u ∧ u < m 2) (hx : -2147483648 ≤ x ∧ x < 2147483648) (hz : (ui m u 2 = -4 ∧ z = 0) ∨ (ui m u 2 ≠ -4 ∧ z = bi m (ui m u 2) 5)) (rb : -2147483648 ≤ cn m 1 ∧ cn m 1 < 2147483648) (h3 : ui m u 3 ≠ 1) : XJ Γ 0 0 (PE G e m ρ) 190 [(0, .ref e), (1, vi u), (2, vi x), (3, vi (ui m u 2)), (4, vi z), (5, vi (cn m 1))] [] := by
  have hI := ho.I
  have hb := hI.b
  obtain ⟨f1, f2, f3, f4, f5⟩ := fu hI ho.Q hu0.1 hu0.2
  refine x_cutI 205 (fun zz => (zz = 1 ∧ ui m u 3 = 1) ∨ (zz = 0 ∧ ¬ (ui m u 3 = 1))) (fun K205 => ?_) (fun z205 h205 => ?_)
  · refine x_aload_n B dL_units_190 rfl ?_
    refine x_iload_n B dL_units_191 rfl ?_
    refine x_iconst B dL_units_192 ?_
    refine x_qd B mvL_15 (q_unitInfo (by first | assumption | omega) (by first | assumption | omega) (by first | assumption | omega)) dL_units_193 rfl rfl (by decide) (by decide) (Nat.le_of_ble_eq_true rfl) (fun _ h => h) (fun r193 => ?_)
    refine x_iconst B dL_units_196 ?_
    refine x_icmp_ne (tgt := 204) B dL_units_197 (by decide) (by first | assumption | omega) (by first | assumption | omega) (fun c197 => ?_) (fun c197 => ?_)
    · refine x_iconst B dL_units_204 ?_
      exact K205 _ (by omega)
    · refine x_iconst B dL_units_200 ?_
      refine x_goto (tgt := 205) B dL_units_201 (by decide) ?_
      exact K205 _ (by omega)
  · refine x_istore B dL_units_205 (by decide) ?_
    refine x_aload_n B dL_units_207 rfl ?_
    refine x_iload_n B dL_units_208 rfl ?_
    refine x_qd B mvL_87 (q_repairS hI hu0 h3) dL_units_209 rfl rfl (by decide) (by decide) (Nat.le_of_ble_eq_true rfl) (fun _ h => h) (fun r209 => ?_)
    refine x_istore B dL_units_212 (by decide) ?_
    refine x_iload B dL_units_214 rfl ?_
    refine x_if_eq (tgt := 245) B dL_units_216 (by decide) (by first | assumption | omega) (fun c216 => ?_) (fun c216 => ?_)
    · refine x_iload B dL_units_245 rfl ?_
      refine x_bipush B dL_units_247 (by decide) ?_
      refine x_icmp_ne (tgt := 266) B dL_units_249 (by decide) (by first | assumption | omega) (by first | assumption | omega) (fun c249 => ?_) (fun c249 => ?_)
      · exfalso; omega
      · refine x_aload_n B dL_units_252 rfl ?_
        refine x_iconst B dL_units_253 ?_
        refine x_qd B mvL_9 (q_count (by first | assumption | omega) (by first | assumption | omega)) dL_units_254 rfl rfl (by decide) (by decide) (Nat.le_of_ble_eq_true rfl) (fun _ h => h) (fun r254 => ?_)
        refine x_iload B dL_units_257 rfl ?_
        refine x_icmp_ne (tgt := 266) B dL_units_259 (by decide) (by first | assumption | omega) (by first | assumption | omega) (fun c259 => ?_) (fun c259 => ?_)
        · exfalso; omega
        · refine x_iconst B dL_units_262 ?_
          refine x_goto (tgt := 267) B dL_units_263 (by decide) ?_
          exact x_lret B R dL_units_267 rfl (by assumption) (by omega)
    · exfalso; omega
theorem unt_repair (B : XB Γ G cL_units RL 8 ({ frames := 5, cells := 0, slots := 0, locals := 118 } : Room) (AE e)) (R : XR Γ "units" (some .boolean) 0 0 (xQ (pZ True (PX G e m)) (AE e))) (ho : OK m ρ) (hm : ∀ k, -2147483648 ≤ m k ∧ m k < 2147483648) (hu0 : 0 ≤ u ∧ u < m 2) (hx : -2147483648 ≤ x ∧ x < 2147483648) (hz : (ui m u 2 = -4 ∧ z = 0) ∨ (ui m u 2 ≠ -4 ∧ z = bi m (ui m u 2) 5)) (rb : -2147483648 ≤ cn m 1 ∧ cn m 1 < 2147483648) (h3 : ui m u 3 = 1) : XJ Γ 0 0 (PE G e m ρ) 190 [(0, .ref e), (1, vi u), (2, vi x), (3, vi (ui m u 2)), (4, vi z), (5, vi (cn m 1))] [] := by
  have hI := ho.I
  have hb := hI.b
  obtain ⟨f1, f2, f3, f4, f5⟩ := fu hI ho.Q hu0.1 hu0.2
  obtain ⟨ho', ⟨e1, e2, e3⟩, g1⟩ := OK_repair ho hm hu0 h3
  have hq := q_repair (G := G) (e := e) hI hu0 h3
  have hI' := ho'.I
  generalize up m (5 + 6 * u + 3) 0 = m' at *
  generalize s_keep m ρ = ρ' at *
  refine x_cutI 205 (fun zz => (zz = 1 ∧ ui m u 3 = 1) ∨ (zz = 0 ∧ ¬ (ui m u 3 = 1))) (fun K205 => ?_) (fun z205 h205 => ?_)
  · refine x_aload_n B dL_units_190 rfl ?_
    refine x_iload_n B dL_units_191 rfl ?_
    refine x_iconst B dL_units_192 ?_
    refine x_qd B mvL_15 (q_unitInfo (by first | assumption | omega) (by first | assumption | omega) (by first | assumption | omega)) dL_units_193 rfl rfl (by decide) (by decide) (Nat.le_of_ble_eq_true rfl) (fun _ h => h) (fun r193 => ?_)
    refine x_iconst B dL_units_196 ?_
    refine x_icmp_ne (tgt := 204) B dL_units_197 (by decide) (by first | assumption | omega) (by first | assumption | omega) (fun c197 => ?_) (fun c197 => ?_)
    · refine x_iconst B dL_units_204 ?_
      exact K205 _ (by omega)
    · refine x_iconst B dL_units_200 ?_
      refine x_goto (tgt := 205) B dL_units_201 (by decide) ?_
      exact K205 _ (by omega)
  · refine x_istore B dL_units_205 (by decide) ?_
    refine x_aload_n B dL_units_207 rfl ?_
    refine x_iload_n B dL_units_208 rfl ?_
    refine x_qd B mvL_87 (id hq) dL_units_209 rfl rfl (by decide) (by decide) (Nat.le_of_ble_eq_true rfl) (fun _ h => h) (fun r209 => ?_)
    refine x_istore B dL_units_212 (by decide) ?_
    refine x_iload B dL_units_214 rfl ?_
    refine x_if_eq (tgt := 245) B dL_units_216 (by decide) (by first | assumption | omega) (fun c216 => ?_) (fun c216 => ?_)
    · exfalso; omega
    · refine x_iload B dL_units_219 rfl ?_
      refine x_iload B dL_units_221 rfl ?_
      refine x_iconst B dL_units_223 ?_
      refine x_isub B dL_units_224 ?_
      refine x_icmp_ne (tgt := 241) B dL_units_225 (by decide) (by first | assumption | omega) (by first | assumption | omega) (fun c225 => ?_) (fun c225 => ?_)
      · exfalso; omega
      · refine x_aload_n B dL_units_228 rfl ?_
        refine x_iload_n B dL_units_229 rfl ?_
        refine x_iconst B dL_units_230 ?_
        refine x_qd B mvL_15 (q_unitInfo (by first | assumption | omega) (by first | assumption | omega) (by first | assumption | omega)) dL_units_231 rfl rfl (by decide) (by decide) (Nat.le_of_ble_eq_true rfl) (fun _ h => h) (fun r231 => ?_)
        refine x_if_ne (tgt := 241) B dL_units_234 (by decide) (by first | assumption | omega) (fun c234 => ?_) (fun c234 => ?_)
        · exfalso; omega
        · refine x_iconst B dL_units_237 ?_
          refine x_goto (tgt := 267) B dL_units_238 (by decide) ?_
          exact x_lret B R dL_units_267 rfl (by assumption) (by omega)
end UNT
theorem c_L_units {G : xG} {l : Launch} {e : Nat} {m : Int → Int} {ρ : Nat → Int → Int} {u x : Int} (h1 : OK m ρ) (h2 : 0 ≤ u ∧ u < m 2) (h3 : -2147483648 ≤ x ∧ x < 2147483648) : CT G l yL_units cL_units 8 (some .boolean) ({ frames := 5, cells := 0, slots := 0, locals := 118 } : Room) 0 0 [.ref e, vi u, vi x] (PE G e m ρ) (pZ True (PX G e m)) (AE e) := by
  refine x_met1 (own := RL) (nm := "units") (L := [(0, .ref e), (1, vi u), (2, vi x)]) (by decide) rfl rfl (fun _ => rfl) (Nat.le_of_ble_eq_true rfl) rfl rfl ?_
  intro Γ B R
  refine x_fact (fun H h => PE.rg h) (fun hm => ?_)
  have hI := h1.I
  have hb := hI.b
  obtain ⟨f1, -⟩ := fu hI h1.Q h2.1 h2.2
  refine x_aload_n B dL_units_0 rfl ?_
  refine x_iload_n B dL_units_1 rfl ?_
  refine x_iconst B dL_units_2 ?_
  refine x_qd B mvL_15 (q_unitInfo (by first | assumption | omega) (by first | assumption | omega) (by first | assumption | omega)) dL_units_3 rfl rfl (by decide) (by decide) (Nat.le_of_ble_eq_true rfl) (fun _ h => h) (fun r3 => ?_)
  refine x_istore_n B dL_units_6 (by decide) ?_
  refine x_cutI 23 (fun zz => (ui m u 2 = -4 ∧ zz = 0) ∨ (ui m u 2 ≠ -4 ∧ zz = bi m (ui m u 2) 5)) (fun K23 => ?_) (fun z23 h23 => ?_)
  · refine x_iload_n B dL_units_7 rfl ?_
    refine x_bipush B dL_units_8 (by decide) ?_
    refine x_icmp_ne (tgt := 17) B dL_units_10 (by decide) (by first | assumption | omega) (by first | assumption | omega) (fun c10 => ?_) (fun c10 => ?_)
    · refine x_aload_n B dL_units_17 rfl ?_
      refine x_iload_n B dL_units_18 rfl ?_
      refine x_iconst B dL_units_19 ?_
      refine x_qd B mvL_21 (q_batchInfo (by first | assumption | omega) (by first | assumption | omega) (by first | assumption | omega)) dL_units_20 rfl rfl (by decide) (by decide) (Nat.le_of_ble_eq_true rfl) (fun _ h => h) (fun r20 => ?_)
      exact K23 _ (by omega)
    · refine x_iconst B dL_units_13 ?_
      refine x_goto (tgt := 23) B dL_units_14 (by decide) ?_
      exact K23 _ (by omega)
  · refine x_istore B dL_units_23 (by decide) ?_
    refine x_aload_n B dL_units_25 rfl ?_
    refine x_iconst B dL_units_26 ?_
    refine x_qd B mvL_9 (q_count (by first | assumption | omega) (by first | assumption | omega)) dL_units_27 rfl rfl (by decide) (by decide) (Nat.le_of_ble_eq_true rfl) (fun _ h => h) (fun r27 => ?_)
    refine x_istore B dL_units_30 (by decide) ?_
    refine x_iload_n B dL_units_32 rfl ?_
    refine x_iconst B dL_units_33 ?_
    refine x_low B msL_50 dL_units_34 (by first | assumption | omega) (by decide) (by decide) (Nat.le_of_ble_eq_true rfl) (fun w34 => ?_)
    refine x_if_ne (tgt := 190) B dL_units_37 (by decide) (by first | assumption | omega) (fun c37 => ?_) (fun c37 => ?_)
    · refine x_locs (L' := [(0, .ref e), (1, vi u), (2, vi x), (3, vi (ui m u 2)), (4, vi z23), (5, vi (cn m 1))]) (xl_cons (rfl) (xl_cons (rfl) (xl_cons (rfl) (xl_cons (rfl) (xl_cons (rfl) (xl_cons (rfl) xl_nil)))))) ?_
      by_cases c : ui m u 3 = 1
      · exact unt_repair B R h1 hm h2 h3 h23 r27 c
      · exact unt_repairS B R h1 hm h2 h3 h23 r27 c
    · refine x_locs (L' := [(0, .ref e), (1, vi u), (2, vi x), (3, vi (ui m u 2)), (4, vi z23), (5, vi (cn m 1))]) (xl_cons (rfl) (xl_cons (rfl) (xl_cons (rfl) (xl_cons (rfl) (xl_cons (rfl) (xl_cons (rfl) xl_nil)))))) ?_
      by_cases c : ui m u 3 = 1
      · exact unt_failS B R h1 hm h2 h3 h23 r27 c
      · exact unt_fail B R h1 hm h2 h3 h23 r27 c
theorem c_L_ticks {G : xG} {l : Launch} {e : Nat} {m : Int → Int} {ρ : Nat → Int → Int} {t x : Int} (h1 : OK m ρ) (h2 : 1 ≤ t ∧ t ≤ 40) (h3 : -2147483648 ≤ x ∧ x < 2147483648) (h4 : 0 < m 3) (h5 : m 1 ≤ 40000) : CT G l yL_ticks cL_ticks 11 (some .boolean) ({ frames := 7, cells := 0, slots := 0, locals := 164 } : Room) 0 0 [.ref e, vi t, vi x] (PE G e m ρ) (pZ True (PX G e m)) (AE e) := by
  refine x_met1 (own := RL) (nm := "ticks") (L := [(0, .ref e), (1, vi t), (2, vi x)]) (by decide) rfl rfl (fun _ => rfl) (Nat.le_of_ble_eq_true rfl) rfl rfl ?_
  intro Γ B R
  refine x_fact (fun H h => PE.rg h) (fun hm => ?_)
  have hI := h1.I
  have hb := hI.b
  have c3 : cn m 3 = m 3 := rfl
  have c11 : cn m 11 = m 1 := rfl
  have hw16 : 0 ≤ cn m 16 ∧ cn m 16 ≤ 5000000 := by
    have g2 := sumU_rg hI.1 5 (Or.inr rfl) (m 2).toNat (by omega)
    have g4 := g2.2.2 rfl
    have g5 : 12 * m 1 * ((m 2).toNat : Int) ≤ 12 * m 1 * 8 := Int.mul_le_mul_of_nonneg_left (by omega) (by omega)
    rw [cn_16]
    omega
  have hb0 : 0 ≤ lw x (cn m 3) ∧ lw x (cn m 3) < m 3 := by
    have := lw_rg (v := x) (n := cn m 3) (by omega)
    omega
  obtain ⟨ho', ⟨e1, e2, e3⟩, g1, g2, g3, g4⟩ := OK_run h1 hm (t := t) (by omega) (by omega)
  have hq := q_run (G := G) (e := e) hI (t := t) (by omega) (by omega)
  have hI' := ho'.I
  have hu := q_undo (G := G) (e := e) h1 hI' hm
  obtain ⟨ho2, hn2⟩ := h1.undo hI' hm
  have hI2 := ho2.I
  have hq2 := q_run (G := G) (e := e) hI2 (t := t) (by omega) (by omega)
  have ho3 := (OK_run ho2 hm (t := t) (by omega) (by omega)).1
  have g4 := g4 (lw x (cn m 3)) hb0.1 hb0.2 (by omega)
  have hmul : 0 ≤ t * m 3 ∧ t * m 3 ≤ 480 := by
    have a1 : t * m 3 ≤ 40 * m 3 := Int.mul_le_mul_of_nonneg_right (by omega) (by omega)
    have a2 : 0 ≤ t * m 3 := Int.mul_nonneg (by omega) (by omega)
    omega
  generalize ukr m ρ = ρ2 at *
  generalize s_keep m ρ2 = ρ3 at *
  generalize s_ticks t.toNat m = m' at *
  generalize s_keep m ρ = ρ' at *
  have c3' : cn m' 3 = m 3 := e3
  have c11' : cn m' 11 = m 1 + t := e1
  have e33 : t * cn m' 3 = t * m 3 := by rw [c3']
  have hfo : oi m 0 = -4 ∨ (0 ≤ oi m 0 ∧ oi m 0 < m 3) := by omega
  refine x_aload_n B dL_ticks_0 rfl ?_
  refine x_bipush B dL_ticks_1 (by decide) ?_
  refine x_qd B mvL_9 (q_count (by first | assumption | omega) (by first | assumption | omega)) dL_ticks_3 rfl rfl (by decide) (by decide) (Nat.le_of_ble_eq_true rfl) (fun _ h => h) (fun r3 => ?_)
  refine x_istore_n B dL_ticks_6 (by decide) ?_
  refine x_aload_n B dL_ticks_7 rfl ?_
  refine x_bipush B dL_ticks_8 (by decide) ?_
  refine x_qd B mvL_9 (q_count (by first | assumption | omega) (by first | assumption | omega)) dL_ticks_10 rfl rfl (by decide) (by decide) (Nat.le_of_ble_eq_true rfl) (fun _ h => h) (fun r10 => ?_)
  refine x_istore B dL_ticks_13 (by decide) ?_
  refine x_aload_n B dL_ticks_15 rfl ?_
  refine x_iconst B dL_ticks_16 ?_
  refine x_qd B mvL_37 (q_inOrder (by first | assumption | omega) (by first | assumption | omega)) dL_ticks_17 rfl rfl (by decide) (by decide) (Nat.le_of_ble_eq_true rfl) (fun _ h => h) (fun r17 => ?_)
  refine x_istore B dL_ticks_20 (by decide) ?_
  refine x_cutI 39 (fun zz => ((oi m 0 = -4 ∧ zz = 1) ∨ (oi m 0 ≠ -4 ∧ zz = wi m (oi m 0))) ∧ (-2147483648 ≤ zz ∧ zz < 2147483648)) (fun K39 => ?_) (fun z39 h39 => ?_)
  · refine x_iload B dL_ticks_22 rfl ?_
    refine x_bipush B dL_ticks_24 (by decide) ?_
    refine x_icmp_ne (tgt := 33) B dL_ticks_26 (by decide) (by first | assumption | omega) (by first | assumption | omega) (fun c26 => ?_) (fun c26 => ?_)
    · refine x_aload_n B dL_ticks_33 rfl ?_
      refine x_iload B dL_ticks_34 rfl ?_
      refine x_qd B mvL_27 (q_waits (by first | assumption | omega) (by first | assumption | omega)) dL_ticks_36 rfl rfl (by decide) (by decide) (Nat.le_of_ble_eq_true rfl) (fun _ h => h) (fun r36 => ?_)
      exact K39 _ (by omega)
    · refine x_iconst B dL_ticks_29 ?_
      refine x_goto (tgt := 39) B dL_ticks_30 (by decide) ?_
      exact K39 _ (by omega)
  · refine x_istore B dL_ticks_39 (by decide) ?_
    refine x_aload_n B dL_ticks_41 rfl ?_
    refine x_bipush B dL_ticks_42 (by decide) ?_
    refine x_qd B mvL_9 (q_count (by first | assumption | omega) (by first | assumption | omega)) dL_ticks_44 rfl rfl (by decide) (by decide) (Nat.le_of_ble_eq_true rfl) (fun _ h => h) (fun r44 => ?_)
    refine x_istore B dL_ticks_47 (by decide) ?_
    refine x_iload_n B dL_ticks_49 rfl ?_
    refine x_aload_n B dL_ticks_50 rfl ?_
    refine x_iconst B dL_ticks_51 ?_
    refine x_qd B mvL_9 (q_count (by first | assumption | omega) (by first | assumption | omega)) dL_ticks_52 rfl rfl (by decide) (by decide) (Nat.le_of_ble_eq_true rfl) (fun _ h => h) (fun r52 => ?_)
    refine x_low B msL_50 dL_ticks_55 (by first | assumption | omega) (by decide) (by decide) (Nat.le_of_ble_eq_true rfl) (fun w55 => ?_)
    refine x_istore B dL_ticks_58 (by decide) ?_
    refine x_aload_n B dL_ticks_60 rfl ?_
    refine x_iload B dL_ticks_61 rfl ?_
    refine x_qd B mvL_90 (q_ticksTo (by first | assumption | omega) (by first | assumption | omega)) dL_ticks_63 rfl rfl (by decide) (by decide) (Nat.le_of_ble_eq_true rfl) (fun _ h => h) (fun r63 => ?_)
    refine x_istore B dL_ticks_66 (by decide) ?_
    refine x_aload_n B dL_ticks_68 rfl ?_
    refine x_iload_n B dL_ticks_69 rfl ?_
    refine x_qd B mvL_93 (id hq) dL_ticks_70 rfl rfl (by decide) (by decide) (Nat.le_of_ble_eq_true rfl) (fun _ h => h) (fun r70 => ?_)
    refine x_istore B dL_ticks_73 (by decide) ?_
    refine x_iload B dL_ticks_75 rfl ?_
    refine x_if_lt (tgt := 179) B dL_ticks_77 (by decide) (by first | assumption | omega) (fun c77 => ?_) (fun c77 => ?_)
    · exfalso; omega
    · refine x_aload_n B dL_ticks_80 rfl ?_
      refine x_bipush B dL_ticks_81 (by decide) ?_
      refine x_qd B mvL_9 (q_count (by first | assumption | omega) (by first | assumption | omega)) dL_ticks_83 rfl rfl (by decide) (by decide) (Nat.le_of_ble_eq_true rfl) (fun _ h => h) (fun r83 => ?_)
      refine x_iload_n B dL_ticks_86 rfl ?_
      refine x_iload_n B dL_ticks_87 rfl ?_
      refine x_iadd B dL_ticks_88 ?_
      refine x_icmp_ne (tgt := 179) B dL_ticks_89 (by decide) (by first | assumption | omega) (by first | assumption | omega) (fun c89 => ?_) (fun c89 => ?_)
      · exfalso; omega
      · refine x_aload_n B dL_ticks_92 rfl ?_
        refine x_bipush B dL_ticks_93 (by decide) ?_
        refine x_qd B mvL_9 (q_count (by first | assumption | omega) (by first | assumption | omega)) dL_ticks_95 rfl rfl (by decide) (by decide) (Nat.le_of_ble_eq_true rfl) (fun _ h => h) (fun r95 => ?_)
        refine x_iload B dL_ticks_98 rfl ?_
        refine x_iload B dL_ticks_100 rfl ?_
        refine x_iadd B dL_ticks_102 ?_
        refine x_icmp_ne (tgt := 179) B dL_ticks_103 (by decide) (by first | assumption | omega) (by first | assumption | omega) (fun c103 => ?_) (fun c103 => ?_)
        · exfalso; omega
        · refine x_cutI 124 (fun zz => (zz = 1 ∧ ti m (lw x (cn m 3)) ≠ -4 ∧ ti m (lw x (cn m 3)) ≤ t) ∨ (zz = 0 ∧ ¬ (ti m (lw x (cn m 3)) ≠ -4 ∧ ti m (lw x (cn m 3)) ≤ t))) (fun K124 => ?_) (fun z124 h124 => ?_)
          · refine x_iload B dL_ticks_106 rfl ?_
            refine x_bipush B dL_ticks_108 (by decide) ?_
            refine x_icmp_eq (tgt := 123) B dL_ticks_110 (by decide) (by first | assumption | omega) (by first | assumption | omega) (fun c110 => ?_) (fun c110 => ?_)
            · refine x_iconst B dL_ticks_123 ?_
              exact K124 _ (by omega)
            · refine x_iload B dL_ticks_113 rfl ?_
              refine x_iload_n B dL_ticks_115 rfl ?_
              refine x_icmp_gt (tgt := 123) B dL_ticks_116 (by decide) (by first | assumption | omega) (by first | assumption | omega) (fun c116 => ?_) (fun c116 => ?_)
              · refine x_iconst B dL_ticks_123 ?_
                exact K124 _ (by omega)
              · refine x_iconst B dL_ticks_119 ?_
                refine x_goto (tgt := 124) B dL_ticks_120 (by decide) ?_
                exact K124 _ (by omega)
          · refine x_cutI 141 (fun zz => (zz = 1 ∧ bi m' (lw x (cn m 3)) 5 = 6) ∨ (zz = 0 ∧ ¬ (bi m' (lw x (cn m 3)) 5 = 6))) (fun K141 => ?_) (fun z141 h141 => ?_)
            · refine x_aload_n B dL_ticks_124 rfl ?_
              refine x_iload B dL_ticks_125 rfl ?_
              refine x_iconst B dL_ticks_127 ?_
              refine x_qd B mvL_21 (q_batchInfo (by first | assumption | omega) (by first | assumption | omega) (by first | assumption | omega)) dL_ticks_128 rfl rfl (by decide) (by decide) (Nat.le_of_ble_eq_true rfl) (fun _ h => h) (fun r128 => ?_)
              refine x_bipush B dL_ticks_131 (by decide) ?_
              refine x_icmp_ne (tgt := 140) B dL_ticks_133 (by decide) (by first | assumption | omega) (by first | assumption | omega) (fun c133 => ?_) (fun c133 => ?_)
              · refine x_iconst B dL_ticks_140 ?_
                exact K141 _ (by omega)
              · refine x_iconst B dL_ticks_136 ?_
                refine x_goto (tgt := 141) B dL_ticks_137 (by decide) ?_
                exact K141 _ (by omega)
            · refine x_icmp_ne (tgt := 179) B dL_ticks_141 (by decide) (by first | assumption | omega) (by first | assumption | omega) (fun c141 => ?_) (fun c141 => ?_)
              · exfalso; omega
              · refine x_cut0 160 (True) (fun K160 => ?_) (fun h160 => ?_)
                · refine x_iload B dL_ticks_144 rfl ?_
                  refine x_if_ne (tgt := 160) B dL_ticks_146 (by decide) (by first | assumption | omega) (fun c146 => ?_) (fun c146 => ?_)
                  · exact K160 (trivial)
                  · refine x_aload_n B dL_ticks_149 rfl ?_
                    refine x_bipush B dL_ticks_150 (by decide) ?_
                    refine x_qd B mvL_9 (q_count (by first | assumption | omega) (by first | assumption | omega)) dL_ticks_152 rfl rfl (by decide) (by decide) (Nat.le_of_ble_eq_true rfl) (fun _ h => h) (fun r152 => ?_)
                    refine x_iload B dL_ticks_155 rfl ?_
                    refine x_icmp_eq (tgt := 179) B dL_ticks_157 (by decide) (by first | assumption | omega) (by first | assumption | omega) (fun c157 => ?_) (fun c157 => ?_)
                    · exfalso; omega
                    · exact K160 (trivial)
                · refine x_aload_n B dL_ticks_160 rfl ?_
                  refine x_bipush B dL_ticks_161 (by decide) ?_
                  refine x_qd B mvL_9 (q_count (by first | assumption | omega) (by first | assumption | omega)) dL_ticks_163 rfl rfl (by decide) (by decide) (Nat.le_of_ble_eq_true rfl) (fun _ h => h) (fun r163 => ?_)
                  refine x_iload B dL_ticks_166 rfl ?_
                  refine x_iload_n B dL_ticks_168 rfl ?_
                  refine x_aload_n B dL_ticks_169 rfl ?_
                  refine x_iconst B dL_ticks_170 ?_
                  refine x_qd B mvL_9 (q_count (by first | assumption | omega) (by first | assumption | omega)) dL_ticks_171 rfl rfl (by decide) (by decide) (Nat.le_of_ble_eq_true rfl) (fun _ h => h) (fun r171 => ?_)
                  refine x_imul B dL_ticks_174 ?_
                  refine x_iadd B dL_ticks_175 ?_
                  refine x_icmp_le (tgt := 181) B dL_ticks_176 (by decide) (by first | assumption | omega) (by first | assumption | omega) (fun c176 => ?_) (fun c176 => ?_)
                  · refine x_iload_n B dL_ticks_181 rfl ?_
                    refine x_iconst B dL_ticks_182 ?_
                    refine x_shrA B dL_ticks_183 (fun v183 q183 => ?_)
                    refine x_iconst B dL_ticks_184 ?_
                    refine x_low B msL_50 dL_ticks_185 (by first | assumption | omega) (by decide) (by decide) (Nat.le_of_ble_eq_true rfl) (fun w185 => ?_)
                    refine x_if_gt (tgt := 240) B dL_ticks_188 (by decide) (by first | assumption | omega) (fun c188 => ?_) (fun c188 => ?_)
                    · refine x_iconst B dL_ticks_240 ?_
                      refine x_goto (tgt := 245) B dL_ticks_241 (by decide) ?_
                      exact x_lret B R dL_ticks_245 rfl (by assumption) (by omega)
                    · refine x_aload_n B dL_ticks_191 rfl ?_
                      refine x_qd B mvL_69 (id hu) dL_ticks_192 rfl rfl (by decide) (by decide) (Nat.le_of_ble_eq_true rfl) (fun _ h => h) (fun r192 => ?_)
                      refine x_if_lt (tgt := 244) B dL_ticks_195 (by decide) (by first | assumption | omega) (fun c195 => ?_) (fun c195 => ?_)
                      · exfalso; omega
                      · refine x_aload_n B dL_ticks_198 rfl ?_
                        refine x_bipush B dL_ticks_199 (by decide) ?_
                        refine x_qd B mvL_9 (q_count (by first | assumption | omega) (by first | assumption | omega)) dL_ticks_201 rfl rfl (by decide) (by decide) (Nat.le_of_ble_eq_true rfl) (fun _ h => h) (fun r201 => ?_)
                        refine x_iload_n B dL_ticks_204 rfl ?_
                        refine x_icmp_ne (tgt := 244) B dL_ticks_205 (by decide) (by first | assumption | omega) (by first | assumption | omega) (fun c205 => ?_) (fun c205 => ?_)
                        · exfalso; omega
                        · refine x_aload_n B dL_ticks_208 rfl ?_
                          refine x_bipush B dL_ticks_209 (by decide) ?_
                          refine x_qd B mvL_9 (q_count (by first | assumption | omega) (by first | assumption | omega)) dL_ticks_211 rfl rfl (by decide) (by decide) (Nat.le_of_ble_eq_true rfl) (fun _ h => h) (fun r211 => ?_)
                          refine x_iload B dL_ticks_214 rfl ?_
                          refine x_icmp_ne (tgt := 244) B dL_ticks_216 (by decide) (by first | assumption | omega) (by first | assumption | omega) (fun c216 => ?_) (fun c216 => ?_)
                          · exfalso; omega
                          · refine x_aload_n B dL_ticks_219 rfl ?_
                            refine x_bipush B dL_ticks_220 (by decide) ?_
                            refine x_qd B mvL_9 (q_count (by first | assumption | omega) (by first | assumption | omega)) dL_ticks_222 rfl rfl (by decide) (by decide) (Nat.le_of_ble_eq_true rfl) (fun _ h => h) (fun r222 => ?_)
                            refine x_iload B dL_ticks_225 rfl ?_
                            refine x_icmp_ne (tgt := 244) B dL_ticks_227 (by decide) (by first | assumption | omega) (by first | assumption | omega) (fun c227 => ?_) (fun c227 => ?_)
                            · exfalso; omega
                            · refine x_aload_n B dL_ticks_230 rfl ?_
                              refine x_iload_n B dL_ticks_231 rfl ?_
                              refine x_qd B mvL_93 (id hq2) dL_ticks_232 rfl rfl (by decide) (by decide) (Nat.le_of_ble_eq_true rfl) (fun _ h => h) (fun r232 => ?_)
                              refine x_iload B dL_ticks_235 rfl ?_
                              refine x_icmp_ne (tgt := 244) B dL_ticks_237 (by decide) (by first | assumption | omega) (by first | assumption | omega) (fun c237 => ?_) (fun c237 => ?_)
                              · exfalso; omega
                              · refine x_iconst B dL_ticks_240 ?_
                                refine x_goto (tgt := 245) B dL_ticks_241 (by decide) ?_
                                exact x_lret B R dL_ticks_245 rfl (by assumption) (by omega)
                  · exfalso; omega
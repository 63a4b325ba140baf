/-! ===== the law's commands of a batch ===== -/
section CMD
variable {Γ : xE} {G : xG} {e : Nat} {m : Int → Int} {ρ : Nat → Int → Int} {b x : Int}
theorem cmd_start (B : XB Γ G cL_commands RL 11 ({ frames := 5, cells := 0, slots := 0, locals := 120 } : Room) (AE e)) (R : XR Γ "commands" (some .boolean) 0 0 (xQ (pZ True (PX G e m)) (AE e))) (ho : OK m ρ) (hm : ∀ k, -2147483648 ≤ m k ∧ m k < 2147483648) (hb0 : 0 ≤ b ∧ b < m 3) (hx : -2147483648 ≤ x ∧ x < 2147483648) (h5 : bi m b 5 = 0) : XJ Γ 0 0 (PE G e m ρ) 39 [(0, .ref e), (1, vi b), (2, vi x), (3, vi (bi m b 5)), (4, vi (bi m b 9)), (5, vi (bi m b 8))] [] := by
  have hI := ho.I
  have hb := hI.b
  obtain ⟨⟨-, -, -, f4⟩, ⟨f5, f6, f7, f8⟩, f9, -, f11, f12, -⟩ := fb hI ho.Q hb0.1 hb0.2
  clear f5 f6 f7 f8 f12
  obtain ⟨ho', ⟨e1, e2, e3⟩, g1⟩ := OK_start ho hm hb0 h5
  have hq := q_start (G := G) (e := e) hI hb0 h5
  have hI' := ho'.I
  generalize up m (548 + 10 * b + 5) 1 = m' at *
  generalize s_keep m ρ = ρ' at *
  refine x_aload_n B dL_commands_39 rfl ?_
  refine x_iconst B dL_commands_40 ?_
  refine x_qd B mvL_9 (q_count (by first | assumption | omega) (by first | assumption | omega)) dL_commands_41 rfl rfl (by decide) (by decide) (Nat.le_of_ble_eq_true rfl) (fun _ h => h) (fun r41 => ?_)
  refine x_istore B dL_commands_44 (by decide) ?_
  refine x_aload_n B dL_commands_46 rfl ?_
  refine x_iload_n B dL_commands_47 rfl ?_
  refine x_qd B mvL_63 (id hq) dL_commands_48 rfl rfl (by decide) (by decide) (Nat.le_of_ble_eq_true rfl) (fun _ h => h) (fun r48 => ?_)
  refine x_istore B dL_commands_51 (by decide) ?_
  refine x_iload_n B dL_commands_53 rfl ?_
  refine x_if_ne (tgt := 84) B dL_commands_54 (by decide) (by first | assumption | omega) (fun c54 => ?_) (fun c54 => ?_)
  · exfalso; omega
  · refine x_iload B dL_commands_57 rfl ?_
    refine x_iload B dL_commands_59 rfl ?_
    refine x_iconst B dL_commands_61 ?_
    refine x_iadd B dL_commands_62 ?_
    refine x_icmp_ne (tgt := 80) B dL_commands_63 (by decide) (by first | assumption | omega) (by first | assumption | omega) (fun c63 => ?_) (fun c63 => ?_)
    · exfalso; omega
    · refine x_aload_n B dL_commands_66 rfl ?_
      refine x_iload_n B dL_commands_67 rfl ?_
      refine x_iconst B dL_commands_68 ?_
      refine x_qd B mvL_21 (q_batchInfo (by first | assumption | omega) (by first | assumption | omega) (by first | assumption | omega)) dL_commands_69 rfl rfl (by decide) (by decide) (Nat.le_of_ble_eq_true rfl) (fun _ h => h) (fun r69 => ?_)
      refine x_iconst B dL_commands_72 ?_
      refine x_icmp_ne (tgt := 80) B dL_commands_73 (by decide) (by first | assumption | omega) (by first | assumption | omega) (fun c73 => ?_) (fun c73 => ?_)
      · exfalso; omega
      · refine x_iconst B dL_commands_76 ?_
        refine x_goto (tgt := 106) B dL_commands_77 (by decide) ?_
        exact x_lret B R dL_commands_106 rfl (by assumption) (by omega)
theorem cmd_startS (B : XB Γ G cL_commands RL 11 ({ frames := 5, cells := 0, slots := 0, locals := 120 } : Room) (AE e)) (R : XR Γ "commands" (some .boolean) 0 0 (xQ (pZ True (PX G e m)) (AE e))) (ho : OK m ρ) (hm : ∀ k, -2147483648 ≤ m k ∧ m k < 2147483648) (hb0 : 0 ≤ b ∧ b < m 3) (hx : -2147483648 ≤ x ∧ x < 2147483648) (h5 : bi m b 5 ≠ 0) : XJ Γ 0 0 (PE G e m ρ) 39 [(0, .ref e), (1, vi b), (2, vi x), (3, vi (bi m b 5)), (4, vi (bi m b 9)), (5, vi (bi m b 8))] [] := by
  have hI := ho.I
  have hb := hI.b
  obtain ⟨⟨-, -, -, f4⟩, ⟨f5, f6, f7, f8⟩, f9, -, f11, f12, -⟩ := fb hI ho.Q hb0.1 hb0.2
  clear f5 f6 f7 f8 f12
  refine x_aload_n B dL_commands_39 rfl ?_
  refine x_iconst B dL_commands_40 ?_
  refine x_qd B mvL_9 (q_count (by first | assumption | omega) (by first | assumption | omega)) dL_commands_41 rfl rfl (by decide) (by decide) (Nat.le_of_ble_eq_true rfl) (fun _ h => h) (fun r41 => ?_)
  refine x_istore B dL_commands_44 (by decide) ?_
  refine x_aload_n B dL_commands_46 rfl ?_
  refine x_iload_n B dL_commands_47 rfl ?_
  refine x_qd B mvL_63 (q_startS hI hb0 h5) dL_commands_48 rfl rfl (by decide) (by decide) (Nat.le_of_ble_eq_true rfl) (fun _ h => h) (fun r48 => ?_)
  refine x_istore B dL_commands_51 (by decide) ?_
  refine x_iload_n B dL_commands_53 rfl ?_
  refine x_if_ne (tgt := 84) B dL_commands_54 (by decide) (by first | assumption | omega) (fun c54 => ?_) (fun c54 => ?_)
  · refine x_iload B dL_commands_84 rfl ?_
    refine x_bipush B dL_commands_86 (by decide) ?_
    refine x_icmp_ne (tgt := 105) B dL_commands_88 (by decide) (by first | assumption | omega) (by first | assumption | omega) (fun c88 => ?_) (fun c88 => ?_)
    · exfalso; omega
    · refine x_aload_n B dL_commands_91 rfl ?_
      refine x_iload_n B dL_commands_92 rfl ?_
      refine x_iconst B dL_commands_93 ?_
      refine x_qd B mvL_21 (q_batchInfo (by first | assumption | omega) (by first | assumption | omega) (by first | assumption | omega)) dL_commands_94 rfl rfl (by decide) (by decide) (Nat.le_of_ble_eq_true rfl) (fun _ h => h) (fun r94 => ?_)
      refine x_iload_n B dL_commands_97 rfl ?_
      refine x_icmp_ne (tgt := 105) B dL_commands_98 (by decide) (by first | assumption | omega) (by first | assumption | omega) (fun c98 => ?_) (fun c98 => ?_)
      · exfalso; omega
      · refine x_iconst B dL_commands_101 ?_
        refine x_goto (tgt := 106) B dL_commands_102 (by decide) ?_
        exact x_lret B R dL_commands_106 rfl (by assumption) (by omega)
  · exfalso; omega
theorem cmd_hold (B : XB Γ G cL_commands RL 11 ({ frames := 5, cells := 0, slots := 0, locals := 120 } : Room) (AE e)) (R : XR Γ "commands" (some .boolean) 0 0 (xQ (pZ True (PX G e m)) (AE e))) (ho : OK m ρ) (hm : ∀ k, -2147483648 ≤ m k ∧ m k < 2147483648) (hb0 : 0 ≤ b ∧ b < m 3) (hx : -2147483648 ≤ x ∧ x < 2147483648) (h5 : bi m b 5 = 1 ∨ bi m b 5 = 3) : XJ Γ 0 0 (PE G e m ρ) 113 [(0, .ref e), (1, vi b), (2, vi x), (3, vi (bi m b 5)), (4, vi (bi m b 9)), (5, vi (bi m b 8))] [] := by
  have hI := ho.I
  have hb := hI.b
  obtain ⟨⟨-, -, -, f4⟩, ⟨f5, f6, f7, f8⟩, f9, -, f11, f12, -⟩ := fb hI ho.Q hb0.1 hb0.2
  clear f5 f6 f7 f8 f12
  obtain ⟨ho', ⟨e1, e2, e3⟩, g1, g2, g3, g4⟩ := OK_hold ho hm hb0 h5
  have hq := q_hold (G := G) (e := e) hI hb0 h5
  have hI' := ho'.I
  have hu := q_undo (G := G) (e := e) ho hI' hm
  obtain ⟨ho2, hn2⟩ := ho.undo hI' hm
  have hI2 := ho2.I
  generalize ukr m ρ = ρ2 at *
  generalize s_holds m b = m' at *
  generalize s_keep m ρ = ρ' at *
  refine x_aload_n B dL_commands_113 rfl ?_
  refine x_bipush B dL_commands_114 (by decide) ?_
  refine x_qd B mvL_9 (q_count (by first | assumption | omega) (by first | assumption | omega)) dL_commands_116 rfl rfl (by decide) (by decide) (Nat.le_of_ble_eq_true rfl) (fun _ h => h) (fun r116 => ?_)
  refine x_istore B dL_commands_119 (by decide) ?_
  refine x_aload_n B dL_commands_121 rfl ?_
  refine x_iload_n B dL_commands_122 rfl ?_
  refine x_qd B mvL_66 (id hq) dL_commands_123 rfl rfl (by decide) (by decide) (Nat.le_of_ble_eq_true rfl) (fun _ h => h) (fun r123 => ?_)
  refine x_istore B dL_commands_126 (by decide) ?_
  refine x_cut0 138 (True) (fun K138 => ?_) (fun h138 => ?_)
  · refine x_iload_n B dL_commands_128 rfl ?_
    refine x_iconst B dL_commands_129 ?_
    refine x_icmp_eq (tgt := 138) B dL_commands_130 (by decide) (by first | assumption | omega) (by first | assumption | omega) (fun c130 => ?_) (fun c130 => ?_)
    · exact K138 (trivial)
    · refine x_iload_n B dL_commands_133 rfl ?_
      refine x_iconst B dL_commands_134 ?_
      refine x_icmp_ne (tgt := 224) B dL_commands_135 (by decide) (by first | assumption | omega) (by first | assumption | omega) (fun c135 => ?_) (fun c135 => ?_)
      · exfalso; omega
      · exact K138 (trivial)
  · refine x_iload B dL_commands_138 rfl ?_
    refine x_iload B dL_commands_140 rfl ?_
    refine x_iconst B dL_commands_142 ?_
    refine x_iadd B dL_commands_143 ?_
    refine x_icmp_ne (tgt := 220) B dL_commands_144 (by decide) (by first | assumption | omega) (by first | assumption | omega) (fun c144 => ?_) (fun c144 => ?_)
    · exfalso; omega
    · refine x_aload_n B dL_commands_147 rfl ?_
      refine x_iload_n B dL_commands_148 rfl ?_
      refine x_iconst B dL_commands_149 ?_
      refine x_qd B mvL_21 (q_batchInfo (by first | assumption | omega) (by first | assumption | omega) (by first | assumption | omega)) dL_commands_150 rfl rfl (by decide) (by decide) (Nat.le_of_ble_eq_true rfl) (fun _ h => h) (fun r150 => ?_)
      refine x_iconst B dL_commands_153 ?_
      refine x_icmp_ne (tgt := 220) B dL_commands_154 (by decide) (by first | assumption | omega) (by first | assumption | omega) (fun c154 => ?_) (fun c154 => ?_)
      · exfalso; omega
      · refine x_aload_n B dL_commands_157 rfl ?_
        refine x_iload_n B dL_commands_158 rfl ?_
        refine x_bipush B dL_commands_159 (by decide) ?_
        refine x_qd B mvL_21 (q_batchInfo (by first | assumption | omega) (by first | assumption | omega) (by first | assumption | omega)) dL_commands_161 rfl rfl (by decide) (by decide) (Nat.le_of_ble_eq_true rfl) (fun _ h => h) (fun r161 => ?_)
        refine x_iload B dL_commands_164 rfl ?_
        refine x_icmp_ne (tgt := 220) B dL_commands_166 (by decide) (by first | assumption | omega) (by first | assumption | omega) (fun c166 => ?_) (fun c166 => ?_)
        · exfalso; omega
        · refine x_aload_n B dL_commands_169 rfl ?_
          refine x_iconst B dL_commands_170 ?_
          refine x_iconst B dL_commands_171 ?_
          refine x_qd B mvL_40 (q_event (by first | assumption | omega) (by first | assumption | omega) (by first | assumption | omega)) dL_commands_172 rfl rfl (by decide) (by decide) (Nat.le_of_ble_eq_true rfl) (fun _ h => h) (fun r172 => ?_)
          refine x_iconst B dL_commands_175 ?_
          refine x_icmp_ne (tgt := 220) B dL_commands_176 (by decide) (by first | assumption | omega) (by first | assumption | omega) (fun c176 => ?_) (fun c176 => ?_)
          · exfalso; omega
          · refine x_aload_n B dL_commands_179 rfl ?_
            refine x_iconst B dL_commands_180 ?_
            refine x_iconst B dL_commands_181 ?_
            refine x_qd B mvL_40 (q_event (by first | assumption | omega) (by first | assumption | omega) (by first | assumption | omega)) dL_commands_182 rfl rfl (by decide) (by decide) (Nat.le_of_ble_eq_true rfl) (fun _ h => h) (fun r182 => ?_)
            refine x_iload_n B dL_commands_185 rfl ?_
            refine x_icmp_ne (tgt := 220) B dL_commands_186 (by decide) (by first | assumption | omega) (by first | assumption | omega) (fun c186 => ?_) (fun c186 => ?_)
            · exfalso; omega
            · refine x_iload_n B dL_commands_189 rfl ?_
              refine x_iconst B dL_commands_190 ?_
              refine x_shrA B dL_commands_191 (fun v191 q191 => ?_)
              refine x_iconst B dL_commands_192 ?_
              refine x_low B msL_50 dL_commands_193 (by first | assumption | omega) (by decide) (by decide) (Nat.le_of_ble_eq_true rfl) (fun w193 => ?_)
              refine x_if_eq (tgt := 216) B dL_commands_196 (by decide) (by first | assumption | omega) (fun c196 => ?_) (fun c196 => ?_)
              · refine x_iconst B dL_commands_216 ?_
                refine x_goto (tgt := 236) B dL_commands_217 (by decide) ?_
                exact x_lret B R dL_commands_236 rfl (by assumption) (by omega)
              · refine x_aload_n B dL_commands_199 rfl ?_
                refine x_qd B mvL_69 (id hu) dL_commands_200 rfl rfl (by decide) (by decide) (Nat.le_of_ble_eq_true rfl) (fun _ h => h) (fun r200 => ?_)
                refine x_if_lt (tgt := 220) B dL_commands_203 (by decide) (by first | assumption | omega) (fun c203 => ?_) (fun c203 => ?_)
                · exfalso; omega
                · refine x_aload_n B dL_commands_206 rfl ?_
                  refine x_iload_n B dL_commands_207 rfl ?_
                  refine x_iconst B dL_commands_208 ?_
                  refine x_qd B mvL_21 (q_batchInfo (by first | assumption | omega) (by first | assumption | omega) (by first | assumption | omega)) dL_commands_209 rfl rfl (by decide) (by decide) (Nat.le_of_ble_eq_true rfl) (fun _ h => h) (fun r209 => ?_)
                  refine x_iload_n B dL_commands_212 rfl ?_
                  refine x_icmp_ne (tgt := 220) B dL_commands_213 (by decide) (by first | assumption | omega) (by first | assumption | omega) (fun c213 => ?_) (fun c213 => ?_)
                  · exfalso; omega
                  · refine x_iconst B dL_commands_216 ?_
                    refine x_goto (tgt := 236) B dL_commands_217 (by decide) ?_
                    exact x_lret B R dL_commands_236 rfl (by assumption) (by omega)
theorem cmd_holdS (B : XB Γ G cL_commands RL 11 ({ frames := 5, cells := 0, slots := 0, locals := 120 } : Room) (AE e)) (R : XR Γ "commands" (some .boolean) 0 0 (xQ (pZ True (PX G e m)) (AE e))) (ho : OK m ρ) (hm : ∀ k, -2147483648 ≤ m k ∧ m k < 2147483648) (hb0 : 0 ≤ b ∧ b < m 3) (hx : -2147483648 ≤ x ∧ x < 2147483648) (h5 : ¬ (bi m b 5 = 1 ∨ bi m b 5 = 3)) : XJ Γ 0 0 (PE G e m ρ) 113 [(0, .ref e), (1, vi b), (2, vi x), (3, vi (bi m b 5)), (4, vi (bi m b 9)), (5, vi (bi m b 8))] [] := by
  have hI := ho.I
  have hb := hI.b
  obtain ⟨⟨-, -, -, f4⟩, ⟨f5, f6, f7, f8⟩, f9, -, f11, f12, -⟩ := fb hI ho.Q hb0.1 hb0.2
  clear f5 f6 f7 f8 f12
  refine x_aload_n B dL_commands_113 rfl ?_
  refine x_bipush B dL_commands_114 (by decide) ?_
  refine x_qd B mvL_9 (q_count (by first | assumption | omega) (by first | assumption | omega)) dL_commands_116 rfl rfl (by decide) (by decide) (Nat.le_of_ble_eq_true rfl) (fun _ h => h) (fun r116 => ?_)
  refine x_istore B dL_commands_119 (by decide) ?_
  refine x_aload_n B dL_commands_121 rfl ?_
  refine x_iload_n B dL_commands_122 rfl ?_
  refine x_qd B mvL_66 (q_holdS hI hb0 h5) dL_commands_123 rfl rfl (by decide) (by decide) (Nat.le_of_ble_eq_true rfl) (fun _ h => h) (fun r123 => ?_)
  refine x_istore B dL_commands_126 (by decide) ?_
  refine x_iload_n B dL_commands_128 rfl ?_
  refine x_iconst B dL_commands_129 ?_
  refine x_icmp_eq (tgt := 138) B dL_commands_130 (by decide) (by first | assumption | omega) (by first | assumption | omega) (fun c130 => ?_) (fun c130 => ?_)
  · exfalso; omega
  · refine x_iload_n B dL_commands_133 rfl ?_
    refine x_iconst B dL_commands_134 ?_
    refine x_icmp_ne (tgt := 224) B dL_commands_135 (by decide) (by first | assumption | omega) (by first | assumption | omega) (fun c135 => ?_) (fun c135 => ?_)
    · refine x_iload B dL_commands_224 rfl ?_
      refine x_bipush B dL_commands_226 (by decide) ?_
      refine x_icmp_ne (tgt := 235) B dL_commands_228 (by decide) (by first | assumption | omega) (by first | assumption | omega) (fun c228 => ?_) (fun c228 => ?_)
      · exfalso; omega
      · refine x_iconst B dL_commands_231 ?_
        refine x_goto (tgt := 236) B dL_commands_232 (by decide) ?_
        exact x_lret B R dL_commands_236 rfl (by assumption) (by omega)
    · exfalso; omega
theorem cmd_restart (B : XB Γ G cL_commands RL 11 ({ frames := 5, cells := 0, slots := 0, locals := 120 } : Room) (AE e)) (R : XR Γ "commands" (some .boolean) 0 0 (xQ (pZ True (PX G e m)) (AE e))) (ho : OK m ρ) (hm : ∀ k, -2147483648 ≤ m k ∧ m k < 2147483648) (hb0 : 0 ≤ b ∧ b < m 3) (hx : -2147483648 ≤ x ∧ x < 2147483648) (h5 : bi m b 5 = 2) (h8 : bi m b 8 = -4 ∨ ui m (bi m b 8) 3 = 0) : XJ Γ 0 0 (PE G e m ρ) 244 [(0, .ref e), (1, vi b), (2, vi x), (3, vi (bi m b 5)), (4, vi (bi m b 9)), (5, vi (bi m b 8))] [] := by
  have hI := ho.I
  have hb := hI.b
  obtain ⟨⟨-, -, -, f4⟩, ⟨f5, f6, f7, f8⟩, f9, -, f11, f12, -⟩ := fb hI ho.Q hb0.1 hb0.2
  clear f5 f6 f7 f8 f12
  obtain ⟨ho', ⟨e1, e2, e3⟩, g1, g2, g3, g4⟩ := OK_restart ho hm hb0 h5 h8
  have hq := q_restart (G := G) (e := e) hI hb0 h5 h8
  have hI' := ho'.I
  have g5 : bi m b 8 ≠ -4 → ui (s_restart m b) (bi m b 8) 3 = ui m (bi m b 8) 3 := fun q => g4 _ (by omega) (by omega)
  clear g4
  generalize s_restart m b = m' at *
  generalize s_keep m ρ = ρ' at *
  refine x_aload_n B dL_commands_244 rfl ?_
  refine x_iload_n B dL_commands_245 rfl ?_
  refine x_bipush B dL_commands_246 (by decide) ?_
  refine x_qd B mvL_21 (q_batchInfo (by first | assumption | omega) (by first | assumption | omega) (by first | assumption | omega)) dL_commands_248 rfl rfl (by decide) (by decide) (Nat.le_of_ble_eq_true rfl) (fun _ h => h) (fun r248 => ?_)
  refine x_istore B dL_commands_251 (by decide) ?_
  refine x_aload_n B dL_commands_253 rfl ?_
  refine x_iload_n B dL_commands_254 rfl ?_
  refine x_qd B mvL_72 (id hq) dL_commands_255 rfl rfl (by decide) (by decide) (Nat.le_of_ble_eq_true rfl) (fun _ h => h) (fun r255 => ?_)
  refine x_istore B dL_commands_258 (by decide) ?_
  refine x_cutI 287 (fun zz => zz = 1) (fun K287 => ?_) (fun z287 h287 => ?_)
  · refine x_iload_n B dL_commands_260 rfl ?_
    refine x_iconst B dL_commands_261 ?_
    refine x_icmp_ne (tgt := 286) B dL_commands_262 (by decide) (by first | assumption | omega) (by first | assumption | omega) (fun c262 => ?_) (fun c262 => ?_)
    · exfalso; omega
    · refine x_iload B dL_commands_265 rfl ?_
      refine x_bipush B dL_commands_267 (by decide) ?_
      refine x_icmp_eq (tgt := 282) B dL_commands_269 (by decide) (by first | assumption | omega) (by first | assumption | omega) (fun c269 => ?_) (fun c269 => ?_)
      · refine x_iconst B dL_commands_282 ?_
        refine x_goto (tgt := 287) B dL_commands_283 (by decide) ?_
        exact K287 _ (by omega)
      · refine x_aload_n B dL_commands_272 rfl ?_
        refine x_iload B dL_commands_273 rfl ?_
        refine x_iconst B dL_commands_275 ?_
        refine x_qd B mvL_15 (q_unitInfo (by first | assumption | omega) (by first | assumption | omega) (by first | assumption | omega)) dL_commands_276 rfl rfl (by decide) (by decide) (Nat.le_of_ble_eq_true rfl) (fun _ h => h) (fun r276 => ?_)
        refine x_if_ne (tgt := 286) B dL_commands_279 (by decide) (by first | assumption | omega) (fun c279 => ?_) (fun c279 => ?_)
        · exfalso; omega
        · refine x_iconst B dL_commands_282 ?_
          refine x_goto (tgt := 287) B dL_commands_283 (by decide) ?_
          exact K287 _ (by omega)
  · refine x_istore B dL_commands_287 (by decide) ?_
    refine x_iload B dL_commands_289 rfl ?_
    refine x_if_eq (tgt := 341) B dL_commands_291 (by decide) (by first | assumption | omega) (fun c291 => ?_) (fun c291 => ?_)
    · exfalso; omega
    · refine x_iload B dL_commands_294 rfl ?_
      refine x_iload B dL_commands_296 rfl ?_
      refine x_icmp_lt (tgt := 337) B dL_commands_298 (by decide) (by first | assumption | omega) (by first | assumption | omega) (fun c298 => ?_) (fun c298 => ?_)
      · exfalso; omega
      · refine x_aload_n B dL_commands_301 rfl ?_
        refine x_iload_n B dL_commands_302 rfl ?_
        refine x_iconst B dL_commands_303 ?_
        refine x_qd B mvL_21 (q_batchInfo (by first | assumption | omega) (by first | assumption | omega) (by first | assumption | omega)) dL_commands_304 rfl rfl (by decide) (by decide) (Nat.le_of_ble_eq_true rfl) (fun _ h => h) (fun r304 => ?_)
        refine x_iconst B dL_commands_307 ?_
        refine x_icmp_ne (tgt := 337) B dL_commands_308 (by decide) (by first | assumption | omega) (by first | assumption | omega) (fun c308 => ?_) (fun c308 => ?_)
        · exfalso; omega
        · refine x_aload_n B dL_commands_311 rfl ?_
          refine x_iload_n B dL_commands_312 rfl ?_
          refine x_bipush B dL_commands_313 (by decide) ?_
          refine x_qd B mvL_21 (q_batchInfo (by first | assumption | omega) (by first | assumption | omega) (by first | assumption | omega)) dL_commands_315 rfl rfl (by decide) (by decide) (Nat.le_of_ble_eq_true rfl) (fun _ h => h) (fun r315 => ?_)
          refine x_iload B dL_commands_318 rfl ?_
          refine x_icmp_ne (tgt := 337) B dL_commands_320 (by decide) (by first | assumption | omega) (by first | assumption | omega) (fun c320 => ?_) (fun c320 => ?_)
          · exfalso; omega
          · refine x_aload_n B dL_commands_323 rfl ?_
            refine x_iconst B dL_commands_324 ?_
            refine x_iconst B dL_commands_325 ?_
            refine x_qd B mvL_40 (q_event (by first | assumption | omega) (by first | assumption | omega) (by first | assumption | omega)) dL_commands_326 rfl rfl (by decide) (by decide) (Nat.le_of_ble_eq_true rfl) (fun _ h => h) (fun r326 => ?_)
            refine x_iconst B dL_commands_329 ?_
            refine x_icmp_ne (tgt := 337) B dL_commands_330 (by decide) (by first | assumption | omega) (by first | assumption | omega) (fun c330 => ?_) (fun c330 => ?_)
            · exfalso; omega
            · refine x_iconst B dL_commands_333 ?_
              refine x_goto (tgt := 363) B dL_commands_334 (by decide) ?_
              exact x_lret B R dL_commands_363 rfl (by assumption) (by omega)
theorem cmd_restartS (B : XB Γ G cL_commands RL 11 ({ frames := 5, cells := 0, slots := 0, locals := 120 } : Room) (AE e)) (R : XR Γ "commands" (some .boolean) 0 0 (xQ (pZ True (PX G e m)) (AE e))) (ho : OK m ρ) (hm : ∀ k, -2147483648 ≤ m k ∧ m k < 2147483648) (hb0 : 0 ≤ b ∧ b < m 3) (hx : -2147483648 ≤ x ∧ x < 2147483648) (h5 : bi m b 5 ≠ 2 ∨ (bi m b 8 ≠ -4 ∧ ui m (bi m b 8) 3 = 1)) : XJ Γ 0 0 (PE G e m ρ) 244 [(0, .ref e), (1, vi b), (2, vi x), (3, vi (bi m b 5)), (4, vi (bi m b 9)), (5, vi (bi m b 8))] [] := by
  have hI := ho.I
  have hb := hI.b
  obtain ⟨⟨-, -, -, f4⟩, ⟨f5, f6, f7, f8⟩, f9, -, f11, f12, -⟩ := fb hI ho.Q hb0.1 hb0.2
  clear f5 f6 f7 f8 f12
  refine x_aload_n B dL_commands_244 rfl ?_
  refine x_iload_n B dL_commands_245 rfl ?_
  refine x_bipush B dL_commands_246 (by decide) ?_
  refine x_qd B mvL_21 (q_batchInfo (by first | assumption | omega) (by first | assumption | omega) (by first | assumption | omega)) dL_commands_248 rfl rfl (by decide) (by decide) (Nat.le_of_ble_eq_true rfl) (fun _ h => h) (fun r248 => ?_)
  refine x_istore B dL_commands_251 (by decide) ?_
  refine x_aload_n B dL_commands_253 rfl ?_
  refine x_iload_n B dL_commands_254 rfl ?_
  refine x_qd B mvL_72 (q_restartS hI hb0 h5) dL_commands_255 rfl rfl (by decide) (by decide) (Nat.le_of_ble_eq_true rfl) (fun _ h => h) (fun r255 => ?_)
  refine x_istore B dL_commands_258 (by decide) ?_
  refine x_cutI 287 (fun zz => zz = 0) (fun K287 => ?_) (fun z287 h287 => ?_)
  · refine x_iload_n B dL_commands_260 rfl ?_
    refine x_iconst B dL_commands_261 ?_
    refine x_icmp_ne (tgt := 286) B dL_commands_262 (by decide) (by first | assumption | omega) (by first | assumption | omega) (fun c262 => ?_) (fun c262 => ?_)
    · refine x_iconst B dL_commands_286 ?_
      exact K287 _ (by omega)
    · refine x_iload B dL_commands_265 rfl ?_
      refine x_bipush B dL_commands_267 (by decide) ?_
      refine x_icmp_eq (tgt := 282) B dL_commands_269 (by decide) (by first | assumption | omega) (by first | assumption | omega) (fun c269 => ?_) (fun c269 => ?_)
      · exfalso; omega
      · refine x_aload_n B dL_commands_272 rfl ?_
        refine x_iload B dL_commands_273 rfl ?_
        refine x_iconst B dL_commands_275 ?_
        refine x_qd B mvL_15 (q_unitInfo (by first | assumption | omega) (by first | assumption | omega) (by first | assumption | omega)) dL_commands_276 rfl rfl (by decide) (by decide) (Nat.le_of_ble_eq_true rfl) (fun _ h => h) (fun r276 => ?_)
        refine x_if_ne (tgt := 286) B dL_commands_279 (by decide) (by first | assumption | omega) (fun c279 => ?_) (fun c279 => ?_)
        · refine x_iconst B dL_commands_286 ?_
          exact K287 _ (by omega)
        · exfalso; omega
  · refine x_istore B dL_commands_287 (by decide) ?_
    refine x_iload B dL_commands_289 rfl ?_
    refine x_if_eq (tgt := 341) B dL_commands_291 (by decide) (by first | assumption | omega) (fun c291 => ?_) (fun c291 => ?_)
    · refine x_iload B dL_commands_341 rfl ?_
      refine x_bipush B dL_commands_343 (by decide) ?_
      refine x_icmp_ne (tgt := 362) B dL_commands_345 (by decide) (by first | assumption | omega) (by first | assumption | omega) (fun c345 => ?_) (fun c345 => ?_)
      · exfalso; omega
      · refine x_aload_n B dL_commands_348 rfl ?_
        refine x_iload_n B dL_commands_349 rfl ?_
        refine x_iconst B dL_commands_350 ?_
        refine x_qd B mvL_21 (q_batchInfo (by first | assumption | omega) (by first | assumption | omega) (by first | assumption | omega)) dL_commands_351 rfl rfl (by decide) (by decide) (Nat.le_of_ble_eq_true rfl) (fun _ h => h) (fun r351 => ?_)
        refine x_iload_n B dL_commands_354 rfl ?_
        refine x_icmp_ne (tgt := 362) B dL_commands_355 (by decide) (by first | assumption | omega) (by first | assumption | omega) (fun c355 => ?_) (fun c355 => ?_)
        · exfalso; omega
        · refine x_iconst B dL_commands_358 ?_
          refine x_goto (tgt := 363) B dL_commands_359 (by decide) ?_
          exact x_lret B R dL_commands_363 rfl (by assumption) (by omega)
    · exfalso; omega
theorem cmd_stopS (B : XB Γ G cL_commands RL 11 ({ frames := 5, cells := 0, slots := 0, locals := 120 } : Room) (AE e)) (R : XR Γ "commands" (some .boolean) 0 0 (xQ (pZ True (PX G e m)) (AE e))) (ho : OK m ρ) (hm : ∀ k, -2147483648 ≤ m k ∧ m k < 2147483648) (hb0 : 0 ≤ b ∧ b < m 3) (hx : -2147483648 ≤ x ∧ x < 2147483648) (h5 : bi m b 5 ≠ 1 ∧ bi m b 5 ≠ 2) : XJ Γ 0 0 (PE G e m ρ) 371 [(0, .ref e), (1, vi b), (2, vi x), (3, vi (bi m b 5)), (4, vi (bi m b 9)), (5, vi (bi m b 8))] [] := by
  have hI := ho.I
  have hb := hI.b
  obtain ⟨⟨-, -, -, f4⟩, ⟨f5, f6, f7, f8⟩, f9, -, f11, f12, -⟩ := fb hI ho.Q hb0.1 hb0.2
  clear f5 f6 f7 f8 f12
  refine x_aload_n B dL_commands_371 rfl ?_
  refine x_iload_n B dL_commands_372 rfl ?_
  refine x_qd B mvL_75 (q_stopS hI hb0 h5) dL_commands_373 rfl rfl (by decide) (by decide) (Nat.le_of_ble_eq_true rfl) (fun _ h => h) (fun r373 => ?_)
  refine x_istore B dL_commands_376 (by decide) ?_
  refine x_iload_n B dL_commands_378 rfl ?_
  refine x_iconst B dL_commands_379 ?_
  refine x_icmp_eq (tgt := 403) B dL_commands_380 (by decide) (by first | assumption | omega) (by first | assumption | omega) (fun c380 => ?_) (fun c380 => ?_)
  · exfalso; omega
  · refine x_iload_n B dL_commands_383 rfl ?_
    refine x_iconst B dL_commands_384 ?_
    refine x_icmp_eq (tgt := 403) B dL_commands_385 (by decide) (by first | assumption | omega) (by first | assumption | omega) (fun c385 => ?_) (fun c385 => ?_)
    · exfalso; omega
    · refine x_iload B dL_commands_388 rfl ?_
      refine x_bipush B dL_commands_390 (by decide) ?_
      refine x_icmp_ne (tgt := 399) B dL_commands_392 (by decide) (by first | assumption | omega) (by first | assumption | omega) (fun c392 => ?_) (fun c392 => ?_)
      · exfalso; omega
      · refine x_iconst B dL_commands_395 ?_
        refine x_goto (tgt := 496) B dL_commands_396 (by decide) ?_
        exact x_lret B R dL_commands_496 rfl (by assumption) (by omega)
theorem cmd_stop3 (B : XB Γ G cL_commands RL 11 ({ frames := 5, cells := 0, slots := 0, locals := 120 } : Room) (AE e)) (R : XR Γ "commands" (some .boolean) 0 0 (xQ (pZ True (PX G e m)) (AE e))) (ho : OK m ρ) (hm : ∀ k, -2147483648 ≤ m k ∧ m k < 2147483648) (hb0 : 0 ≤ b ∧ b < m 3) (hx : -2147483648 ≤ x ∧ x < 2147483648) (h5 : bi m b 5 = 1 ∧ bi m b 9 = 1) : XJ Γ 0 0 (PE G e m ρ) 371 [(0, .ref e), (1, vi b), (2, vi x), (3, vi (bi m b 5)), (4, vi (bi m b 9)), (5, vi (bi m b 8))] [] := by
  have hI := ho.I
  have hb := hI.b
  obtain ⟨⟨-, -, -, f4⟩, ⟨f5, f6, f7, f8⟩, f9, -, f11, f12, -⟩ := fb hI ho.Q hb0.1 hb0.2
  clear f5 f6 f7 f8 f12
  obtain ⟨ho', ⟨e1, e2, e3⟩, g1, g2⟩ := OK_stop3 ho hm hb0 h5
  have hq := q_stop3 (G := G) (e := e) hI hb0 h5
  have hI' := ho'.I
  generalize up m (548 + 10 * b + 5) 3 = m' at *
  generalize s_keep m ρ = ρ' at *
  refine x_aload_n B dL_commands_371 rfl ?_
  refine x_iload_n B dL_commands_372 rfl ?_
  refine x_qd B mvL_75 (id hq) dL_commands_373 rfl rfl (by decide) (by decide) (Nat.le_of_ble_eq_true rfl) (fun _ h => h) (fun r373 => ?_)
  refine x_istore B dL_commands_376 (by decide) ?_
  refine x_cut0 403 (True) (fun K403 => ?_) (fun h403 => ?_)
  · refine x_iload_n B dL_commands_378 rfl ?_
    refine x_iconst B dL_commands_379 ?_
    refine x_icmp_eq (tgt := 403) B dL_commands_380 (by decide) (by first | assumption | omega) (by first | assumption | omega) (fun c380 => ?_) (fun c380 => ?_)
    · exact K403 (trivial)
    · refine x_iload_n B dL_commands_383 rfl ?_
      refine x_iconst B dL_commands_384 ?_
      refine x_icmp_eq (tgt := 403) B dL_commands_385 (by decide) (by first | assumption | omega) (by first | assumption | omega) (fun c385 => ?_) (fun c385 => ?_)
      · exact K403 (trivial)
      · exfalso; omega
  · refine x_iload B dL_commands_403 rfl ?_
    refine x_cutI 421 (fun zz => zz = 3) (fun K421 => ?_) (fun z421 h421 => ?_)
    · refine x_iload_n B dL_commands_405 rfl ?_
      refine x_iconst B dL_commands_406 ?_
      refine x_icmp_ne (tgt := 420) B dL_commands_407 (by decide) (by first | assumption | omega) (by first | assumption | omega) (fun c407 => ?_) (fun c407 => ?_)
      · exfalso; omega
      · refine x_iload B dL_commands_410 rfl ?_
        refine x_iconst B dL_commands_412 ?_
        refine x_icmp_ne (tgt := 420) B dL_commands_413 (by decide) (by first | assumption | omega) (by first | assumption | omega) (fun c413 => ?_) (fun c413 => ?_)
        · exfalso; omega
        · refine x_iconst B dL_commands_416 ?_
          refine x_goto (tgt := 421) B dL_commands_417 (by decide) ?_
          exact K421 _ (by omega)
    · refine x_icmp_ne (tgt := 495) B dL_commands_421 (by decide) (by first | assumption | omega) (by first | assumption | omega) (fun c421 => ?_) (fun c421 => ?_)
      · exfalso; omega
      · refine x_aload_n B dL_commands_424 rfl ?_
        refine x_iload_n B dL_commands_425 rfl ?_
        refine x_iconst B dL_commands_426 ?_
        refine x_qd B mvL_21 (q_batchInfo (by first | assumption | omega) (by first | assumption | omega) (by first | assumption | omega)) dL_commands_427 rfl rfl (by decide) (by decide) (Nat.le_of_ble_eq_true rfl) (fun _ h => h) (fun r427 => ?_)
        refine x_iload B dL_commands_430 rfl ?_
        refine x_icmp_ne (tgt := 495) B dL_commands_432 (by decide) (by first | assumption | omega) (by first | assumption | omega) (fun c432 => ?_) (fun c432 => ?_)
        · exfalso; omega
        · refine x_iload B dL_commands_435 rfl ?_
          refine x_iconst B dL_commands_437 ?_
          refine x_icmp_ne (tgt := 456) B dL_commands_438 (by decide) (by first | assumption | omega) (by first | assumption | omega) (fun c438 => ?_) (fun c438 => ?_)
          · exfalso; omega
          · refine x_aload_n B dL_commands_441 rfl ?_
            refine x_iload_n B dL_commands_442 rfl ?_
            refine x_bipush B dL_commands_443 (by decide) ?_
            refine x_qd B mvL_21 (q_batchInfo (by first | assumption | omega) (by first | assumption | omega) (by first | assumption | omega)) dL_commands_445 rfl rfl (by decide) (by decide) (Nat.le_of_ble_eq_true rfl) (fun _ h => h) (fun r445 => ?_)
            refine x_iload B dL_commands_448 rfl ?_
            refine x_icmp_ne (tgt := 495) B dL_commands_450 (by decide) (by first | assumption | omega) (by first | assumption | omega) (fun c450 => ?_) (fun c450 => ?_)
            · exfalso; omega
            · refine x_goto (tgt := 491) B dL_commands_453 (by decide) ?_
              refine x_iconst B dL_commands_491 ?_
              refine x_goto (tgt := 496) B dL_commands_492 (by decide) ?_
              exact x_lret B R dL_commands_496 rfl (by assumption) (by omega)
theorem cmd_stop4 (B : XB Γ G cL_commands RL 11 ({ frames := 5, cells := 0, slots := 0, locals := 120 } : Room) (AE e)) (R : XR Γ "commands" (some .boolean) 0 0 (xQ (pZ True (PX G e m)) (AE e))) (ho : OK m ρ) (hm : ∀ k, -2147483648 ≤ m k ∧ m k < 2147483648) (hb0 : 0 ≤ b ∧ b < m 3) (hx : -2147483648 ≤ x ∧ x < 2147483648) (h5 : bi m b 5 = 2 ∨ (bi m b 5 = 1 ∧ bi m b 9 ≠ 1)) : XJ Γ 0 0 (PE G e m ρ) 371 [(0, .ref e), (1, vi b), (2, vi x), (3, vi (bi m b 5)), (4, vi (bi m b 9)), (5, vi (bi m b 8))] [] := by
  have hI := ho.I
  have hb := hI.b
  obtain ⟨⟨-, -, -, f4⟩, ⟨f5, f6, f7, f8⟩, f9, -, f11, f12, -⟩ := fb hI ho.Q hb0.1 hb0.2
  clear f5 f6 f7 f8 f12
  obtain ⟨ho', ⟨e1, e2, e3⟩, g1, g2, g3⟩ := OK_stop4 ho hm hb0 h5
  have hq := q_stop4 (G := G) (e := e) hI hb0 h5
  have hI' := ho'.I
  generalize s_endsBy m b 4 4 = m' at *
  generalize s_keep m ρ = ρ' at *
  refine x_aload_n B dL_commands_371 rfl ?_
  refine x_iload_n B dL_commands_372 rfl ?_
  refine x_qd B mvL_75 (id hq) dL_commands_373 rfl rfl (by decide) (by decide) (Nat.le_of_ble_eq_true rfl) (fun _ h => h) (fun r373 => ?_)
  refine x_istore B dL_commands_376 (by decide) ?_
  refine x_cut0 403 (True) (fun K403 => ?_) (fun h403 => ?_)
  · refine x_iload_n B dL_commands_378 rfl ?_
    refine x_iconst B dL_commands_379 ?_
    refine x_icmp_eq (tgt := 403) B dL_commands_380 (by decide) (by first | assumption | omega) (by first | assumption | omega) (fun c380 => ?_) (fun c380 => ?_)
    · exact K403 (trivial)
    · refine x_iload_n B dL_commands_383 rfl ?_
      refine x_iconst B dL_commands_384 ?_
      refine x_icmp_eq (tgt := 403) B dL_commands_385 (by decide) (by first | assumption | omega) (by first | assumption | omega) (fun c385 => ?_) (fun c385 => ?_)
      · exact K403 (trivial)
      · exfalso; omega
  · refine x_iload B dL_commands_403 rfl ?_
    refine x_cutI 421 (fun zz => zz = 4) (fun K421 => ?_) (fun z421 h421 => ?_)
    · refine x_iload_n B dL_commands_405 rfl ?_
      refine x_iconst B dL_commands_406 ?_
      refine x_icmp_ne (tgt := 420) B dL_commands_407 (by decide) (by first | assumption | omega) (by first | assumption | omega) (fun c407 => ?_) (fun c407 => ?_)
      · refine x_iconst B dL_commands_420 ?_
        exact K421 _ (by omega)
      · refine x_iload B dL_commands_410 rfl ?_
        refine x_iconst B dL_commands_412 ?_
        refine x_icmp_ne (tgt := 420) B dL_commands_413 (by decide) (by first | assumption | omega) (by first | assumption | omega) (fun c413 => ?_) (fun c413 => ?_)
        · refine x_iconst B dL_commands_420 ?_
          exact K421 _ (by omega)
        · exfalso; omega
    · refine x_icmp_ne (tgt := 495) B dL_commands_421 (by decide) (by first | assumption | omega) (by first | assumption | omega) (fun c421 => ?_) (fun c421 => ?_)
      · exfalso; omega
      · refine x_aload_n B dL_commands_424 rfl ?_
        refine x_iload_n B dL_commands_425 rfl ?_
        refine x_iconst B dL_commands_426 ?_
        refine x_qd B mvL_21 (q_batchInfo (by first | assumption | omega) (by first | assumption | omega) (by first | assumption | omega)) dL_commands_427 rfl rfl (by decide) (by decide) (Nat.le_of_ble_eq_true rfl) (fun _ h => h) (fun r427 => ?_)
        refine x_iload B dL_commands_430 rfl ?_
        refine x_icmp_ne (tgt := 495) B dL_commands_432 (by decide) (by first | assumption | omega) (by first | assumption | omega) (fun c432 => ?_) (fun c432 => ?_)
        · exfalso; omega
        · refine x_iload B dL_commands_435 rfl ?_
          refine x_iconst B dL_commands_437 ?_
          refine x_icmp_ne (tgt := 456) B dL_commands_438 (by decide) (by first | assumption | omega) (by first | assumption | omega) (fun c438 => ?_) (fun c438 => ?_)
          · refine x_aload_n B dL_commands_456 rfl ?_
            refine x_iload_n B dL_commands_457 rfl ?_
            refine x_bipush B dL_commands_458 (by decide) ?_
            refine x_qd B mvL_21 (q_batchInfo (by first | assumption | omega) (by first | assumption | omega) (by first | assumption | omega)) dL_commands_460 rfl rfl (by decide) (by decide) (Nat.le_of_ble_eq_true rfl) (fun _ h => h) (fun r460 => ?_)
            refine x_bipush B dL_commands_463 (by decide) ?_
            refine x_icmp_ne (tgt := 495) B dL_commands_465 (by decide) (by first | assumption | omega) (by first | assumption | omega) (fun c465 => ?_) (fun c465 => ?_)
            · exfalso; omega
            · refine x_iload B dL_commands_468 rfl ?_
              refine x_bipush B dL_commands_470 (by decide) ?_
              refine x_icmp_eq (tgt := 491) B dL_commands_472 (by decide) (by first | assumption | omega) (by first | assumption | omega) (fun c472 => ?_) (fun c472 => ?_)
              · refine x_iconst B dL_commands_491 ?_
                refine x_goto (tgt := 496) B dL_commands_492 (by decide) ?_
                exact x_lret B R dL_commands_496 rfl (by assumption) (by omega)
              · refine x_aload_n B dL_commands_475 rfl ?_
                refine x_iload B dL_commands_476 rfl ?_
                refine x_iconst B dL_commands_478 ?_
                refine x_qd B mvL_15 (q_unitInfo (by first | assumption | omega) (by first | assumption | omega) (by first | assumption | omega)) dL_commands_479 rfl rfl (by decide) (by decide) (Nat.le_of_ble_eq_true rfl) (fun _ h => h) (fun r479 => ?_)
                refine x_aload_n B dL_commands_482 rfl ?_
                refine x_bipush B dL_commands_483 (by decide) ?_
                refine x_qd B mvL_9 (q_count (by first | assumption | omega) (by first | assumption | omega)) dL_commands_485 rfl rfl (by decide) (by decide) (Nat.le_of_ble_eq_true rfl) (fun _ h => h) (fun r485 => ?_)
                refine x_icmp_ne (tgt := 495) B dL_commands_488 (by decide) (by first | assumption | omega) (by first | assumption | omega) (fun c488 => ?_) (fun c488 => ?_)
                · exfalso; omega
                · refine x_iconst B dL_commands_491 ?_
                  refine x_goto (tgt := 496) B dL_commands_492 (by decide) ?_
                  exact x_lret B R dL_commands_496 rfl (by assumption) (by omega)
          · exfalso; omega
theorem cmd_priority (B : XB Γ G cL_commands RL 11 ({ frames := 5, cells := 0, slots := 0, locals := 120 } : Room) (AE e)) (R : XR Γ "commands" (some .boolean) 0 0 (xQ (pZ True (PX G e m)) (AE e))) (ho : OK m ρ) (hm : ∀ k, -2147483648 ≤ m k ∧ m k < 2147483648) (hb0 : 0 ≤ b ∧ b < m 3) (hx : -2147483648 ≤ x ∧ x < 2147483648)  : XJ Γ 0 0 (PE G e m ρ) 504 [(0, .ref e), (1, vi b), (2, vi x), (3, vi (bi m b 5)), (4, vi (bi m b 9)), (5, vi (bi m b 8))] [] := by
  have hI := ho.I
  have hb := hI.b
  obtain ⟨⟨-, -, -, f4⟩, ⟨f5, f6, f7, f8⟩, f9, -, f11, f12, -, -, -, f16⟩ := fb hI ho.Q hb0.1 hb0.2
  clear f5 f6 f7 f8 f12
  have hall : ∀ v, 0 ≤ v → v ≤ 9 → ∃ m' ρ', QD G e m ρ yX6_priority cX6_priority 4 ({ frames := 4, cells := 0, slots := 0, locals := 97 } : Room) [vi b, vi v] (bi m b 3) m' ρ' ∧ OK m' ρ' ∧ (m' 1 = m 1 ∧ m' 2 = m 2 ∧ m' 3 = m 3) ∧ bi m' b 3 = v := fun v v0 v1 => by
    obtain ⟨a1, a2, a3⟩ := OK_priority ho hm hb0 (v := v) ⟨v0, v1⟩
    exact ⟨_, _, q_priority hI hb0 ⟨v0, v1⟩, a1, a2, a3⟩
  refine x_aload_n B dL_commands_504 rfl ?_
  refine x_iload_n B dL_commands_505 rfl ?_
  refine x_iconst B dL_commands_506 ?_
  refine x_qd B mvL_21 (q_batchInfo (by first | assumption | omega) (by first | assumption | omega) (by first | assumption | omega)) dL_commands_507 rfl rfl (by decide) (by decide) (Nat.le_of_ble_eq_true rfl) (fun _ h => h) (fun r507 => ?_)
  refine x_istore B dL_commands_510 (by decide) ?_
  refine x_iload_n B dL_commands_512 rfl ?_
  refine x_iconst B dL_commands_513 ?_
  refine x_shrA B dL_commands_514 (fun v514 q514 => ?_)
  refine x_bipush B dL_commands_515 (by decide) ?_
  refine x_low B msL_50 dL_commands_517 (by first | assumption | omega) (by decide) (by decide) (Nat.le_of_ble_eq_true rfl) (fun w517 => ?_)
  generalize lw v514 10 = v at *
  obtain ⟨m', ρ', hq, ho', ⟨e1, e2, e3⟩, g1⟩ := hall v w517.1 (by omega)
  have hI' := ho'.I
  refine x_istore B dL_commands_520 (by decide) ?_
  refine x_aload_n B dL_commands_522 rfl ?_
  refine x_iload_n B dL_commands_523 rfl ?_
  refine x_iload B dL_commands_524 rfl ?_
  refine x_qd B mvL_78 (id hq) dL_commands_526 rfl rfl (by decide) (by decide) (Nat.le_of_ble_eq_true rfl) (fun _ h => h) (fun r526 => ?_)
  refine x_iload B dL_commands_529 rfl ?_
  refine x_icmp_ne (tgt := 549) B dL_commands_531 (by decide) (by first | assumption | omega) (by first | assumption | omega) (fun c531 => ?_) (fun c531 => ?_)
  · exfalso; omega
  · refine x_aload_n B dL_commands_534 rfl ?_
    refine x_iload_n B dL_commands_535 rfl ?_
    refine x_iconst B dL_commands_536 ?_
    refine x_qd B mvL_21 (q_batchInfo (by first | assumption | omega) (by first | assumption | omega) (by first | assumption | omega)) dL_commands_537 rfl rfl (by decide) (by decide) (Nat.le_of_ble_eq_true rfl) (fun _ h => h) (fun r537 => ?_)
    refine x_iload B dL_commands_540 rfl ?_
    refine x_icmp_ne (tgt := 549) B dL_commands_542 (by decide) (by first | assumption | omega) (by first | assumption | omega) (fun c542 => ?_) (fun c542 => ?_)
    · exfalso; omega
    · refine x_iconst B dL_commands_545 ?_
      refine x_goto (tgt := 550) B dL_commands_546 (by decide) ?_
      exact x_lret B R dL_commands_550 rfl (by assumption) (by omega)
theorem cmd_abortS (B : XB Γ G cL_commands RL 11 ({ frames := 5, cells := 0, slots := 0, locals := 120 } : Room) (AE e)) (R : XR Γ "commands" (some .boolean) 0 0 (xQ (pZ True (PX G e m)) (AE e))) (ho : OK m ρ) (hm : ∀ k, -2147483648 ≤ m k ∧ m k < 2147483648) (hb0 : 0 ≤ b ∧ b < m 3) (hx : -2147483648 ≤ x ∧ x < 2147483648) (h5 : 3 < bi m b 5) : XJ Γ 0 0 (PE G e m ρ) 551 [(0, .ref e), (1, vi b), (2, vi x), (3, vi (bi m b 5)), (4, vi (bi m b 9)), (5, vi (bi m b 8))] [] := by
  have hI := ho.I
  have hb := hI.b
  obtain ⟨⟨-, -, -, f4⟩, ⟨f5, f6, f7, f8⟩, f9, -, f11, f12, -⟩ := fb hI ho.Q hb0.1 hb0.2
  clear f5 f6 f7 f8 f12
  refine x_iload_n B dL_commands_551 rfl ?_
  refine x_iconst B dL_commands_552 ?_
  refine x_shrA B dL_commands_553 (fun v553 q553 => ?_)
  refine x_iconst B dL_commands_554 ?_
  refine x_low B msL_50 dL_commands_555 (by first | assumption | omega) (by decide) (by decide) (Nat.le_of_ble_eq_true rfl) (fun w555 => ?_)
  refine x_if_le (tgt := 563) B dL_commands_558 (by decide) (by first | assumption | omega) (fun c558 => ?_) (fun c558 => ?_)
  · refine x_aload_n B dL_commands_563 rfl ?_
    refine x_bipush B dL_commands_564 (by decide) ?_
    refine x_qd B mvL_9 (q_count (by first | assumption | omega) (by first | assumption | omega)) dL_commands_566 rfl rfl (by decide) (by decide) (Nat.le_of_ble_eq_true rfl) (fun _ h => h) (fun r566 => ?_)
    refine x_istore B dL_commands_569 (by decide) ?_
    refine x_aload_n B dL_commands_571 rfl ?_
    refine x_iload_n B dL_commands_572 rfl ?_
    refine x_qd B mvL_81 (q_abortS hI hb0 h5) dL_commands_573 rfl rfl (by decide) (by decide) (Nat.le_of_ble_eq_true rfl) (fun _ h => h) (fun r573 => ?_)
    refine x_istore B dL_commands_576 (by decide) ?_
    refine x_iload_n B dL_commands_578 rfl ?_
    refine x_iconst B dL_commands_579 ?_
    refine x_icmp_le (tgt := 607) B dL_commands_580 (by decide) (by first | assumption | omega) (by first | assumption | omega) (fun c580 => ?_) (fun c580 => ?_)
    · exfalso; omega
    · refine x_iload B dL_commands_583 rfl ?_
      refine x_bipush B dL_commands_585 (by decide) ?_
      refine x_icmp_ne (tgt := 605) B dL_commands_587 (by decide) (by first | assumption | omega) (by first | assumption | omega) (fun c587 => ?_) (fun c587 => ?_)
      · exfalso; omega
      · refine x_aload_n B dL_commands_590 rfl ?_
        refine x_bipush B dL_commands_591 (by decide) ?_
        refine x_qd B mvL_9 (q_count (by first | assumption | omega) (by first | assumption | omega)) dL_commands_593 rfl rfl (by decide) (by decide) (Nat.le_of_ble_eq_true rfl) (fun _ h => h) (fun r593 => ?_)
        refine x_iload B dL_commands_596 rfl ?_
        refine x_icmp_ne (tgt := 605) B dL_commands_598 (by decide) (by first | assumption | omega) (by first | assumption | omega) (fun c598 => ?_) (fun c598 => ?_)
        · exfalso; omega
        · refine x_iconst B dL_commands_601 ?_
          refine x_goto (tgt := 606) B dL_commands_602 (by decide) ?_
          exact x_lret B R dL_commands_606 rfl (by assumption) (by omega)
  · refine x_iconst B dL_commands_561 ?_
    exact x_lret B R dL_commands_562 rfl (by assumption) (by omega)
theorem cmd_abortL (B : XB Γ G cL_commands RL 11 ({ frames := 5, cells := 0, slots := 0, locals := 120 } : Room) (AE e)) (hb0 : 0 ≤ b) {m' : Int → Int} {ρ' : Nat → Int → Int} {nn : Int} (ho : OK m' ρ') (K : ∀ k, XJ Γ 0 0 (PE G e m' ρ') 668 [(0, .ref e), (1, vi b), (2, vi x), (3, vi (bi m b 5)), (7, vi (cn m 9)), (8, vi nn), (9, vi k)] []) : ∀ (n : Nat) (k : Int), 0 ≤ k → k ≤ 13 → 13 - k < n → XJ Γ 0 0 (PE G e m' ρ') 612 [(0, .ref e), (1, vi b), (2, vi x), (3, vi (bi m b 5)), (7, vi (cn m 9)), (8, vi nn), (9, vi k)] [] := by
  have hI := ho.I
  have hb := hI.b
  have e3 : cn m' 3 = m' 3 := rfl
  intro n
  induction n with
  | zero => intro k _ _ _; omega
  | succ n ih =>
    intro k k0 k1 kn
    refine x_iload B dL_commands_612 rfl ?_
    refine x_aload_n B dL_commands_614 rfl ?_
    refine x_iconst B dL_commands_615 ?_
    refine x_qd B mvL_9 (q_count (by first | assumption | omega) (by first | assumption | omega)) dL_commands_616 rfl rfl (by decide) (by decide) (Nat.le_of_ble_eq_true rfl) (fun _ h => h) (fun r616 => ?_)
    refine x_icmp_ge (tgt := 668) B dL_commands_619 (by decide) (by first | assumption | omega) (by first | assumption | omega) (fun c619 => ?_) (fun c619 => ?_)
    · exact K k
      skip
    · have f := ho.follow k0 (show k < m' 3 by omega)
      have f2 := (fb hI ho.Q k0 (show k < m' 3 by omega)).1.2.2.2
      refine x_aload_n B dL_commands_622 rfl ?_
      refine x_iload B dL_commands_623 rfl ?_
      refine x_iconst B dL_commands_625 ?_
      refine x_qd B mvL_21 (q_batchInfo (by first | assumption | omega) (by first | assumption | omega) (by first | assumption | omega)) dL_commands_626 rfl rfl (by decide) (by decide) (Nat.le_of_ble_eq_true rfl) (fun _ h => h) (fun r626 => ?_)
      refine x_istore B dL_commands_629 (by decide) ?_
      refine x_cut0 662 (True) (fun K662 => ?_) (fun h662 => ?_)
      · refine x_iload B dL_commands_631 rfl ?_
        refine x_bipush B dL_commands_633 (by decide) ?_
        refine x_icmp_eq (tgt := 662) B dL_commands_635 (by decide) (by first | assumption | omega) (by first | assumption | omega) (fun c635 => ?_) (fun c635 => ?_)
        · exact K662 (trivial)
        · refine x_aload_n B dL_commands_638 rfl ?_
          refine x_iload B dL_commands_639 rfl ?_
          refine x_iconst B dL_commands_641 ?_
          refine x_qd B mvL_21 (q_batchInfo (by first | assumption | omega) (by first | assumption | omega) (by first | assumption | omega)) dL_commands_642 rfl rfl (by decide) (by decide) (Nat.le_of_ble_eq_true rfl) (fun _ h => h) (fun r642 => ?_)
          refine x_iconst B dL_commands_645 ?_
          refine x_icmp_ne (tgt := 662) B dL_commands_646 (by decide) (by first | assumption | omega) (by first | assumption | omega) (fun c646 => ?_) (fun c646 => ?_)
          · exact K662 (trivial)
          · refine x_aload_n B dL_commands_649 rfl ?_
            refine x_iload B dL_commands_650 rfl ?_
            refine x_iconst B dL_commands_652 ?_
            refine x_qd B mvL_21 (q_batchInfo (by first | assumption | omega) (by first | assumption | omega) (by first | assumption | omega)) dL_commands_653 rfl rfl (by decide) (by decide) (Nat.le_of_ble_eq_true rfl) (fun _ h => h) (fun r653 => ?_)
            refine x_iconst B dL_commands_656 ?_
            refine x_icmp_ge (tgt := 662) B dL_commands_657 (by decide) (by first | assumption | omega) (by first | assumption | omega) (fun c657 => ?_) (fun c657 => ?_)
            · exact K662 (trivial)
            · exfalso; omega
      · refine x_iinc B dL_commands_662 rfl (by decide) ?_
        refine x_goto (tgt := 612) B dL_commands_665 (by decide) ?_
        refine x_locs (L' := [(0, .ref e), (1, vi b), (2, vi x), (3, vi (bi m b 5)), (7, vi (cn m 9)), (8, vi nn), (9, vi (k + 1))]) (xl_cons (rfl) (xl_cons (rfl) (xl_cons (rfl) (xl_cons (rfl) (xl_cons (rfl) (xl_cons (rfl) (xl_cons (rfl) xl_nil))))))) ?_
        exact ih (k + 1) (by omega) (by omega) (by omega)
theorem cmd_abortE (B : XB Γ G cL_commands RL 11 ({ frames := 5, cells := 0, slots := 0, locals := 120 } : Room) (AE e)) (R : XR Γ "commands" (some .boolean) 0 0 (xQ (pZ True (PX G e m)) (AE e))) (ho : OK m ρ) (hm : ∀ k, -2147483648 ≤ m k ∧ m k < 2147483648) (hb0 : 0 ≤ b ∧ b < m 3) (hx : -2147483648 ≤ x ∧ x < 2147483648) {m' : Int → Int} {ρ' ρ2 : Nat → Int → Int} {nn k : Int} (ho' : OK m' ρ') (ho2 : OK m ρ2) (hn2 : 0 ≤ ukn ρ) (e3 : m' 1 = m 1 ∧ m' 2 = m 2 ∧ m' 3 = m 3) (g1 : 0 < nn ∧ nn < 2147483648) (g2 : cn m' 9 = cn m 9 + nn) (g3 : bi m' b 5 = 5) (g4 : bi m' b 8 = -4) (g5 : ev m' 0 2 = 5) (hu : QD G e m' ρ' yX6_undo cX6_undo 1 ({ frames := 3, cells := 0, slots := 0, locals := 75 } : Room) [] (ukn ρ) m ρ2) (r9 : -2147483648 ≤ cn m 9 ∧ cn m 9 < 2147483648) : XJ Γ 0 0 (PE G e m' ρ') 668 [(0, .ref e), (1, vi b), (2, vi x), (3, vi (bi m b 5)), (7, vi (cn m 9)), (8, vi nn), (9, vi k)] [] := by
  have hI := ho.I
  have hb := hI.b
  obtain ⟨⟨-, -, -, f4⟩, ⟨f5, f6, f7, f8⟩, f9, -, f11, f12, -⟩ := fb hI ho.Q hb0.1 hb0.2
  clear f5 f6 f7 f8 f12
  have hI' := ho'.I
  have hI2 := ho2.I
  refine x_iload B dL_commands_668 rfl ?_
  refine x_if_le (tgt := 762) B dL_commands_670 (by decide) (by first | assumption | omega) (fun c670 => ?_) (fun c670 => ?_)
  · exfalso; omega
  · refine x_aload_n B dL_commands_673 rfl ?_
    refine x_bipush B dL_commands_674 (by decide) ?_
    refine x_qd B mvL_9 (q_count (by first | assumption | omega) (by first | assumption | omega)) dL_commands_676 rfl rfl (by decide) (by decide) (Nat.le_of_ble_eq_true rfl) (fun _ h => h) (fun r676 => ?_)
    refine x_iload B dL_commands_679 rfl ?_
    refine x_iload B dL_commands_681 rfl ?_
    refine x_iadd B dL_commands_683 ?_
    refine x_icmp_ne (tgt := 762) B dL_commands_684 (by decide) (by first | assumption | omega) (by first | assumption | omega) (fun c684 => ?_) (fun c684 => ?_)
    · exfalso; omega
    · refine x_aload_n B dL_commands_687 rfl ?_
      refine x_iload_n B dL_commands_688 rfl ?_
      refine x_iconst B dL_commands_689 ?_
      refine x_qd B mvL_21 (q_batchInfo (by first | assumption | omega) (by first | assumption | omega) (by first | assumption | omega)) dL_commands_690 rfl rfl (by decide) (by decide) (Nat.le_of_ble_eq_true rfl) (fun _ h => h) (fun r690 => ?_)
      refine x_iconst B dL_commands_693 ?_
      refine x_icmp_ne (tgt := 762) B dL_commands_694 (by decide) (by first | assumption | omega) (by first | assumption | omega) (fun c694 => ?_) (fun c694 => ?_)
      · exfalso; omega
      · refine x_aload_n B dL_commands_697 rfl ?_
        refine x_iload_n B dL_commands_698 rfl ?_
        refine x_bipush B dL_commands_699 (by decide) ?_
        refine x_qd B mvL_21 (q_batchInfo (by first | assumption | omega) (by first | assumption | omega) (by first | assumption | omega)) dL_commands_701 rfl rfl (by decide) (by decide) (Nat.le_of_ble_eq_true rfl) (fun _ h => h) (fun r701 => ?_)
        refine x_bipush B dL_commands_704 (by decide) ?_
        refine x_icmp_ne (tgt := 762) B dL_commands_706 (by decide) (by first | assumption | omega) (by first | assumption | omega) (fun c706 => ?_) (fun c706 => ?_)
        · exfalso; omega
        · refine x_aload_n B dL_commands_709 rfl ?_
          refine x_iconst B dL_commands_710 ?_
          refine x_iconst B dL_commands_711 ?_
          refine x_qd B mvL_40 (q_event (by first | assumption | omega) (by first | assumption | omega) (by first | assumption | omega)) dL_commands_712 rfl rfl (by decide) (by decide) (Nat.le_of_ble_eq_true rfl) (fun _ h => h) (fun r712 => ?_)
          refine x_iconst B dL_commands_715 ?_
          refine x_icmp_ne (tgt := 762) B dL_commands_716 (by decide) (by first | assumption | omega) (by first | assumption | omega) (fun c716 => ?_) (fun c716 => ?_)
          · exfalso; omega
          · refine x_iload_n B dL_commands_719 rfl ?_
            refine x_bipush B dL_commands_720 (by decide) ?_
            refine x_shrA B dL_commands_722 (fun v722 q722 => ?_)
            refine x_iconst B dL_commands_723 ?_
            refine x_low B msL_50 dL_commands_724 (by first | assumption | omega) (by decide) (by decide) (Nat.le_of_ble_eq_true rfl) (fun w724 => ?_)
            refine x_if_gt (tgt := 758) B dL_commands_727 (by decide) (by first | assumption | omega) (fun c727 => ?_) (fun c727 => ?_)
            · refine x_iconst B dL_commands_758 ?_
              refine x_goto (tgt := 763) B dL_commands_759 (by decide) ?_
              exact x_lret B R dL_commands_763 rfl (by assumption) (by omega)
            · refine x_aload_n B dL_commands_730 rfl ?_
              refine x_qd B mvL_69 (id hu) dL_commands_731 rfl rfl (by decide) (by decide) (Nat.le_of_ble_eq_true rfl) (fun _ h => h) (fun r731 => ?_)
              refine x_if_lt (tgt := 762) B dL_commands_734 (by decide) (by first | assumption | omega) (fun c734 => ?_) (fun c734 => ?_)
              · exfalso; omega
              · refine x_aload_n B dL_commands_737 rfl ?_
                refine x_bipush B dL_commands_738 (by decide) ?_
                refine x_qd B mvL_9 (q_count (by first | assumption | omega) (by first | assumption | omega)) dL_commands_740 rfl rfl (by decide) (by decide) (Nat.le_of_ble_eq_true rfl) (fun _ h => h) (fun r740 => ?_)
                refine x_iload B dL_commands_743 rfl ?_
                refine x_icmp_ne (tgt := 762) B dL_commands_745 (by decide) (by first | assumption | omega) (by first | assumption | omega) (fun c745 => ?_) (fun c745 => ?_)
                · exfalso; omega
                · refine x_aload_n B dL_commands_748 rfl ?_
                  refine x_iload_n B dL_commands_749 rfl ?_
                  refine x_iconst B dL_commands_750 ?_
                  refine x_qd B mvL_21 (q_batchInfo (by first | assumption | omega) (by first | assumption | omega) (by first | assumption | omega)) dL_commands_751 rfl rfl (by decide) (by decide) (Nat.le_of_ble_eq_true rfl) (fun _ h => h) (fun r751 => ?_)
                  refine x_iload_n B dL_commands_754 rfl ?_
                  refine x_icmp_ne (tgt := 762) B dL_commands_755 (by decide) (by first | assumption | omega) (by first | assumption | omega) (fun c755 => ?_) (fun c755 => ?_)
                  · exfalso; omega
                  · refine x_iconst B dL_commands_758 ?_
                    refine x_goto (tgt := 763) B dL_commands_759 (by decide) ?_
                    exact x_lret B R dL_commands_763 rfl (by assumption) (by omega)
theorem cmd_abort (B : XB Γ G cL_commands RL 11 ({ frames := 5, cells := 0, slots := 0, locals := 120 } : Room) (AE e)) (R : XR Γ "commands" (some .boolean) 0 0 (xQ (pZ True (PX G e m)) (AE e))) (ho : OK m ρ) (hm : ∀ k, -2147483648 ≤ m k ∧ m k < 2147483648) (hb0 : 0 ≤ b ∧ b < m 3) (hx : -2147483648 ≤ x ∧ x < 2147483648) (h5 : bi m b 5 ≤ 3) : XJ Γ 0 0 (PE G e m ρ) 551 [(0, .ref e), (1, vi b), (2, vi x), (3, vi (bi m b 5)), (4, vi (bi m b 9)), (5, vi (bi m b 8))] [] := by
  have hI := ho.I
  have hb := hI.b
  obtain ⟨⟨-, -, -, f4⟩, ⟨f5, f6, f7, f8⟩, f9, -, f11, f12, -⟩ := fb hI ho.Q hb0.1 hb0.2
  clear f5 f6 f7 f8 f12
  obtain ⟨ho', ⟨e1, e2, e3⟩, g1, g2, g3, g4, g5⟩ := OK_abort ho hm hb0 h5
  have hq := q_abort (G := G) (e := e) hI hb0 h5
  have hI' := ho'.I
  have hu := q_undo (G := G) (e := e) ho hI' hm
  obtain ⟨ho2, hn2⟩ := ho.undo hI' hm
  have hI2 := ho2.I
  generalize ukr m ρ = ρ2 at *
  generalize (s_ab b (m 3 - b).toNat b 0 0 m).1 = nn at *
  generalize abM m b = m' at *
  generalize s_keep m ρ = ρ' at *
  refine x_iload_n B dL_commands_551 rfl ?_
  refine x_iconst B dL_commands_552 ?_
  refine x_shrA B dL_commands_553 (fun v553 q553 => ?_)
  refine x_iconst B dL_commands_554 ?_
  refine x_low B msL_50 dL_commands_555 (by first | assumption | omega) (by decide) (by decide) (Nat.le_of_ble_eq_true rfl) (fun w555 => ?_)
  refine x_if_le (tgt := 563) B dL_commands_558 (by decide) (by first | assumption | omega) (fun c558 => ?_) (fun c558 => ?_)
  · refine x_aload_n B dL_commands_563 rfl ?_
    refine x_bipush B dL_commands_564 (by decide) ?_
    refine x_qd B mvL_9 (q_count (by first | assumption | omega) (by first | assumption | omega)) dL_commands_566 rfl rfl (by decide) (by decide) (Nat.le_of_ble_eq_true rfl) (fun _ h => h) (fun r566 => ?_)
    refine x_istore B dL_commands_569 (by decide) ?_
    refine x_aload_n B dL_commands_571 rfl ?_
    refine x_iload_n B dL_commands_572 rfl ?_
    refine x_qd B mvL_81 (id hq) dL_commands_573 rfl rfl (by decide) (by decide) (Nat.le_of_ble_eq_true rfl) (fun _ h => h) (fun r573 => ?_)
    refine x_istore B dL_commands_576 (by decide) ?_
    refine x_iload_n B dL_commands_578 rfl ?_
    refine x_iconst B dL_commands_579 ?_
    refine x_icmp_le (tgt := 607) B dL_commands_580 (by decide) (by first | assumption | omega) (by first | assumption | omega) (fun c580 => ?_) (fun c580 => ?_)
    · refine x_iload_n B dL_commands_607 rfl ?_
      refine x_iconst B dL_commands_608 ?_
      refine x_iadd B dL_commands_609 ?_
      refine x_istore B dL_commands_610 (by decide) ?_
      refine x_locs (L' := [(0, .ref e), (1, vi b), (2, vi x), (3, vi (bi m b 5)), (7, vi (cn m 9)), (8, vi nn), (9, vi (b + 1))]) (xl_cons (rfl) (xl_cons (rfl) (xl_cons (rfl) (xl_cons (rfl) (xl_cons (rfl) (xl_cons (rfl) (xl_cons (rfl) xl_nil))))))) ?_
      exact cmd_abortL B hb0.1 ho' (fun k => cmd_abortE B R ho hm hb0 hx ho' ho2 hn2 ⟨e1, e2, e3⟩ ⟨g1, r573.2⟩ g2 g3 g4 g5 hu r566) 14 (b + 1) (by omega) (by omega) (by omega)
    · exfalso; omega
  · refine x_iconst B dL_commands_561 ?_
    exact x_lret B R dL_commands_562 rfl (by assumption) (by omega)
end CMD
theorem c_L_commands {G : xG} {l : Launch} {e : Nat} {m : Int → Int} {ρ : Nat → Int → Int} {b x : Int} (h1 : OK m ρ) (h2 : 0 ≤ b ∧ b < m 3) (h3 : -2147483648 ≤ x ∧ x < 2147483648) : CT G l yL_commands cL_commands 11 (some .boolean) ({ frames := 5, cells := 0, slots := 0, locals := 120 } : Room) 0 0 [.ref e, vi b, vi x] (PE G e m ρ) (pZ True (PX G e m)) (AE e) := by
  refine x_met1 (own := RL) (nm := "commands") (L := [(0, .ref e), (1, vi b), (2, vi x)]) (by decide) rfl rfl (fun _ => rfl) (Nat.le_of_ble_eq_true rfl) rfl rfl ?_
  intro Γ B R
  refine x_fact (fun H h => PE.rg h) (fun hm => ?_)
  have hI := h1.I
  have hb := hI.b
  obtain ⟨⟨-, -, -, f4⟩, -, f9, -, f11, -⟩ := fb hI h1.Q h2.1 h2.2
  refine x_aload_n B dL_commands_0 rfl ?_
  refine x_iload_n B dL_commands_1 rfl ?_
  refine x_iconst B dL_commands_2 ?_
  refine x_qd B mvL_21 (q_batchInfo (by first | assumption | omega) (by first | assumption | omega) (by first | assumption | omega)) dL_commands_3 rfl rfl (by decide) (by decide) (Nat.le_of_ble_eq_true rfl) (fun _ h => h) (fun r3 => ?_)
  refine x_istore_n B dL_commands_6 (by decide) ?_
  refine x_aload_n B dL_commands_7 rfl ?_
  refine x_iload_n B dL_commands_8 rfl ?_
  refine x_bipush B dL_commands_9 (by decide) ?_
  refine x_qd B mvL_21 (q_batchInfo (by first | assumption | omega) (by first | assumption | omega) (by first | assumption | omega)) dL_commands_11 rfl rfl (by decide) (by decide) (Nat.le_of_ble_eq_true rfl) (fun _ h => h) (fun r11 => ?_)
  refine x_istore B dL_commands_14 (by decide) ?_
  refine x_aload_n B dL_commands_16 rfl ?_
  refine x_iload_n B dL_commands_17 rfl ?_
  refine x_bipush B dL_commands_18 (by decide) ?_
  refine x_qd B mvL_21 (q_batchInfo (by first | assumption | omega) (by first | assumption | omega) (by first | assumption | omega)) dL_commands_20 rfl rfl (by decide) (by decide) (Nat.le_of_ble_eq_true rfl) (fun _ h => h) (fun r20 => ?_)
  refine x_istore B dL_commands_23 (by decide) ?_
  refine x_iload_n B dL_commands_25 rfl ?_
  refine x_bipush B dL_commands_26 (by decide) ?_
  refine x_low B msL_50 dL_commands_28 (by first | assumption | omega) (by decide) (by decide) (Nat.le_of_ble_eq_true rfl) (fun w28 => ?_)
  refine x_istore B dL_commands_31 (by decide) ?_
  refine x_iload B dL_commands_33 rfl ?_
  refine x_iconst B dL_commands_35 ?_
  refine x_icmp_ge (tgt := 107) B dL_commands_36 (by decide) (by first | assumption | omega) (by first | assumption | omega) (fun c36 => ?_) (fun c36 => ?_)
  · refine x_iload B dL_commands_107 rfl ?_
    refine x_iconst B dL_commands_109 ?_
    refine x_icmp_ne (tgt := 237) B dL_commands_110 (by decide) (by first | assumption | omega) (by first | assumption | omega) (fun c110 => ?_) (fun c110 => ?_)
    · refine x_iload B dL_commands_237 rfl ?_
      refine x_bipush B dL_commands_239 (by decide) ?_
      refine x_icmp_ge (tgt := 364) B dL_commands_241 (by decide) (by first | assumption | omega) (by first | assumption | omega) (fun c241 => ?_) (fun c241 => ?_)
      · refine x_iload B dL_commands_364 rfl ?_
        refine x_bipush B dL_commands_366 (by decide) ?_
        refine x_icmp_ne (tgt := 497) B dL_commands_368 (by decide) (by first | assumption | omega) (by first | assumption | omega) (fun c368 => ?_) (fun c368 => ?_)
        · refine x_iload B dL_commands_497 rfl ?_
          refine x_bipush B dL_commands_499 (by decide) ?_
          refine x_icmp_ne (tgt := 551) B dL_commands_501 (by decide) (by first | assumption | omega) (by first | assumption | omega) (fun c501 => ?_) (fun c501 => ?_)
          · refine x_locs (L' := [(0, .ref e), (1, vi b), (2, vi x), (3, vi (bi m b 5)), (4, vi (bi m b 9)), (5, vi (bi m b 8))]) (xl_cons (rfl) (xl_cons (rfl) (xl_cons (rfl) (xl_cons (rfl) (xl_cons (rfl) (xl_cons (rfl) xl_nil)))))) ?_
            by_cases c : 3 < bi m b 5
            · exact cmd_abortS B R h1 hm h2 h3 c
            · exact cmd_abort B R h1 hm h2 h3 (by omega)
          · refine x_locs (L' := [(0, .ref e), (1, vi b), (2, vi x), (3, vi (bi m b 5)), (4, vi (bi m b 9)), (5, vi (bi m b 8))]) (xl_cons (rfl) (xl_cons (rfl) (xl_cons (rfl) (xl_cons (rfl) (xl_cons (rfl) (xl_cons (rfl) xl_nil)))))) ?_
            exact cmd_priority B R h1 hm h2 h3
        · refine x_locs (L' := [(0, .ref e), (1, vi b), (2, vi x), (3, vi (bi m b 5)), (4, vi (bi m b 9)), (5, vi (bi m b 8))]) (xl_cons (rfl) (xl_cons (rfl) (xl_cons (rfl) (xl_cons (rfl) (xl_cons (rfl) (xl_cons (rfl) xl_nil)))))) ?_
          by_cases c : bi m b 5 ≠ 1 ∧ bi m b 5 ≠ 2
          · exact cmd_stopS B R h1 hm h2 h3 c
          · by_cases d : bi m b 5 = 1 ∧ bi m b 9 = 1
            · exact cmd_stop3 B R h1 hm h2 h3 d
            · exact cmd_stop4 B R h1 hm h2 h3 (by omega)
      · refine x_locs (L' := [(0, .ref e), (1, vi b), (2, vi x), (3, vi (bi m b 5)), (4, vi (bi m b 9)), (5, vi (bi m b 8))]) (xl_cons (rfl) (xl_cons (rfl) (xl_cons (rfl) (xl_cons (rfl) (xl_cons (rfl) (xl_cons (rfl) xl_nil)))))) ?_
        have fu3 : bi m b 8 ≠ -4 → 0 ≤ ui m (bi m b 8) 3 ∧ ui m (bi m b 8) 3 ≤ 1 := fun q => (fu hI h1.Q (u := bi m b 8) (by omega) (by omega)).2.2.1
        by_cases c : bi m b 5 ≠ 2 ∨ (bi m b 8 ≠ -4 ∧ ui m (bi m b 8) 3 = 1)
        · exact cmd_restartS B R h1 hm h2 h3 c
        · exact cmd_restart B R h1 hm h2 h3 (by omega) (by omega)
    · refine x_locs (L' := [(0, .ref e), (1, vi b), (2, vi x), (3, vi (bi m b 5)), (4, vi (bi m b 9)), (5, vi (bi m b 8))]) (xl_cons (rfl) (xl_cons (rfl) (xl_cons (rfl) (xl_cons (rfl) (xl_cons (rfl) (xl_cons (rfl) xl_nil)))))) ?_
      by_cases c : bi m b 5 = 1 ∨ bi m b 5 = 3
      · exact cmd_hold B R h1 hm h2 h3 c
      · exact cmd_holdS B R h1 hm h2 h3 c
  · refine x_locs (L' := [(0, .ref e), (1, vi b), (2, vi x), (3, vi (bi m b 5)), (4, vi (bi m b 9)), (5, vi (bi m b 8))]) (xl_cons (rfl) (xl_cons (rfl) (xl_cons (rfl) (xl_cons (rfl) (xl_cons (rfl) (xl_cons (rfl) xl_nil)))))) ?_
    by_cases c : bi m b 5 = 0
    · exact cmd_start B R h1 hm h2 h3 c
    · exact cmd_startS B R h1 hm h2 h3 c
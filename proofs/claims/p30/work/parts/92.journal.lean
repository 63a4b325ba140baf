/-! ===== the law's look at the journal and the order ===== -/
section JRN
variable {Γ : xE} {G : xG} {e : Nat} {m : Int → Int} {ρ : Nat → Int → Int}
theorem jrn_2 (B : XB Γ G cL_journal RL 6 ({ frames := 4, cells := 0, slots := 0, locals := 89 } : Room) (AE e)) (R : XR Γ "journal" (some .boolean) 0 0 (xQ (pZ True (PE G e m ρ)) (AE e))) (ho : OK m ρ) : ∀ (n : Nat) (k : Int), 1 ≤ k → k ≤ 13 → 13 - k < n → XJ Γ 0 0 (PE G e m ρ) 147 [(0, .ref e), (1, vi (m 4)), (2, vi k)] [] := by
  have hI := ho.I
  have hb := hI.b
  have e3 : cn m 3 = m 3 := rfl
  have e11 : cn m 11 = m 1 := rfl
  intro n
  induction n with
  | zero => intro k _ _ _; omega
  | succ n ih =>
    intro k k0 k1 kn
    have f := fo (m := m) (k := k) k0
    have f4 : ev m (m 4) 0 = -4 := fj4
    have g1 : oi m k = -4 ∨ ((0 ≤ bi m (oi m k) 3 ∧ bi m (oi m k) 3 ≤ 9) ∧ (0 ≤ bi m (oi m (k - 1)) 3 ∧ bi m (oi m (k - 1)) 3 ≤ 9)) := by
      rcases f with f | ⟨f1, f2, f3⟩
      · exact Or.inl f
      · right
        have h1 := fb hI ho.Q f1.1 f1.2
        have h2 := fb hI ho.Q f2.1 f2.2
        exact ⟨h2.2.2.2.2.2.2.2.2.2, h1.2.2.2.2.2.2.2.2.2⟩
    refine x_iload_n B dL_journal_147 rfl ?_
    refine x_aload_n B dL_journal_148 rfl ?_
    refine x_iconst B dL_journal_149 ?_
    refine x_qd B mvL_9 (q_count (by first | assumption | omega) (by first | assumption | omega)) dL_journal_150 rfl rfl (by decide) (by decide) (Nat.le_of_ble_eq_true rfl) (fun _ h => h) (fun r150 => ?_)
    refine x_icmp_ge (tgt := 224) B dL_journal_153 (by decide) (by first | assumption | omega) (by first | assumption | omega) (fun c153 => ?_) (fun c153 => ?_)
    · refine x_iload_n B dL_journal_224 rfl ?_
      refine x_bipush B dL_journal_225 (by decide) ?_
      refine x_icmp_gt (tgt := 245) B dL_journal_227 (by decide) (by first | assumption | omega) (by first | assumption | omega) (fun c227 => ?_) (fun c227 => ?_)
      · exfalso; omega
      · refine x_aload_n B dL_journal_230 rfl ?_
        refine x_iload_n B dL_journal_231 rfl ?_
        refine x_iconst B dL_journal_232 ?_
        refine x_qd B mvL_40 (q_event (by first | assumption | omega) (by first | assumption | omega) (by first | assumption | omega)) dL_journal_233 rfl rfl (by decide) (by decide) (Nat.le_of_ble_eq_true rfl) (fun _ h => h) (fun r233 => ?_)
        refine x_bipush B dL_journal_236 (by decide) ?_
        refine x_icmp_ne (tgt := 245) B dL_journal_238 (by decide) (by first | assumption | omega) (by first | assumption | omega) (fun c238 => ?_) (fun c238 => ?_)
        · exfalso; omega
        · refine x_iconst B dL_journal_241 ?_
          refine x_goto (tgt := 246) B dL_journal_242 (by decide) ?_
          exact x_bret B R dL_journal_246 rfl
    · refine x_aload_n B dL_journal_156 rfl ?_
      refine x_iload_n B dL_journal_157 rfl ?_
      refine x_iconst B dL_journal_158 ?_
      refine x_isub B dL_journal_159 ?_
      refine x_qd B mvL_37 (q_inOrder (by first | assumption | omega) (by first | assumption | omega)) dL_journal_160 rfl rfl (by decide) (by decide) (Nat.le_of_ble_eq_true rfl) (fun _ h => h) (fun r160 => ?_)
      refine x_istore_n B dL_journal_163 (by decide) ?_
      refine x_aload_n B dL_journal_164 rfl ?_
      refine x_iload_n B dL_journal_165 rfl ?_
      refine x_qd B mvL_37 (q_inOrder (by first | assumption | omega) (by first | assumption | omega)) dL_journal_166 rfl rfl (by decide) (by decide) (Nat.le_of_ble_eq_true rfl) (fun _ h => h) (fun r166 => ?_)
      refine x_istore B dL_journal_169 (by decide) ?_
      refine x_cut0 218 (True) (fun K218 => ?_) (fun h218 => ?_)
      · refine x_iload B dL_journal_171 rfl ?_
        refine x_bipush B dL_journal_173 (by decide) ?_
        refine x_icmp_eq (tgt := 218) B dL_journal_175 (by decide) (by first | assumption | omega) (by first | assumption | omega) (fun c175 => ?_) (fun c175 => ?_)
        · exact K218 (trivial)
        · refine x_aload_n B dL_journal_178 rfl ?_
          refine x_iload_n B dL_journal_179 rfl ?_
          refine x_iconst B dL_journal_180 ?_
          refine x_qd B mvL_21 (q_batchInfo (by first | assumption | omega) (by first | assumption | omega) (by first | assumption | omega)) dL_journal_181 rfl rfl (by decide) (by decide) (Nat.le_of_ble_eq_true rfl) (fun _ h => h) (fun r181 => ?_)
          refine x_aload_n B dL_journal_184 rfl ?_
          refine x_iload B dL_journal_185 rfl ?_
          refine x_iconst B dL_journal_187 ?_
          refine x_qd B mvL_21 (q_batchInfo (by first | assumption | omega) (by first | assumption | omega) (by first | assumption | omega)) dL_journal_188 rfl rfl (by decide) (by decide) (Nat.le_of_ble_eq_true rfl) (fun _ h => h) (fun r188 => ?_)
          refine x_icmp_lt (tgt := 216) B dL_journal_191 (by decide) (by first | assumption | omega) (by first | assumption | omega) (fun c191 => ?_) (fun c191 => ?_)
          · exfalso; omega
          · refine x_aload_n B dL_journal_194 rfl ?_
            refine x_iload_n B dL_journal_195 rfl ?_
            refine x_iconst B dL_journal_196 ?_
            refine x_qd B mvL_21 (q_batchInfo (by first | assumption | omega) (by first | assumption | omega) (by first | assumption | omega)) dL_journal_197 rfl rfl (by decide) (by decide) (Nat.le_of_ble_eq_true rfl) (fun _ h => h) (fun r197 => ?_)
            refine x_aload_n B dL_journal_200 rfl ?_
            refine x_iload B dL_journal_201 rfl ?_
            refine x_iconst B dL_journal_203 ?_
            refine x_qd B mvL_21 (q_batchInfo (by first | assumption | omega) (by first | assumption | omega) (by first | assumption | omega)) dL_journal_204 rfl rfl (by decide) (by decide) (Nat.le_of_ble_eq_true rfl) (fun _ h => h) (fun r204 => ?_)
            refine x_icmp_ne (tgt := 218) B dL_journal_207 (by decide) (by first | assumption | omega) (by first | assumption | omega) (fun c207 => ?_) (fun c207 => ?_)
            · exact K218 (trivial)
            · refine x_iload_n B dL_journal_210 rfl ?_
              refine x_iload B dL_journal_211 rfl ?_
              refine x_icmp_lt (tgt := 218) B dL_journal_213 (by decide) (by first | assumption | omega) (by first | assumption | omega) (fun c213 => ?_) (fun c213 => ?_)
              · exact K218 (trivial)
              · exfalso; omega
      · refine x_iinc B dL_journal_218 rfl (by decide) ?_
        refine x_goto (tgt := 147) B dL_journal_221 (by decide) ?_
        refine x_locs (L' := [(0, .ref e), (1, vi (m 4)), (2, vi (k + 1))]) (xl_cons (rfl) (xl_cons (rfl) (xl_cons (rfl) xl_nil))) ?_
        exact ih (k + 1) (by omega) (by omega) (by omega)
theorem jrn_1 (B : XB Γ G cL_journal RL 6 ({ frames := 4, cells := 0, slots := 0, locals := 89 } : Room) (AE e)) (R : XR Γ "journal" (some .boolean) 0 0 (xQ (pZ True (PE G e m ρ)) (AE e))) (ho : OK m ρ) : ∀ (n : Nat) (k : Int), 0 ≤ k → k ≤ m 4 → m 4 - k < n → XJ Γ 0 0 (PE G e m ρ) 9 [(0, .ref e), (1, vi (m 4)), (2, vi k)] [] := by
  have hI := ho.I
  have hb := hI.b
  have e3 : cn m 3 = m 3 := rfl
  have e11 : cn m 11 = m 1 := rfl
  intro n
  induction n with
  | zero => intro k _ _ _; omega
  | succ n ih =>
    intro k k0 k1 kn
    refine x_iload_n B dL_journal_9 rfl ?_
    refine x_iload_n B dL_journal_10 rfl ?_
    refine x_icmp_ge (tgt := 145) B dL_journal_11 (by decide) (by first | assumption | omega) (by first | assumption | omega) (fun c11 => ?_) (fun c11 => ?_)
    · skip
      refine x_iconst B dL_journal_145 ?_
      refine x_istore_n B dL_journal_146 (by decide) ?_
      refine x_locs (L' := [(0, .ref e), (1, vi (m 4)), (2, vi 1)]) (xl_cons (rfl) (xl_cons (rfl) (xl_cons (rfl) xl_nil))) ?_
      exact jrn_2 B R ho 13 1 (by omega) (by omega) (by omega)
    · obtain ⟨f1, f2, f3, f4⟩ := fj hI ho.J k0 (show k < m 4 by omega)
      refine x_aload_n B dL_journal_14 rfl ?_
      refine x_iload_n B dL_journal_15 rfl ?_
      refine x_iconst B dL_journal_16 ?_
      refine x_qd B mvL_40 (q_event (by first | assumption | omega) (by first | assumption | omega) (by first | assumption | omega)) dL_journal_17 rfl rfl (by decide) (by decide) (Nat.le_of_ble_eq_true rfl) (fun _ h => h) (fun r17 => ?_)
      refine x_istore_n B dL_journal_20 (by decide) ?_
      refine x_aload_n B dL_journal_21 rfl ?_
      refine x_iload_n B dL_journal_22 rfl ?_
      refine x_iconst B dL_journal_23 ?_
      refine x_qd B mvL_40 (q_event (by first | assumption | omega) (by first | assumption | omega) (by first | assumption | omega)) dL_journal_24 rfl rfl (by decide) (by decide) (Nat.le_of_ble_eq_true rfl) (fun _ h => h) (fun r24 => ?_)
      refine x_istore B dL_journal_27 (by decide) ?_
      refine x_cutI 55 (fun zz => zz = 0) (fun K55 => ?_) (fun z55 h55 => ?_)
      · refine x_iload_n B dL_journal_29 rfl ?_
        refine x_if_le (tgt := 54) B dL_journal_30 (by decide) (by first | assumption | omega) (fun c30 => ?_) (fun c30 => ?_)
        · refine x_iconst B dL_journal_54 ?_
          exact K55 _ (by omega)
        · refine x_aload_n B dL_journal_33 rfl ?_
          refine x_iload_n B dL_journal_34 rfl ?_
          refine x_iconst B dL_journal_35 ?_
          refine x_qd B mvL_40 (q_event (by first | assumption | omega) (by first | assumption | omega) (by first | assumption | omega)) dL_journal_36 rfl rfl (by decide) (by decide) (Nat.le_of_ble_eq_true rfl) (fun _ h => h) (fun r36 => ?_)
          refine x_aload_n B dL_journal_39 rfl ?_
          refine x_iload_n B dL_journal_40 rfl ?_
          refine x_iconst B dL_journal_41 ?_
          refine x_isub B dL_journal_42 ?_
          refine x_iconst B dL_journal_43 ?_
          refine x_qd B mvL_40 (q_event (by first | assumption | omega) (by first | assumption | omega) (by first | assumption | omega)) dL_journal_44 rfl rfl (by decide) (by decide) (Nat.le_of_ble_eq_true rfl) (fun _ h => h) (fun r44 => ?_)
          refine x_icmp_le (tgt := 54) B dL_journal_47 (by decide) (by first | assumption | omega) (by first | assumption | omega) (fun c47 => ?_) (fun c47 => ?_)
          · refine x_iconst B dL_journal_54 ?_
            exact K55 _ (by omega)
          · exfalso; omega
      · refine x_istore B dL_journal_55 (by decide) ?_
        refine x_iload B dL_journal_57 rfl ?_
        refine x_if_ne (tgt := 137) B dL_journal_59 (by decide) (by first | assumption | omega) (fun c59 => ?_) (fun c59 => ?_)
        · exfalso; omega
        · refine x_aload_n B dL_journal_62 rfl ?_
          refine x_iload_n B dL_journal_63 rfl ?_
          refine x_iconst B dL_journal_64 ?_
          refine x_qd B mvL_40 (q_event (by first | assumption | omega) (by first | assumption | omega) (by first | assumption | omega)) dL_journal_65 rfl rfl (by decide) (by decide) (Nat.le_of_ble_eq_true rfl) (fun _ h => h) (fun r65 => ?_)
          refine x_aload_n B dL_journal_68 rfl ?_
          refine x_bipush B dL_journal_69 (by decide) ?_
          refine x_qd B mvL_9 (q_count (by first | assumption | omega) (by first | assumption | omega)) dL_journal_71 rfl rfl (by decide) (by decide) (Nat.le_of_ble_eq_true rfl) (fun _ h => h) (fun r71 => ?_)
          refine x_icmp_gt (tgt := 137) B dL_journal_74 (by decide) (by first | assumption | omega) (by first | assumption | omega) (fun c74 => ?_) (fun c74 => ?_)
          · exfalso; omega
          · refine x_iload B dL_journal_77 rfl ?_
            refine x_if_lt (tgt := 137) B dL_journal_79 (by decide) (by first | assumption | omega) (fun c79 => ?_) (fun c79 => ?_)
            · exfalso; omega
            · refine x_iload B dL_journal_82 rfl ?_
              refine x_aload_n B dL_journal_84 rfl ?_
              refine x_iconst B dL_journal_85 ?_
              refine x_qd B mvL_9 (q_count (by first | assumption | omega) (by first | assumption | omega)) dL_journal_86 rfl rfl (by decide) (by decide) (Nat.le_of_ble_eq_true rfl) (fun _ h => h) (fun r86 => ?_)
              refine x_icmp_ge (tgt := 137) B dL_journal_89 (by decide) (by first | assumption | omega) (by first | assumption | omega) (fun c89 => ?_) (fun c89 => ?_)
              · exfalso; omega
              · refine x_iload_n B dL_journal_92 rfl ?_
                refine x_if_lt (tgt := 137) B dL_journal_93 (by decide) (by first | assumption | omega) (fun c93 => ?_) (fun c93 => ?_)
                · exfalso; omega
                · refine x_iload_n B dL_journal_96 rfl ?_
                  refine x_bipush B dL_journal_97 (by decide) ?_
                  refine x_icmp_gt (tgt := 137) B dL_journal_99 (by decide) (by first | assumption | omega) (by first | assumption | omega) (fun c99 => ?_) (fun c99 => ?_)
                  · exfalso; omega
                  · refine x_cut0 139 (True) (fun K139 => ?_) (fun h139 => ?_)
                    · refine x_iload_n B dL_journal_102 rfl ?_
                      refine x_if_le (tgt := 139) B dL_journal_103 (by decide) (by first | assumption | omega) (fun c103 => ?_) (fun c103 => ?_)
                      · exact K139 (trivial)
                      · refine x_aload_n B dL_journal_106 rfl ?_
                        refine x_iload_n B dL_journal_107 rfl ?_
                        refine x_iconst B dL_journal_108 ?_
                        refine x_isub B dL_journal_109 ?_
                        refine x_iconst B dL_journal_110 ?_
                        refine x_qd B mvL_40 (q_event (by first | assumption | omega) (by first | assumption | omega) (by first | assumption | omega)) dL_journal_111 rfl rfl (by decide) (by decide) (Nat.le_of_ble_eq_true rfl) (fun _ h => h) (fun r111 => ?_)
                        refine x_bipush B dL_journal_114 (by decide) ?_
                        refine x_icmp_ne (tgt := 139) B dL_journal_116 (by decide) (by first | assumption | omega) (by first | assumption | omega) (fun c116 => ?_) (fun c116 => ?_)
                        · exact K139 (trivial)
                        · refine x_iload_n B dL_journal_119 rfl ?_
                          refine x_iconst B dL_journal_120 ?_
                          refine x_icmp_ne (tgt := 137) B dL_journal_121 (by decide) (by first | assumption | omega) (by first | assumption | omega) (fun c121 => ?_) (fun c121 => ?_)
                          · exfalso; omega
                          · refine x_aload_n B dL_journal_124 rfl ?_
                            refine x_iload_n B dL_journal_125 rfl ?_
                            refine x_iconst B dL_journal_126 ?_
                            refine x_isub B dL_journal_127 ?_
                            refine x_iconst B dL_journal_128 ?_
                            refine x_qd B mvL_40 (q_event (by first | assumption | omega) (by first | assumption | omega) (by first | assumption | omega)) dL_journal_129 rfl rfl (by decide) (by decide) (Nat.le_of_ble_eq_true rfl) (fun _ h => h) (fun r129 => ?_)
                            refine x_iload B dL_journal_132 rfl ?_
                            refine x_icmp_eq (tgt := 139) B dL_journal_134 (by decide) (by first | assumption | omega) (by first | assumption | omega) (fun c134 => ?_) (fun c134 => ?_)
                            · exact K139 (trivial)
                            · exfalso; omega
                    · refine x_iinc B dL_journal_139 rfl (by decide) ?_
                      refine x_goto (tgt := 9) B dL_journal_142 (by decide) ?_
                      refine x_locs (L' := [(0, .ref e), (1, vi (m 4)), (2, vi (k + 1))]) (xl_cons (rfl) (xl_cons (rfl) (xl_cons (rfl) xl_nil))) ?_
                      exact ih (k + 1) (by omega) (by omega) (by omega)
end JRN
theorem c_L_journal {G : xG} {l : Launch} {e : Nat} {m : Int → Int} {ρ : Nat → Int → Int} (h1 : OK m ρ) : CT G l yL_journal cL_journal 6 (some .boolean) ({ frames := 4, cells := 0, slots := 0, locals := 89 } : Room) 0 0 [.ref e] (PE G e m ρ) (pZ True (PE G e m ρ)) (AE e) := by
  refine x_met1 (own := RL) (nm := "journal") (L := [(0, .ref e)]) (by decide) rfl rfl (fun _ => rfl) (Nat.le_of_ble_eq_true rfl) rfl rfl ?_
  intro Γ B R
  have hI := h1.I
  have hb := hI.b
  refine x_aload_n B dL_journal_0 rfl ?_
  refine x_bipush B dL_journal_1 (by decide) ?_
  refine x_qd B mvL_9 (q_count (by first | assumption | omega) (by first | assumption | omega)) dL_journal_3 rfl rfl (by decide) (by decide) (Nat.le_of_ble_eq_true rfl) (fun _ h => h) (fun r3 => ?_)
  refine x_istore_n B dL_journal_6 (by decide) ?_
  refine x_iconst B dL_journal_7 ?_
  refine x_istore_n B dL_journal_8 (by decide) ?_
  refine x_locs (L' := [(0, .ref e), (1, vi (m 4)), (2, vi 0)]) (xl_cons (rfl) (xl_cons (rfl) (xl_cons (rfl) xl_nil))) ?_
  exact jrn_1 B R h1 41 0 (by omega) (by omega) (by omega)
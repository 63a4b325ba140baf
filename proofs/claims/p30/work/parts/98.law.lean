/-! ===== the law: its 80 steps ===== -/
section LAW
variable {Γ : xE} {G : xG} {e b N : Nat} {xs : Nat → Int32} {m : Int → Int} {ρ : Nat → Int → Int} {n x y : Int} {kc ks : Nat}
theorem law_u8 (B : XB Γ G cL_law RL 13 room_1 (fun q => e ≤ q)) (hf : kc ≤ room_1.cells ∧ ks ≤ room_1.slots) (ho : OK m ρ) (hm : ∀ k, -2147483648 ≤ m k ∧ m k < 2147483648) (hn : 0 ≤ n ∧ n < 80) (ht : m 1 ≤ 40 * n) (hu1 : n ≤ 4 → n ≤ m 2) (hu2 : 4 ≤ n → 4 ≤ m 2) (hy : -2147483648 ≤ y ∧ y < 2147483648) (h8 : m 2 = 8) (K : ∀ m' ρ', OK m' ρ' → m' 1 ≤ 40 * (n + 1) → (n + 1 ≤ 4 → n + 1 ≤ m' 2) → (4 ≤ n + 1 → 4 ≤ m' 2) → XJ Γ kc ks (PE G e m' ρ') 637 [(0, .ref b), (1, .ref e), (2, vi n)] []) : XJ Γ kc ks (PE G e m ρ) 140 [(0, .ref b), (1, .ref e), (2, vi n), (4, vi y), (5, vi (m 2))] [] := by
  have hI := ho.I
  have hb := hI.b
  have c0 : cn m 0 = m 2 := rfl
  have c3 : cn m 3 = m 3 := rfl
  refine x_aload_n B dL_law_140 rfl ?_
  refine x_iload B dL_law_141 rfl ?_
  refine x_iconst B dL_law_143 ?_
  refine x_low B msL_50 dL_law_144 (by first | assumption | omega) (by decide) hf (Nat.le_of_ble_eq_true rfl) (fun w144 => ?_)
  refine x_cutI 166 (fun zz => zz = 60 ∨ zz = 9999) (fun K166 => ?_) (fun z166 h166 => ?_)
  · refine x_iload B dL_law_147 rfl ?_
    refine x_iconst B dL_law_149 ?_
    refine x_shrA B dL_law_150 (fun v150 q150 => ?_)
    refine x_iconst B dL_law_151 ?_
    refine x_low B msL_50 dL_law_152 (by first | assumption | omega) (by decide) hf (Nat.le_of_ble_eq_true rfl) (fun w152 => ?_)
    refine x_if_ne (tgt := 163) B dL_law_155 (by decide) (by first | assumption | omega) (fun c155 => ?_) (fun c155 => ?_)
    · refine x_sipush B dL_law_163 (by decide) ?_
      exact K166 _ (by omega)
    · refine x_bipush B dL_law_158 (by decide) ?_
      refine x_goto (tgt := 166) B dL_law_160 (by decide) ?_
      exact K166 _ (by omega)
  · refine x_qd B mvL_96 (q_unitF hI (by omega) (by omega) h8) dL_law_166 rfl rfl (by decide) hf (Nat.le_of_ble_eq_true rfl) (fun q h => h.1) (fun r166 => ?_)
    refine x_istore B dL_law_169 (by decide) ?_
    refine x_iload B dL_law_171 rfl ?_
    refine x_cutI 187 (fun zz => zz = -3) (fun K187 => ?_) (fun z187 h187 => ?_)
    · refine x_iload B dL_law_173 rfl ?_
      refine x_bipush B dL_law_175 (by decide) ?_
      refine x_icmp_ne (tgt := 185) B dL_law_177 (by decide) (by first | assumption | omega) (by first | assumption | omega) (fun c177 => ?_) (fun c177 => ?_)
      · exfalso; omega
      · refine x_bipush B dL_law_180 (by decide) ?_
        refine x_goto (tgt := 187) B dL_law_182 (by decide) ?_
        exact K187 _ (by omega)
    · refine x_icmp_ne (tgt := 229) B dL_law_187 (by decide) (by first | assumption | omega) (by first | assumption | omega) (fun c187 => ?_) (fun c187 => ?_)
      · exfalso; omega
      · refine x_iload B dL_law_190 rfl ?_
        refine x_if_lt (tgt := 231) B dL_law_192 (by decide) (by first | assumption | omega) (fun c192 => ?_) (fun c192 => ?_)
        · refine x_goto (tgt := 637) B dL_law_231 (by decide) ?_
          refine x_locs (L' := [(0, .ref b), (1, .ref e), (2, vi n)]) (xl_cons (rfl) (xl_cons (rfl) (xl_cons (rfl) xl_nil))) ?_
          exact K _ _ (by assumption) (by omega) (by omega) (by omega)
        · exfalso; omega
theorem law_uN (B : XB Γ G cL_law RL 13 room_1 (fun q => e ≤ q)) (hf : kc ≤ room_1.cells ∧ ks ≤ room_1.slots) (ho : OK m ρ) (hm : ∀ k, -2147483648 ≤ m k ∧ m k < 2147483648) (hn : 0 ≤ n ∧ n < 80) (ht : m 1 ≤ 40 * n) (hu1 : n ≤ 4 → n ≤ m 2) (hu2 : 4 ≤ n → 4 ≤ m 2) (hy : -2147483648 ≤ y ∧ y < 2147483648) (h8 : m 2 ≠ 8) (K : ∀ m' ρ', OK m' ρ' → m' 1 ≤ 40 * (n + 1) → (n + 1 ≤ 4 → n + 1 ≤ m' 2) → (4 ≤ n + 1 → 4 ≤ m' 2) → XJ Γ kc ks (PE G e m' ρ') 637 [(0, .ref b), (1, .ref e), (2, vi n)] []) : XJ Γ kc ks (PE G e m ρ) 140 [(0, .ref b), (1, .ref e), (2, vi n), (4, vi y), (5, vi (m 2))] [] := by
  have hI := ho.I
  have hb := hI.b
  have c0 : cn m 0 = m 2 := rfl
  have c3 : cn m 3 = m 3 := rfl
  have hall : ∀ kd cp, 0 ≤ kd → kd ≤ 3 → 1 ≤ cp → cp ≤ 10000 → ∃ m' ρ', QD G e m ρ yX6_unit cX6_unit 3 ({ frames := 4, cells := 0, slots := 0, locals := 97 } : Room) [vi kd, vi cp] (m 2) m' ρ' ∧ OK m' ρ' ∧ (m' 1 = m 1 ∧ m' 2 = m 2 + 1) ∧ ui m' (m 2) 6 = 1 ∧ ui m' (m 2) 2 = -4 ∧ ui m' (m 2) 5 = 0 := fun kd cp a1 a2 a3 a4 => by
    obtain ⟨g1, g2, g3, g4, g5⟩ := OK_unit ho hm (kd := kd) (cp := cp) ⟨a1, a2⟩ ⟨a3, a4⟩ h8
    exact ⟨_, _, q_unit hI ⟨a1, a2⟩ ⟨a3, a4⟩ h8, g1, g2, g3, g4, g5⟩
  refine x_aload_n B dL_law_140 rfl ?_
  refine x_iload B dL_law_141 rfl ?_
  refine x_iconst B dL_law_143 ?_
  refine x_low B msL_50 dL_law_144 (by first | assumption | omega) (by decide) hf (Nat.le_of_ble_eq_true rfl) (fun w144 => ?_)
  refine x_cutI 166 (fun zz => zz = 60 ∨ zz = 9999) (fun K166 => ?_) (fun z166 h166 => ?_)
  · refine x_iload B dL_law_147 rfl ?_
    refine x_iconst B dL_law_149 ?_
    refine x_shrA B dL_law_150 (fun v150 q150 => ?_)
    refine x_iconst B dL_law_151 ?_
    refine x_low B msL_50 dL_law_152 (by first | assumption | omega) (by decide) hf (Nat.le_of_ble_eq_true rfl) (fun w152 => ?_)
    refine x_if_ne (tgt := 163) B dL_law_155 (by decide) (by first | assumption | omega) (fun c155 => ?_) (fun c155 => ?_)
    · refine x_sipush B dL_law_163 (by decide) ?_
      exact K166 _ (by omega)
    · refine x_bipush B dL_law_158 (by decide) ?_
      refine x_goto (tgt := 166) B dL_law_160 (by decide) ?_
      exact K166 _ (by omega)
  · obtain ⟨m', ρ', hq, ho', ⟨e1, e2⟩, g1, g2, g3⟩ := hall (lw y 3) z166 (by omega) (by omega) (by omega) (by omega)
    have hI' := ho'.I
    refine x_qd B mvL_96 (id hq) dL_law_166 rfl rfl (by decide) hf (Nat.le_of_ble_eq_true rfl) (fun q h => h.1) (fun r166 => ?_)
    refine x_istore B dL_law_169 (by decide) ?_
    refine x_iload B dL_law_171 rfl ?_
    refine x_cutI 187 (fun zz => zz = m 2) (fun K187 => ?_) (fun z187 h187 => ?_)
    · refine x_iload B dL_law_173 rfl ?_
      refine x_bipush B dL_law_175 (by decide) ?_
      refine x_icmp_ne (tgt := 185) B dL_law_177 (by decide) (by first | assumption | omega) (by first | assumption | omega) (fun c177 => ?_) (fun c177 => ?_)
      · refine x_iload B dL_law_185 rfl ?_
        exact K187 _ (by omega)
      · exfalso; omega
    · refine x_icmp_ne (tgt := 229) B dL_law_187 (by decide) (by first | assumption | omega) (by first | assumption | omega) (fun c187 => ?_) (fun c187 => ?_)
      · exfalso; omega
      · refine x_iload B dL_law_190 rfl ?_
        refine x_if_lt (tgt := 231) B dL_law_192 (by decide) (by first | assumption | omega) (fun c192 => ?_) (fun c192 => ?_)
        · refine x_goto (tgt := 637) B dL_law_231 (by decide) ?_
          refine x_locs (L' := [(0, .ref b), (1, .ref e), (2, vi n)]) (xl_cons (rfl) (xl_cons (rfl) (xl_cons (rfl) xl_nil))) ?_
          exact K _ _ (by assumption) (by omega) (by omega) (by omega)
        · refine x_aload_n B dL_law_195 rfl ?_
          refine x_iload B dL_law_196 rfl ?_
          refine x_bipush B dL_law_198 (by decide) ?_
          refine x_qd B mvL_15 (q_unitInfo (by first | assumption | omega) (by first | assumption | omega) (by first | assumption | omega)) dL_law_200 rfl rfl (by decide) hf (Nat.le_of_ble_eq_true rfl) (fun q h => h.1) (fun r200 => ?_)
          refine x_iconst B dL_law_203 ?_
          refine x_icmp_ne (tgt := 229) B dL_law_204 (by decide) (by first | assumption | omega) (by first | assumption | omega) (fun c204 => ?_) (fun c204 => ?_)
          · exfalso; omega
          · refine x_aload_n B dL_law_207 rfl ?_
            refine x_iload B dL_law_208 rfl ?_
            refine x_iconst B dL_law_210 ?_
            refine x_qd B mvL_15 (q_unitInfo (by first | assumption | omega) (by first | assumption | omega) (by first | assumption | omega)) dL_law_211 rfl rfl (by decide) hf (Nat.le_of_ble_eq_true rfl) (fun q h => h.1) (fun r211 => ?_)
            refine x_bipush B dL_law_214 (by decide) ?_
            refine x_icmp_ne (tgt := 229) B dL_law_216 (by decide) (by first | assumption | omega) (by first | assumption | omega) (fun c216 => ?_) (fun c216 => ?_)
            · exfalso; omega
            · refine x_aload_n B dL_law_219 rfl ?_
              refine x_iload B dL_law_220 rfl ?_
              refine x_iconst B dL_law_222 ?_
              refine x_qd B mvL_15 (q_unitInfo (by first | assumption | omega) (by first | assumption | omega) (by first | assumption | omega)) dL_law_223 rfl rfl (by decide) hf (Nat.le_of_ble_eq_true rfl) (fun q h => h.1) (fun r223 => ?_)
              refine x_if_eq (tgt := 231) B dL_law_226 (by decide) (by first | assumption | omega) (fun c226 => ?_) (fun c226 => ?_)
              · refine x_goto (tgt := 637) B dL_law_231 (by decide) ?_
                refine x_locs (L' := [(0, .ref b), (1, .ref e), (2, vi n)]) (xl_cons (rfl) (xl_cons (rfl) (xl_cons (rfl) xl_nil))) ?_
                exact K _ _ (by assumption) (by omega) (by omega) (by omega)
              · exfalso; omega
theorem law_w (B : XB Γ G cL_law RL 13 room_1 (fun q => e ≤ q)) (hf : kc ≤ room_1.cells ∧ ks ≤ room_1.slots) (ho : OK m ρ) (hm : ∀ k, -2147483648 ≤ m k ∧ m k < 2147483648) (hn : 0 ≤ n ∧ n < 80) (ht : m 1 ≤ 40 * n) (hu1 : n ≤ 4 → n ≤ m 2) (hu2 : 4 ≤ n → 4 ≤ m 2) (hy : -2147483648 ≤ y ∧ y < 2147483648) (h4 : 4 ≤ n) (K : ∀ m' ρ', OK m' ρ' → m' 1 ≤ 40 * (n + 1) → (n + 1 ≤ 4 → n + 1 ≤ m' 2) → (4 ≤ n + 1 → 4 ≤ m' 2) → XJ Γ kc ks (PE G e m' ρ') 637 [(0, .ref b), (1, .ref e), (2, vi n)] []) : XJ Γ kc ks (PE G e m ρ) 240 [(0, .ref b), (1, .ref e), (2, vi n), (4, vi y)] [] := by
  have hI := ho.I
  have hb := hI.b
  have c0 : cn m 0 = m 2 := rfl
  have c3 : cn m 3 = m 3 := rfl
  refine x_aload_n B dL_law_240 rfl ?_
  refine x_iload B dL_law_241 rfl ?_
  refine x_iconst B dL_law_243 ?_
  refine x_low B msL_50 dL_law_244 (by first | assumption | omega) (by decide) hf (Nat.le_of_ble_eq_true rfl) (fun w244 => ?_)
  refine x_iload B dL_law_247 rfl ?_
  refine x_iconst B dL_law_249 ?_
  refine x_shrA B dL_law_250 (fun v250 q250 => ?_)
  refine x_lx B msL_120 (fun l => c_L_writes ho (by omega) (by omega)) dL_law_251 rfl rfl (by decide) hf (Nat.le_of_ble_eq_true rfl) (fun q h => h.1) (fun m' ρ' ho' hx' => ?_)
  refine x_if_ne (tgt := 637) B dL_law_254 (by decide) (by omega) (fun _ => ?_) (fun c254 => by exfalso; revert c254; decide)
  refine x_locs (L' := [(0, .ref b), (1, .ref e), (2, vi n)]) (xl_cons (rfl) (xl_cons (rfl) (xl_cons (rfl) xl_nil))) ?_
  exact K _ _ (by assumption) (by omega) (by omega) (by omega)
theorem law_bS (B : XB Γ G cL_law RL 13 room_1 (fun q => e ≤ q)) (hf : kc ≤ room_1.cells ∧ ks ≤ room_1.slots) (ho : OK m ρ) (hm : ∀ k, -2147483648 ≤ m k ∧ m k < 2147483648) (hn : 0 ≤ n ∧ n < 80) (ht : m 1 ≤ 40 * n) (hu1 : n ≤ 4 → n ≤ m 2) (hu2 : 4 ≤ n → 4 ≤ m 2) (hy : -2147483648 ≤ y ∧ y < 2147483648) {r sz bf z : Int} (h4 : 4 ≤ n) (hr : 0 ≤ r ∧ r < 2) (hsz : 1 ≤ sz ∧ sz ≤ 100) (hbf : bf = -1 ∨ (0 ≤ bf ∧ bf < m 3)) (hz : (z = 1 ∧ (vr m r = 0 ∨ (0 ≤ bf ∧ (bi m bf 5 = 4 ∨ bi m bf 5 = 5)))) ∨ (z = 0 ∧ ¬ (vr m r = 0 ∨ (0 ≤ bf ∧ (bi m bf 5 = 4 ∨ bi m bf 5 = 5))))) (hc : vr m r = 0 ∨ (0 ≤ bf ∧ (bi m bf 5 = 4 ∨ bi m bf 5 = 5))) (K : ∀ m' ρ', OK m' ρ' → m' 1 ≤ 40 * (n + 1) → (n + 1 ≤ 4 → n + 1 ≤ m' 2) → (4 ≤ n + 1 → 4 ≤ m' 2) → XJ Γ kc ks (PE G e m' ρ') 637 [(0, .ref b), (1, .ref e), (2, vi n)] []) : XJ Γ kc ks (PE G e m ρ) 362 [(0, .ref b), (1, .ref e), (2, vi n), (4, vi y), (6, vi (m 3)), (8, vi r), (9, vi sz), (10, vi bf), (11, vi z)] [] := by
  have hI := ho.I
  have hb := hI.b
  have c0 : cn m 0 = m 2 := rfl
  have c3 : cn m 3 = m 3 := rfl
  refine x_aload_n B dL_law_362 rfl ?_
  refine x_iload B dL_law_363 rfl ?_
  refine x_iload B dL_law_365 rfl ?_
  refine x_iload B dL_law_367 rfl ?_
  refine x_bipush B dL_law_369 (by decide) ?_
  refine x_shrA B dL_law_371 (fun v371 q371 => ?_)
  refine x_bipush B dL_law_372 (by decide) ?_
  refine x_low B msL_50 dL_law_374 (by first | assumption | omega) (by decide) hf (Nat.le_of_ble_eq_true rfl) (fun w374 => ?_)
  refine x_iload B dL_law_377 rfl ?_
  refine x_qd B mvL_102 (q_batchS hI (by omega) (by omega) (by omega) hbf hc) dL_law_379 rfl rfl (by decide) hf (Nat.le_of_ble_eq_true rfl) (fun q h => h.1) (fun r379 => ?_)
  refine x_istore B dL_law_382 (by decide) ?_
  refine x_iload B dL_law_384 rfl ?_
  refine x_cutI 410 (fun zz => zz = -2) (fun K410 => ?_) (fun z410 h410 => ?_)
  · refine x_iload B dL_law_386 rfl ?_
    refine x_if_eq (tgt := 396) B dL_law_388 (by decide) (by first | assumption | omega) (fun c388 => ?_) (fun c388 => ?_)
    · exfalso; omega
    · refine x_bipush B dL_law_391 (by decide) ?_
      refine x_goto (tgt := 410) B dL_law_393 (by decide) ?_
      exact K410 _ (by omega)
  · refine x_icmp_ne (tgt := 479) B dL_law_410 (by decide) (by first | assumption | omega) (by first | assumption | omega) (fun c410 => ?_) (fun c410 => ?_)
    · exfalso; omega
    · refine x_iload B dL_law_413 rfl ?_
      refine x_if_lt (tgt := 481) B dL_law_415 (by decide) (by first | assumption | omega) (fun c415 => ?_) (fun c415 => ?_)
      · refine x_goto (tgt := 637) B dL_law_481 (by decide) ?_
        refine x_locs (L' := [(0, .ref b), (1, .ref e), (2, vi n)]) (xl_cons (rfl) (xl_cons (rfl) (xl_cons (rfl) xl_nil))) ?_
        exact K _ _ (by assumption) (by omega) (by omega) (by omega)
      · exfalso; omega
theorem law_bF (B : XB Γ G cL_law RL 13 room_1 (fun q => e ≤ q)) (hf : kc ≤ room_1.cells ∧ ks ≤ room_1.slots) (ho : OK m ρ) (hm : ∀ k, -2147483648 ≤ m k ∧ m k < 2147483648) (hn : 0 ≤ n ∧ n < 80) (ht : m 1 ≤ 40 * n) (hu1 : n ≤ 4 → n ≤ m 2) (hu2 : 4 ≤ n → 4 ≤ m 2) (hy : -2147483648 ≤ y ∧ y < 2147483648) {r sz bf z : Int} (h4 : 4 ≤ n) (hr : 0 ≤ r ∧ r < 2) (hsz : 1 ≤ sz ∧ sz ≤ 100) (hbf : bf = -1 ∨ (0 ≤ bf ∧ bf < m 3)) (hz : (z = 1 ∧ (vr m r = 0 ∨ (0 ≤ bf ∧ (bi m bf 5 = 4 ∨ bi m bf 5 = 5)))) ∨ (z = 0 ∧ ¬ (vr m r = 0 ∨ (0 ≤ bf ∧ (bi m bf 5 = 4 ∨ bi m bf 5 = 5))))) (hc : ¬ (vr m r = 0 ∨ (0 ≤ bf ∧ (bi m bf 5 = 4 ∨ bi m bf 5 = 5)))) (h12 : m 3 = 12) (K : ∀ m' ρ', OK m' ρ' → m' 1 ≤ 40 * (n + 1) → (n + 1 ≤ 4 → n + 1 ≤ m' 2) → (4 ≤ n + 1 → 4 ≤ m' 2) → XJ Γ kc ks (PE G e m' ρ') 637 [(0, .ref b), (1, .ref e), (2, vi n)] []) : XJ Γ kc ks (PE G e m ρ) 362 [(0, .ref b), (1, .ref e), (2, vi n), (4, vi y), (6, vi (m 3)), (8, vi r), (9, vi sz), (10, vi bf), (11, vi z)] [] := by
  have hI := ho.I
  have hb := hI.b
  have c0 : cn m 0 = m 2 := rfl
  have c3 : cn m 3 = m 3 := rfl
  refine x_aload_n B dL_law_362 rfl ?_
  refine x_iload B dL_law_363 rfl ?_
  refine x_iload B dL_law_365 rfl ?_
  refine x_iload B dL_law_367 rfl ?_
  refine x_bipush B dL_law_369 (by decide) ?_
  refine x_shrA B dL_law_371 (fun v371 q371 => ?_)
  refine x_bipush B dL_law_372 (by decide) ?_
  refine x_low B msL_50 dL_law_374 (by first | assumption | omega) (by decide) hf (Nat.le_of_ble_eq_true rfl) (fun w374 => ?_)
  refine x_iload B dL_law_377 rfl ?_
  refine x_qd B mvL_102 (q_batchF hI (by omega) (by omega) (by omega) hbf (by omega) h12) dL_law_379 rfl rfl (by decide) hf (Nat.le_of_ble_eq_true rfl) (fun q h => h.1) (fun r379 => ?_)
  refine x_istore B dL_law_382 (by decide) ?_
  refine x_iload B dL_law_384 rfl ?_
  refine x_cutI 410 (fun zz => zz = -3) (fun K410 => ?_) (fun z410 h410 => ?_)
  · refine x_iload B dL_law_386 rfl ?_
    refine x_if_eq (tgt := 396) B dL_law_388 (by decide) (by first | assumption | omega) (fun c388 => ?_) (fun c388 => ?_)
    · refine x_iload B dL_law_396 rfl ?_
      refine x_bipush B dL_law_398 (by decide) ?_
      refine x_icmp_ne (tgt := 408) B dL_law_400 (by decide) (by first | assumption | omega) (by first | assumption | omega) (fun c400 => ?_) (fun c400 => ?_)
      · exfalso; omega
      · refine x_bipush B dL_law_403 (by decide) ?_
        refine x_goto (tgt := 410) B dL_law_405 (by decide) ?_
        exact K410 _ (by omega)
    · exfalso; omega
  · refine x_icmp_ne (tgt := 479) B dL_law_410 (by decide) (by first | assumption | omega) (by first | assumption | omega) (fun c410 => ?_) (fun c410 => ?_)
    · exfalso; omega
    · refine x_iload B dL_law_413 rfl ?_
      refine x_if_lt (tgt := 481) B dL_law_415 (by decide) (by first | assumption | omega) (fun c415 => ?_) (fun c415 => ?_)
      · refine x_goto (tgt := 637) B dL_law_481 (by decide) ?_
        refine x_locs (L' := [(0, .ref b), (1, .ref e), (2, vi n)]) (xl_cons (rfl) (xl_cons (rfl) (xl_cons (rfl) xl_nil))) ?_
        exact K _ _ (by assumption) (by omega) (by omega) (by omega)
      · exfalso; omega
theorem law_bN (B : XB Γ G cL_law RL 13 room_1 (fun q => e ≤ q)) (hf : kc ≤ room_1.cells ∧ ks ≤ room_1.slots) (ho : OK m ρ) (hm : ∀ k, -2147483648 ≤ m k ∧ m k < 2147483648) (hn : 0 ≤ n ∧ n < 80) (ht : m 1 ≤ 40 * n) (hu1 : n ≤ 4 → n ≤ m 2) (hu2 : 4 ≤ n → 4 ≤ m 2) (hy : -2147483648 ≤ y ∧ y < 2147483648) {r sz bf z : Int} (h4 : 4 ≤ n) (hr : 0 ≤ r ∧ r < 2) (hsz : 1 ≤ sz ∧ sz ≤ 100) (hbf : bf = -1 ∨ (0 ≤ bf ∧ bf < m 3)) (hz : (z = 1 ∧ (vr m r = 0 ∨ (0 ≤ bf ∧ (bi m bf 5 = 4 ∨ bi m bf 5 = 5)))) ∨ (z = 0 ∧ ¬ (vr m r = 0 ∨ (0 ≤ bf ∧ (bi m bf 5 = 4 ∨ bi m bf 5 = 5))))) (hc : ¬ (vr m r = 0 ∨ (0 ≤ bf ∧ (bi m bf 5 = 4 ∨ bi m bf 5 = 5)))) (h12 : m 3 ≠ 12) (K : ∀ m' ρ', OK m' ρ' → m' 1 ≤ 40 * (n + 1) → (n + 1 ≤ 4 → n + 1 ≤ m' 2) → (4 ≤ n + 1 → 4 ≤ m' 2) → XJ Γ kc ks (PE G e m' ρ') 637 [(0, .ref b), (1, .ref e), (2, vi n)] []) : XJ Γ kc ks (PE G e m ρ) 362 [(0, .ref b), (1, .ref e), (2, vi n), (4, vi y), (6, vi (m 3)), (8, vi r), (9, vi sz), (10, vi bf), (11, vi z)] [] := by
  have hI := ho.I
  have hb := hI.b
  have c0 : cn m 0 = m 2 := rfl
  have c3 : cn m 3 = m 3 := rfl
  have hall : ∀ pr, 0 ≤ pr → pr ≤ 9 → ∃ m' ρ', QD G e m ρ yX6_batch cX6_batch 5 ({ frames := 4, cells := 0, slots := 0, locals := 97 } : Room) [vi r, vi sz, vi pr, vi bf] (m 3) m' ρ' ∧ OK m' ρ' ∧ (m' 1 = m 1 ∧ m' 2 = m 2 ∧ m' 3 = m 3 + 1) ∧ vr m' r = vr m r ∧ bi m' (m 3) 1 = vr m r ∧ bi m' (m 3) 11 = sz ∧ bi m' (m 3) 4 = (if bf = -1 then -4 else bf) ∧ bi m' (m 3) 5 = 0 := fun pr a1 a2 => by
    obtain ⟨g1, g2, g3, g4, g5, g6, g7⟩ := OK_batch ho hm (r := r) (sz := sz) (pr := pr) (bf := bf) (by omega) (by omega) ⟨a1, a2⟩ hbf (by omega) h12
    exact ⟨_, _, q_batch hI (by omega) (by omega) ⟨a1, a2⟩ hbf (by omega) h12, g1, g2, g3, g4, g5, g6, g7⟩
  refine x_aload_n B dL_law_362 rfl ?_
  refine x_iload B dL_law_363 rfl ?_
  refine x_iload B dL_law_365 rfl ?_
  refine x_iload B dL_law_367 rfl ?_
  refine x_bipush B dL_law_369 (by decide) ?_
  refine x_shrA B dL_law_371 (fun v371 q371 => ?_)
  refine x_bipush B dL_law_372 (by decide) ?_
  refine x_low B msL_50 dL_law_374 (by first | assumption | omega) (by decide) hf (Nat.le_of_ble_eq_true rfl) (fun w374 => ?_)
  obtain ⟨m', ρ', hq, ho', ⟨e1, e2, e3⟩, g1, g2, g3, g4, g5⟩ := hall _ w374.1 (by omega)
  have hI' := ho'.I
  have g4' : (bf = -1 ∧ bi m' (m 3) 4 = -4) ∨ (bf ≠ -1 ∧ bi m' (m 3) 4 = bf) := by
    rw [g4]
    split
    · next q => exact Or.inl ⟨q, rfl⟩
    · next q => exact Or.inr ⟨q, rfl⟩
  clear g4
  refine x_iload B dL_law_377 rfl ?_
  refine x_qd B mvL_102 (id hq) dL_law_379 rfl rfl (by decide) hf (Nat.le_of_ble_eq_true rfl) (fun q h => h.1) (fun r379 => ?_)
  refine x_istore B dL_law_382 (by decide) ?_
  refine x_iload B dL_law_384 rfl ?_
  refine x_cutI 410 (fun zz => zz = m 3) (fun K410 => ?_) (fun z410 h410 => ?_)
  · refine x_iload B dL_law_386 rfl ?_
    refine x_if_eq (tgt := 396) B dL_law_388 (by decide) (by first | assumption | omega) (fun c388 => ?_) (fun c388 => ?_)
    · refine x_iload B dL_law_396 rfl ?_
      refine x_bipush B dL_law_398 (by decide) ?_
      refine x_icmp_ne (tgt := 408) B dL_law_400 (by decide) (by first | assumption | omega) (by first | assumption | omega) (fun c400 => ?_) (fun c400 => ?_)
      · refine x_iload B dL_law_408 rfl ?_
        exact K410 _ (by omega)
      · exfalso; omega
    · exfalso; omega
  · refine x_icmp_ne (tgt := 479) B dL_law_410 (by decide) (by first | assumption | omega) (by first | assumption | omega) (fun c410 => ?_) (fun c410 => ?_)
    · exfalso; omega
    · refine x_iload B dL_law_413 rfl ?_
      refine x_if_lt (tgt := 481) B dL_law_415 (by decide) (by first | assumption | omega) (fun c415 => ?_) (fun c415 => ?_)
      · refine x_goto (tgt := 637) B dL_law_481 (by decide) ?_
        refine x_locs (L' := [(0, .ref b), (1, .ref e), (2, vi n)]) (xl_cons (rfl) (xl_cons (rfl) (xl_cons (rfl) xl_nil))) ?_
        exact K _ _ (by assumption) (by omega) (by omega) (by omega)
      · refine x_aload_n B dL_law_418 rfl ?_
        refine x_iload B dL_law_419 rfl ?_
        refine x_iconst B dL_law_421 ?_
        refine x_qd B mvL_21 (q_batchInfo (by first | assumption | omega) (by first | assumption | omega) (by first | assumption | omega)) dL_law_422 rfl rfl (by decide) hf (Nat.le_of_ble_eq_true rfl) (fun q h => h.1) (fun r422 => ?_)
        refine x_aload_n B dL_law_425 rfl ?_
        refine x_iload B dL_law_426 rfl ?_
        refine x_qd B mvL_24 (q_versions (by first | assumption | omega) (by first | assumption | omega)) dL_law_428 rfl rfl (by decide) hf (Nat.le_of_ble_eq_true rfl) (fun q h => h.1) (fun r428 => ?_)
        refine x_icmp_ne (tgt := 479) B dL_law_431 (by decide) (by first | assumption | omega) (by first | assumption | omega) (fun c431 => ?_) (fun c431 => ?_)
        · exfalso; omega
        · refine x_aload_n B dL_law_434 rfl ?_
          refine x_iload B dL_law_435 rfl ?_
          refine x_bipush B dL_law_437 (by decide) ?_
          refine x_qd B mvL_21 (q_batchInfo (by first | assumption | omega) (by first | assumption | omega) (by first | assumption | omega)) dL_law_439 rfl rfl (by decide) hf (Nat.le_of_ble_eq_true rfl) (fun q h => h.1) (fun r439 => ?_)
          refine x_iload B dL_law_442 rfl ?_
          refine x_icmp_ne (tgt := 479) B dL_law_444 (by decide) (by first | assumption | omega) (by first | assumption | omega) (fun c444 => ?_) (fun c444 => ?_)
          · exfalso; omega
          · refine x_aload_n B dL_law_447 rfl ?_
            refine x_iload B dL_law_448 rfl ?_
            refine x_iconst B dL_law_450 ?_
            refine x_qd B mvL_21 (q_batchInfo (by first | assumption | omega) (by first | assumption | omega) (by first | assumption | omega)) dL_law_451 rfl rfl (by decide) hf (Nat.le_of_ble_eq_true rfl) (fun q h => h.1) (fun r451 => ?_)
            refine x_cutI 466 (fun zz => (bf = -1 ∧ zz = -4) ∨ (bf ≠ -1 ∧ zz = bf)) (fun K466 => ?_) (fun z466 h466 => ?_)
            · refine x_iload B dL_law_454 rfl ?_
              refine x_if_ge (tgt := 464) B dL_law_456 (by decide) (by first | assumption | omega) (fun c456 => ?_) (fun c456 => ?_)
              · refine x_iload B dL_law_464 rfl ?_
                exact K466 _ (by omega)
              · refine x_bipush B dL_law_459 (by decide) ?_
                refine x_goto (tgt := 466) B dL_law_461 (by decide) ?_
                exact K466 _ (by omega)
            · refine x_icmp_ne (tgt := 479) B dL_law_466 (by decide) (by first | assumption | omega) (by first | assumption | omega) (fun c466 => ?_) (fun c466 => ?_)
              · exfalso; omega
              · refine x_aload_n B dL_law_469 rfl ?_
                refine x_iload B dL_law_470 rfl ?_
                refine x_iconst B dL_law_472 ?_
                refine x_qd B mvL_21 (q_batchInfo (by first | assumption | omega) (by first | assumption | omega) (by first | assumption | omega)) dL_law_473 rfl rfl (by decide) hf (Nat.le_of_ble_eq_true rfl) (fun q h => h.1) (fun r473 => ?_)
                refine x_if_eq (tgt := 481) B dL_law_476 (by decide) (by first | assumption | omega) (fun c476 => ?_) (fun c476 => ?_)
                · refine x_goto (tgt := 637) B dL_law_481 (by decide) ?_
                  refine x_locs (L' := [(0, .ref b), (1, .ref e), (2, vi n)]) (xl_cons (rfl) (xl_cons (rfl) (xl_cons (rfl) xl_nil))) ?_
                  exact K _ _ (by assumption) (by omega) (by omega) (by omega)
                · exfalso; omega
theorem law_b (B : XB Γ G cL_law RL 13 room_1 (fun q => e ≤ q)) (hf : kc ≤ room_1.cells ∧ ks ≤ room_1.slots) (ho : OK m ρ) (hm : ∀ k, -2147483648 ≤ m k ∧ m k < 2147483648) (hn : 0 ≤ n ∧ n < 80) (ht : m 1 ≤ 40 * n) (hu1 : n ≤ 4 → n ≤ m 2) (hu2 : 4 ≤ n → 4 ≤ m 2) (hy : -2147483648 ≤ y ∧ y < 2147483648) (h4 : 4 ≤ n) (K : ∀ m' ρ', OK m' ρ' → m' 1 ≤ 40 * (n + 1) → (n + 1 ≤ 4 → n + 1 ≤ m' 2) → (4 ≤ n + 1 → 4 ≤ m' 2) → XJ Γ kc ks (PE G e m' ρ') 637 [(0, .ref b), (1, .ref e), (2, vi n)] []) : XJ Γ kc ks (PE G e m ρ) 265 [(0, .ref b), (1, .ref e), (2, vi n), (4, vi y), (6, vi (m 3))] [] := by
  have hI := ho.I
  have hb := hI.b
  have c0 : cn m 0 = m 2 := rfl
  have c3 : cn m 3 = m 3 := rfl
  refine x_iload B dL_law_265 rfl ?_
  refine x_iconst B dL_law_267 ?_
  refine x_low B msL_50 dL_law_268 (by first | assumption | omega) (by decide) hf (Nat.le_of_ble_eq_true rfl) (fun w268 => ?_)
  refine x_istore B dL_law_271 (by decide) ?_
  refine x_iconst B dL_law_273 ?_
  refine x_iload B dL_law_274 rfl ?_
  refine x_iconst B dL_law_276 ?_
  refine x_shrA B dL_law_277 (fun v277 q277 => ?_)
  refine x_bipush B dL_law_278 (by decide) ?_
  refine x_low B msL_50 dL_law_280 (by first | assumption | omega) (by decide) hf (Nat.le_of_ble_eq_true rfl) (fun w280 => ?_)
  refine x_iadd B dL_law_283 ?_
  refine x_istore B dL_law_284 (by decide) ?_
  refine x_cutI 317 (fun zz => zz = -1 ∨ (0 ≤ zz ∧ zz < m 3)) (fun K317 => ?_) (fun z317 h317 => ?_)
  · refine x_iload B dL_law_286 rfl ?_
    refine x_bipush B dL_law_288 (by decide) ?_
    refine x_shrA B dL_law_290 (fun v290 q290 => ?_)
    refine x_iconst B dL_law_291 ?_
    refine x_low B msL_50 dL_law_292 (by first | assumption | omega) (by decide) hf (Nat.le_of_ble_eq_true rfl) (fun w292 => ?_)
    refine x_if_eq (tgt := 303) B dL_law_295 (by decide) (by first | assumption | omega) (fun c295 => ?_) (fun c295 => ?_)
    · refine x_iconst B dL_law_303 ?_
      refine x_goto (tgt := 317) B dL_law_304 (by decide) ?_
      exact K317 _ (by omega)
    · refine x_iload B dL_law_298 rfl ?_
      refine x_if_ne (tgt := 307) B dL_law_300 (by decide) (by first | assumption | omega) (fun c300 => ?_) (fun c300 => ?_)
      · refine x_iload B dL_law_307 rfl ?_
        refine x_bipush B dL_law_309 (by decide) ?_
        refine x_shrA B dL_law_311 (fun v311 q311 => ?_)
        refine x_iload B dL_law_312 rfl ?_
        refine x_low B msL_50 dL_law_314 (by first | assumption | omega) (by decide) hf (Nat.le_of_ble_eq_true rfl) (fun w314 => ?_)
        exact K317 _ (by omega)
      · refine x_iconst B dL_law_303 ?_
        refine x_goto (tgt := 317) B dL_law_304 (by decide) ?_
        exact K317 _ (by omega)
  · refine x_istore B dL_law_317 (by decide) ?_
    refine x_cutI 360 (fun zz => (zz = 1 ∧ (vr m (lw y 2) = 0 ∨ (0 ≤ z317 ∧ (bi m z317 5 = 4 ∨ bi m z317 5 = 5)))) ∨ (zz = 0 ∧ ¬ (vr m (lw y 2) = 0 ∨ (0 ≤ z317 ∧ (bi m z317 5 = 4 ∨ bi m z317 5 = 5))))) (fun K360 => ?_) (fun z360 h360 => ?_)
    · refine x_aload_n B dL_law_319 rfl ?_
      refine x_iload B dL_law_320 rfl ?_
      refine x_qd B mvL_24 (q_versions (by first | assumption | omega) (by first | assumption | omega)) dL_law_322 rfl rfl (by decide) hf (Nat.le_of_ble_eq_true rfl) (fun q h => h.1) (fun r322 => ?_)
      refine x_if_eq (tgt := 355) B dL_law_325 (by decide) (by first | assumption | omega) (fun c325 => ?_) (fun c325 => ?_)
      · refine x_iconst B dL_law_355 ?_
        refine x_goto (tgt := 360) B dL_law_356 (by decide) ?_
        exact K360 _ (by omega)
      · refine x_iload B dL_law_328 rfl ?_
        refine x_if_lt (tgt := 359) B dL_law_330 (by decide) (by first | assumption | omega) (fun c330 => ?_) (fun c330 => ?_)
        · refine x_iconst B dL_law_359 ?_
          exact K360 _ (by omega)
        · refine x_aload_n B dL_law_333 rfl ?_
          refine x_iload B dL_law_334 rfl ?_
          refine x_iconst B dL_law_336 ?_
          refine x_qd B mvL_21 (q_batchInfo (by first | assumption | omega) (by first | assumption | omega) (by first | assumption | omega)) dL_law_337 rfl rfl (by decide) hf (Nat.le_of_ble_eq_true rfl) (fun q h => h.1) (fun r337 => ?_)
          refine x_iconst B dL_law_340 ?_
          refine x_icmp_eq (tgt := 355) B dL_law_341 (by decide) (by first | assumption | omega) (by first | assumption | omega) (fun c341 => ?_) (fun c341 => ?_)
          · refine x_iconst B dL_law_355 ?_
            refine x_goto (tgt := 360) B dL_law_356 (by decide) ?_
            exact K360 _ (by omega)
          · refine x_aload_n B dL_law_344 rfl ?_
            refine x_iload B dL_law_345 rfl ?_
            refine x_iconst B dL_law_347 ?_
            refine x_qd B mvL_21 (q_batchInfo (by first | assumption | omega) (by first | assumption | omega) (by first | assumption | omega)) dL_law_348 rfl rfl (by decide) hf (Nat.le_of_ble_eq_true rfl) (fun q h => h.1) (fun r348 => ?_)
            refine x_iconst B dL_law_351 ?_
            refine x_icmp_ne (tgt := 359) B dL_law_352 (by decide) (by first | assumption | omega) (by first | assumption | omega) (fun c352 => ?_) (fun c352 => ?_)
            · refine x_iconst B dL_law_359 ?_
              exact K360 _ (by omega)
            · refine x_iconst B dL_law_355 ?_
              refine x_goto (tgt := 360) B dL_law_356 (by decide) ?_
              exact K360 _ (by omega)
    · refine x_istore B dL_law_360 (by decide) ?_
      refine x_locs (L' := [(0, .ref b), (1, .ref e), (2, vi n), (4, vi y), (6, vi (m 3)), (8, vi (lw y 2)), (9, vi (1 + lw v277 100)), (10, vi z317), (11, vi z360)]) (xl_cons (rfl) (xl_cons (rfl) (xl_cons (rfl) (xl_cons (rfl) (xl_cons (rfl) (xl_cons (rfl) (xl_cons (rfl) (xl_cons (rfl) (xl_cons (rfl) xl_nil))))))))) ?_
      by_cases c : vr m (lw y 2) = 0 ∨ (0 ≤ z317 ∧ (bi m z317 5 = 4 ∨ bi m z317 5 = 5))
      · exact law_bS B hf ho hm hn ht hu1 hu2 hy h4 (by omega) (by omega) (by omega) h360 c K
      · by_cases d : m 3 = 12
        · exact law_bF B hf ho hm hn ht hu1 hu2 hy h4 (by omega) (by omega) (by omega) h360 c d K
        · exact law_bN B hf ho hm hn ht hu1 hu2 hy h4 (by omega) (by omega) (by omega) h360 c d K
theorem law_c (B : XB Γ G cL_law RL 13 room_1 (fun q => e ≤ q)) (hf : kc ≤ room_1.cells ∧ ks ≤ room_1.slots) (ho : OK m ρ) (hm : ∀ k, -2147483648 ≤ m k ∧ m k < 2147483648) (hn : 0 ≤ n ∧ n < 80) (ht : m 1 ≤ 40 * n) (hu1 : n ≤ 4 → n ≤ m 2) (hu2 : 4 ≤ n → 4 ≤ m 2) (hy : -2147483648 ≤ y ∧ y < 2147483648) (h4 : 4 ≤ n) (h3 : 0 < m 3) (K : ∀ m' ρ', OK m' ρ' → m' 1 ≤ 40 * (n + 1) → (n + 1 ≤ 4 → n + 1 ≤ m' 2) → (4 ≤ n + 1 → 4 ≤ m' 2) → XJ Γ kc ks (PE G e m' ρ') 637 [(0, .ref b), (1, .ref e), (2, vi n)] []) : XJ Γ kc ks (PE G e m ρ) 496 [(0, .ref b), (1, .ref e), (2, vi n), (4, vi y), (6, vi (m 3))] [] := by
  have hI := ho.I
  have hb := hI.b
  have c0 : cn m 0 = m 2 := rfl
  have c3 : cn m 3 = m 3 := rfl
  refine x_aload_n B dL_law_496 rfl ?_
  refine x_iload B dL_law_497 rfl ?_
  refine x_iload B dL_law_499 rfl ?_
  refine x_low B msL_50 dL_law_501 (by first | assumption | omega) (by decide) hf (Nat.le_of_ble_eq_true rfl) (fun w501 => ?_)
  refine x_iload B dL_law_504 rfl ?_
  refine x_iconst B dL_law_506 ?_
  refine x_shrA B dL_law_507 (fun v507 q507 => ?_)
  refine x_lx B msL_124 (fun l => c_L_commands ho (by omega) (by omega)) dL_law_508 rfl rfl (by decide) hf (Nat.le_of_ble_eq_true rfl) (fun q h => h.1) (fun m' ρ' ho' hx' => ?_)
  refine x_if_ne (tgt := 637) B dL_law_511 (by decide) (by omega) (fun _ => ?_) (fun c511 => by exfalso; revert c511; decide)
  refine x_locs (L' := [(0, .ref b), (1, .ref e), (2, vi n)]) (xl_cons (rfl) (xl_cons (rfl) (xl_cons (rfl) xl_nil))) ?_
  exact K _ _ (by assumption) (by omega) (by omega) (by omega)
theorem law_n (B : XB Γ G cL_law RL 13 room_1 (fun q => e ≤ q)) (hf : kc ≤ room_1.cells ∧ ks ≤ room_1.slots) (ho : OK m ρ) (hm : ∀ k, -2147483648 ≤ m k ∧ m k < 2147483648) (hn : 0 ≤ n ∧ n < 80) (ht : m 1 ≤ 40 * n) (hu1 : n ≤ 4 → n ≤ m 2) (hu2 : 4 ≤ n → 4 ≤ m 2) (hy : -2147483648 ≤ y ∧ y < 2147483648) (h4 : 4 ≤ n) (K : ∀ m' ρ', OK m' ρ' → m' 1 ≤ 40 * (n + 1) → (n + 1 ≤ 4 → n + 1 ≤ m' 2) → (4 ≤ n + 1 → 4 ≤ m' 2) → XJ Γ kc ks (PE G e m' ρ') 637 [(0, .ref b), (1, .ref e), (2, vi n)] []) : XJ Γ kc ks (PE G e m ρ) 523 [(0, .ref b), (1, .ref e), (2, vi n), (4, vi y), (5, vi (m 2))] [] := by
  have hI := ho.I
  have hb := hI.b
  have c0 : cn m 0 = m 2 := rfl
  have c3 : cn m 3 = m 3 := rfl
  refine x_aload_n B dL_law_523 rfl ?_
  refine x_iload B dL_law_524 rfl ?_
  refine x_iload B dL_law_526 rfl ?_
  refine x_low B msL_50 dL_law_528 (by first | assumption | omega) (by decide) hf (Nat.le_of_ble_eq_true rfl) (fun w528 => ?_)
  refine x_iload B dL_law_531 rfl ?_
  refine x_iconst B dL_law_533 ?_
  refine x_shrA B dL_law_534 (fun v534 q534 => ?_)
  refine x_lx B msL_127 (fun l => c_L_units ho (by omega) (by omega)) dL_law_535 rfl rfl (by decide) hf (Nat.le_of_ble_eq_true rfl) (fun q h => h.1) (fun m' ρ' ho' hx' => ?_)
  refine x_if_ne (tgt := 637) B dL_law_538 (by decide) (by omega) (fun _ => ?_) (fun c538 => by exfalso; revert c538; decide)
  refine x_locs (L' := [(0, .ref b), (1, .ref e), (2, vi n)]) (xl_cons (rfl) (xl_cons (rfl) (xl_cons (rfl) xl_nil))) ?_
  exact K _ _ (by assumption) (by omega) (by omega) (by omega)
theorem law_s (B : XB Γ G cL_law RL 13 room_1 (fun q => e ≤ q)) (hf : kc ≤ room_1.cells ∧ ks ≤ room_1.slots) (ho : OK m ρ) (hm : ∀ k, -2147483648 ≤ m k ∧ m k < 2147483648) (hn : 0 ≤ n ∧ n < 80) (ht : m 1 ≤ 40 * n) (hu1 : n ≤ 4 → n ≤ m 2) (hu2 : 4 ≤ n → 4 ≤ m 2) (hy : -2147483648 ≤ y ∧ y < 2147483648) (h4 : 4 ≤ n) (K : ∀ m' ρ', OK m' ρ' → m' 1 ≤ 40 * (n + 1) → (n + 1 ≤ 4 → n + 1 ≤ m' 2) → (4 ≤ n + 1 → 4 ≤ m' 2) → XJ Γ kc ks (PE G e m' ρ') 637 [(0, .ref b), (1, .ref e), (2, vi n)] []) : XJ Γ kc ks (PE G e m ρ) 550 [(0, .ref b), (1, .ref e), (2, vi n), (4, vi y)] [] := by
  have hI := ho.I
  have hb := hI.b
  have c0 : cn m 0 = m 2 := rfl
  have c3 : cn m 3 = m 3 := rfl
  have c12 : cn m 12 = m 0 := rfl
  have w5 := lw_rg (v := y) (n := 5) (by omega)
  obtain ⟨ho', ⟨e1, e2⟩, g1⟩ := OK_setCleaning ho hm (t := lw y 5) (by omega)
  have hq := q_setCleaning (G := G) (e := e) hI (t := lw y 5) (by omega)
  have hI' := ho'.I
  generalize up m 0 (lw y 5) = m' at *
  generalize s_keep m ρ = ρ' at *
  refine x_aload_n B dL_law_550 rfl ?_
  refine x_bipush B dL_law_551 (by decide) ?_
  refine x_qd B mvL_9 (q_count (by first | assumption | omega) (by first | assumption | omega)) dL_law_553 rfl rfl (by decide) hf (Nat.le_of_ble_eq_true rfl) (fun q h => h.1) (fun r553 => ?_)
  refine x_istore B dL_law_556 (by decide) ?_
  refine x_aload_n B dL_law_558 rfl ?_
  refine x_iload B dL_law_559 rfl ?_
  refine x_iconst B dL_law_561 ?_
  refine x_low B msL_50 dL_law_562 (by first | assumption | omega) (by decide) hf (Nat.le_of_ble_eq_true rfl) (fun w562 => ?_)
  refine x_qd B mvL_99 (id hq) dL_law_565 rfl rfl (by decide) hf (Nat.le_of_ble_eq_true rfl) (fun q h => h.1) (fun r565 => ?_)
  refine x_iload B dL_law_568 rfl ?_
  refine x_icmp_ne (tgt := 588) B dL_law_570 (by decide) (by first | assumption | omega) (by first | assumption | omega) (fun c570 => ?_) (fun c570 => ?_)
  · exfalso; omega
  · refine x_aload_n B dL_law_573 rfl ?_
    refine x_bipush B dL_law_574 (by decide) ?_
    refine x_qd B mvL_9 (q_count (by first | assumption | omega) (by first | assumption | omega)) dL_law_576 rfl rfl (by decide) hf (Nat.le_of_ble_eq_true rfl) (fun q h => h.1) (fun r576 => ?_)
    refine x_iload B dL_law_579 rfl ?_
    refine x_iconst B dL_law_581 ?_
    refine x_low B msL_50 dL_law_582 (by first | assumption | omega) (by decide) hf (Nat.le_of_ble_eq_true rfl) (fun w582 => ?_)
    refine x_icmp_eq (tgt := 590) B dL_law_585 (by decide) (by first | assumption | omega) (by first | assumption | omega) (fun c585 => ?_) (fun c585 => ?_)
    · refine x_goto (tgt := 637) B dL_law_590 (by decide) ?_
      refine x_locs (L' := [(0, .ref b), (1, .ref e), (2, vi n)]) (xl_cons (rfl) (xl_cons (rfl) (xl_cons (rfl) xl_nil))) ?_
      exact K _ _ (by assumption) (by omega) (by omega) (by omega)
    · exfalso; omega
theorem law_t (B : XB Γ G cL_law RL 13 room_1 (fun q => e ≤ q)) (hf : kc ≤ room_1.cells ∧ ks ≤ room_1.slots) (ho : OK m ρ) (hm : ∀ k, -2147483648 ≤ m k ∧ m k < 2147483648) (hn : 0 ≤ n ∧ n < 80) (ht : m 1 ≤ 40 * n) (hu1 : n ≤ 4 → n ≤ m 2) (hu2 : 4 ≤ n → 4 ≤ m 2) (hy : -2147483648 ≤ y ∧ y < 2147483648) (h4 : 4 ≤ n) (h3 : 0 < m 3) (K : ∀ m' ρ', OK m' ρ' → m' 1 ≤ 40 * (n + 1) → (n + 1 ≤ 4 → n + 1 ≤ m' 2) → (4 ≤ n + 1 → 4 ≤ m' 2) → XJ Γ kc ks (PE G e m' ρ') 637 [(0, .ref b), (1, .ref e), (2, vi n)] []) : XJ Γ kc ks (PE G e m ρ) 598 [(0, .ref b), (1, .ref e), (2, vi n), (4, vi y)] [] := by
  have hI := ho.I
  have hb := hI.b
  have c0 : cn m 0 = m 2 := rfl
  have c3 : cn m 3 = m 3 := rfl
  refine x_aload_n B dL_law_598 rfl ?_
  refine x_iconst B dL_law_599 ?_
  refine x_iload B dL_law_600 rfl ?_
  refine x_bipush B dL_law_602 (by decide) ?_
  refine x_shrA B dL_law_604 (fun v604 q604 => ?_)
  refine x_cutI 623 (fun zz => zz = 40 ∨ zz = 3) (fun K623 => ?_) (fun z623 h623 => ?_)
  · refine x_iload B dL_law_605 rfl ?_
    refine x_bipush B dL_law_607 (by decide) ?_
    refine x_shrA B dL_law_609 (fun v609 q609 => ?_)
    refine x_iconst B dL_law_610 ?_
    refine x_low B msL_50 dL_law_611 (by first | assumption | omega) (by decide) hf (Nat.le_of_ble_eq_true rfl) (fun w611 => ?_)
    refine x_if_ne (tgt := 622) B dL_law_614 (by decide) (by first | assumption | omega) (fun c614 => ?_) (fun c614 => ?_)
    · refine x_iconst B dL_law_622 ?_
      exact K623 _ (by omega)
    · refine x_bipush B dL_law_617 (by decide) ?_
      refine x_goto (tgt := 623) B dL_law_619 (by decide) ?_
      exact K623 _ (by omega)
  · refine x_low B msL_50 dL_law_623 (by first | assumption | omega) (by decide) hf (Nat.le_of_ble_eq_true rfl) (fun w623 => ?_)
    refine x_iadd B dL_law_626 ?_
    refine x_iload B dL_law_627 rfl ?_
    refine x_lx B msL_130 (fun l => c_L_ticks ho (by omega) (by omega) h3 (by omega)) dL_law_629 rfl rfl (by decide) hf (Nat.le_of_ble_eq_true rfl) (fun q h => h.1) (fun m' ρ' ho' hx' => ?_)
    refine x_if_ne (tgt := 637) B dL_law_632 (by decide) (by omega) (fun _ => ?_) (fun c632 => by exfalso; revert c632; decide)
    refine x_locs (L' := [(0, .ref b), (1, .ref e), (2, vi n)]) (xl_cons (rfl) (xl_cons (rfl) (xl_cons (rfl) xl_nil))) ?_
    exact K _ _ (by assumption) (by omega) (by omega) (by omega)
theorem law_d (B : XB Γ G cL_law RL 13 room_1 (fun q => e ≤ q)) (hf : kc ≤ room_1.cells ∧ ks ≤ room_1.slots) (ho : OK m ρ) (hm : ∀ k, -2147483648 ≤ m k ∧ m k < 2147483648) (hn : 0 ≤ n ∧ n < 80) (ht : m 1 ≤ 40 * n) (hu1 : n ≤ 4 → n ≤ m 2) (hu2 : 4 ≤ n → 4 ≤ m 2) (hy : -2147483648 ≤ y ∧ y < 2147483648) {z : Int} (hz : (n < 4 ∧ z = 0) ∨ (4 ≤ n ∧ 0 ≤ z ∧ z < 18)) (K : ∀ m' ρ', OK m' ρ' → m' 1 ≤ 40 * (n + 1) → (n + 1 ≤ 4 → n + 1 ≤ m' 2) → (4 ≤ n + 1 → 4 ≤ m' 2) → XJ Γ kc ks (PE G e m' ρ') 637 [(0, .ref b), (1, .ref e), (2, vi n)] []) : XJ Γ kc ks (PE G e m ρ) 135 [(0, .ref b), (1, .ref e), (2, vi n), (4, vi y), (5, vi (m 2)), (6, vi (m 3)), (7, vi z)] [] := by
  have hI := ho.I
  have hb := hI.b
  have c0 : cn m 0 = m 2 := rfl
  have c3 : cn m 3 = m 3 := rfl
  refine x_iload B dL_law_135 rfl ?_
  refine x_if_ne (tgt := 234) B dL_law_137 (by decide) (by first | assumption | omega) (fun c137 => ?_) (fun c137 => ?_)
  · refine x_iload B dL_law_234 rfl ?_
    refine x_iconst B dL_law_236 ?_
    refine x_icmp_ne (tgt := 259) B dL_law_237 (by decide) (by first | assumption | omega) (by first | assumption | omega) (fun c237 => ?_) (fun c237 => ?_)
    · refine x_iload B dL_law_259 rfl ?_
      refine x_iconst B dL_law_261 ?_
      refine x_icmp_ne (tgt := 484) B dL_law_262 (by decide) (by first | assumption | omega) (by first | assumption | omega) (fun c262 => ?_) (fun c262 => ?_)
      · refine x_iload B dL_law_484 rfl ?_
        refine x_bipush B dL_law_486 (by decide) ?_
        refine x_icmp_ge (tgt := 516) B dL_law_488 (by decide) (by first | assumption | omega) (by first | assumption | omega) (fun c488 => ?_) (fun c488 => ?_)
        · refine x_iload B dL_law_516 rfl ?_
          refine x_bipush B dL_law_518 (by decide) ?_
          refine x_icmp_ne (tgt := 543) B dL_law_520 (by decide) (by first | assumption | omega) (by first | assumption | omega) (fun c520 => ?_) (fun c520 => ?_)
          · refine x_iload B dL_law_543 rfl ?_
            refine x_bipush B dL_law_545 (by decide) ?_
            refine x_icmp_ne (tgt := 593) B dL_law_547 (by decide) (by first | assumption | omega) (by first | assumption | omega) (fun c547 => ?_) (fun c547 => ?_)
            · refine x_iload B dL_law_593 rfl ?_
              refine x_if_le (tgt := 637) B dL_law_595 (by decide) (by first | assumption | omega) (fun c595 => ?_) (fun c595 => ?_)
              · refine x_locs (L' := [(0, .ref b), (1, .ref e), (2, vi n)]) (xl_cons (rfl) (xl_cons (rfl) (xl_cons (rfl) xl_nil))) ?_
                exact K _ _ (by assumption) (by omega) (by omega) (by omega)
              · refine x_locs (L' := [(0, .ref b), (1, .ref e), (2, vi n), (4, vi y)]) (xl_cons (rfl) (xl_cons (rfl) (xl_cons (rfl) (xl_cons (rfl) xl_nil)))) ?_
                exact law_t B hf ho hm hn ht hu1 hu2 hy (by omega) (by omega) K
            · refine x_locs (L' := [(0, .ref b), (1, .ref e), (2, vi n), (4, vi y)]) (xl_cons (rfl) (xl_cons (rfl) (xl_cons (rfl) (xl_cons (rfl) xl_nil)))) ?_
              exact law_s B hf ho hm hn ht hu1 hu2 hy (by omega) K
          · refine x_locs (L' := [(0, .ref b), (1, .ref e), (2, vi n), (4, vi y), (5, vi (m 2))]) (xl_cons (rfl) (xl_cons (rfl) (xl_cons (rfl) (xl_cons (rfl) (xl_cons (rfl) xl_nil))))) ?_
            exact law_n B hf ho hm hn ht hu1 hu2 hy (by omega) K
        · refine x_iload B dL_law_491 rfl ?_
          refine x_if_le (tgt := 516) B dL_law_493 (by decide) (by first | assumption | omega) (fun c493 => ?_) (fun c493 => ?_)
          · refine x_iload B dL_law_516 rfl ?_
            refine x_bipush B dL_law_518 (by decide) ?_
            refine x_icmp_ne (tgt := 543) B dL_law_520 (by decide) (by first | assumption | omega) (by first | assumption | omega) (fun c520 => ?_) (fun c520 => ?_)
            · refine x_iload B dL_law_543 rfl ?_
              refine x_bipush B dL_law_545 (by decide) ?_
              refine x_icmp_ne (tgt := 593) B dL_law_547 (by decide) (by first | assumption | omega) (by first | assumption | omega) (fun c547 => ?_) (fun c547 => ?_)
              · refine x_iload B dL_law_593 rfl ?_
                refine x_if_le (tgt := 637) B dL_law_595 (by decide) (by first | assumption | omega) (fun c595 => ?_) (fun c595 => ?_)
                · refine x_locs (L' := [(0, .ref b), (1, .ref e), (2, vi n)]) (xl_cons (rfl) (xl_cons (rfl) (xl_cons (rfl) xl_nil))) ?_
                  exact K _ _ (by assumption) (by omega) (by omega) (by omega)
                · refine x_locs (L' := [(0, .ref b), (1, .ref e), (2, vi n), (4, vi y)]) (xl_cons (rfl) (xl_cons (rfl) (xl_cons (rfl) (xl_cons (rfl) xl_nil)))) ?_
                  exact law_t B hf ho hm hn ht hu1 hu2 hy (by omega) (by omega) K
              · refine x_locs (L' := [(0, .ref b), (1, .ref e), (2, vi n), (4, vi y)]) (xl_cons (rfl) (xl_cons (rfl) (xl_cons (rfl) (xl_cons (rfl) xl_nil)))) ?_
                exact law_s B hf ho hm hn ht hu1 hu2 hy (by omega) K
            · refine x_locs (L' := [(0, .ref b), (1, .ref e), (2, vi n), (4, vi y), (5, vi (m 2))]) (xl_cons (rfl) (xl_cons (rfl) (xl_cons (rfl) (xl_cons (rfl) (xl_cons (rfl) xl_nil))))) ?_
              exact law_n B hf ho hm hn ht hu1 hu2 hy (by omega) K
          · refine x_locs (L' := [(0, .ref b), (1, .ref e), (2, vi n), (4, vi y), (6, vi (m 3))]) (xl_cons (rfl) (xl_cons (rfl) (xl_cons (rfl) (xl_cons (rfl) (xl_cons (rfl) xl_nil))))) ?_
            exact law_c B hf ho hm hn ht hu1 hu2 hy (by omega) (by omega) K
      · refine x_locs (L' := [(0, .ref b), (1, .ref e), (2, vi n), (4, vi y), (6, vi (m 3))]) (xl_cons (rfl) (xl_cons (rfl) (xl_cons (rfl) (xl_cons (rfl) (xl_cons (rfl) xl_nil))))) ?_
        exact law_b B hf ho hm hn ht hu1 hu2 hy (by omega) K
    · refine x_locs (L' := [(0, .ref b), (1, .ref e), (2, vi n), (4, vi y)]) (xl_cons (rfl) (xl_cons (rfl) (xl_cons (rfl) (xl_cons (rfl) xl_nil)))) ?_
      exact law_w B hf ho hm hn ht hu1 hu2 hy (by omega) K
  · refine x_locs (L' := [(0, .ref b), (1, .ref e), (2, vi n), (4, vi y), (5, vi (m 2))]) (xl_cons (rfl) (xl_cons (rfl) (xl_cons (rfl) (xl_cons (rfl) (xl_cons (rfl) xl_nil))))) ?_
    by_cases c : m 2 = 8
    · exact law_u8 B hf ho hm hn ht hu1 hu2 hy c K
    · exact law_uN B hf ho hm hn ht hu1 hu2 hy c K
theorem law_e (B : XB Γ G cL_law RL 13 room_1 (fun q => e ≤ q)) (hf : kc ≤ room_1.cells ∧ ks ≤ room_1.slots) (hn : 0 ≤ n ∧ n < 80) (ho : OK m ρ) (K : XJ Γ kc ks (PE G e m ρ) 59 [(0, .ref b), (1, .ref e), (2, vi (n + 1))] []) : XJ Γ kc ks (PE G e m ρ) 637 [(0, .ref b), (1, .ref e), (2, vi n)] [] := by
  refine x_aload_n B dL_law_637 rfl ?_
  refine x_lb B msL_110 (fun l => c_L_sound ho) dL_law_638 rfl rfl (by decide) hf (Nat.le_of_ble_eq_true rfl) (fun q h => h.1) ?_
  refine x_if_eq (tgt := 658) B dL_law_641 (by decide) (by omega) (fun c641 => by exfalso; revert c641; decide) (fun _ => ?_)
  refine x_iload_n B dL_law_644 rfl ?_
  refine x_iconst B dL_law_645 ?_
  refine x_irem B dL_law_646 (by first | assumption | omega) (by first | assumption | omega) ?_
  refine x_iconst B dL_law_647 ?_
  refine x_icmp_ne (tgt := 660) B dL_law_648 (by decide) (by first | assumption | omega) (by first | assumption | omega) (fun c648 => ?_) (fun c648 => ?_)
  · refine x_iinc B dL_law_660 rfl (by decide) ?_
    refine x_goto (tgt := 59) B dL_law_663 (by decide) ?_
    refine x_locs (L' := [(0, .ref b), (1, .ref e), (2, vi (n + 1))]) (xl_cons (rfl) (xl_cons (rfl) (xl_cons (rfl) xl_nil))) ?_
    exact K
  · refine x_aload_n B dL_law_651 rfl ?_
    refine x_lb B msL_113 (fun l => c_L_journal ho) dL_law_652 rfl rfl (by decide) hf (Nat.le_of_ble_eq_true rfl) (fun q h => h.1) ?_
    refine x_if_ne (tgt := 660) B dL_law_655 (by decide) (by omega) (fun _ => ?_) (fun c655 => by exfalso; revert c655; decide)
    refine x_iinc B dL_law_660 rfl (by decide) ?_
    refine x_goto (tgt := 59) B dL_law_663 (by decide) ?_
    refine x_locs (L' := [(0, .ref b), (1, .ref e), (2, vi (n + 1))]) (xl_cons (rfl) (xl_cons (rfl) (xl_cons (rfl) xl_nil))) ?_
    exact K
theorem law_l (B : XB Γ G cL_law RL 13 room_1 (fun q => e ≤ q)) (hf : kc ≤ room_1.cells ∧ ks ≤ room_1.slots) (S : XS Γ b N xs) (hN : N ≤ 260) (ret : ∀ (P : Heap → Prop) (L : List (Nat × Value)), XJ Γ kc ks P 670 L [vi 1]) : ∀ (f : Nat) (n : Int) (m : Int → Int) (ρ : Nat → Int → Int), 0 ≤ n → n ≤ 80 → 80 - n < f → OK m ρ → m 1 ≤ 40 * n → (n ≤ 4 → n ≤ m 2) → (4 ≤ n → 4 ≤ m 2) → XJ Γ kc ks (PE G e m ρ) 59 [(0, .ref b), (1, .ref e), (2, vi n)] [] := by
  intro f
  induction f with
  | zero => intro n m ρ _ _ _; omega
  | succ f ih =>
    intro n m ρ n0 n1 nf ho ht hu1 hu2
    refine x_fact (fun H h => PE.rg h) (fun hm => ?_)
    have hI := ho.I
    have hb := hI.b
    refine x_iload_n B dL_law_59 rfl ?_
    refine x_bipush B dL_law_60 (by decide) ?_
    refine x_icmp_ge (tgt := 666) B dL_law_62 (by decide) (by first | assumption | omega) (by first | assumption | omega) (fun c62 => ?_) (fun c62 => ?_)
    · refine x_aload_n B dL_law_666 rfl ?_
      refine x_lb B msL_106 (fun l => c_L_refuses ho) dL_law_667 rfl rfl (by decide) hf (Nat.le_of_ble_eq_true rfl) (fun q h => h.1) ?_
      exact ret _ _
    · refine x_aload_n B dL_law_65 rfl ?_
      refine x_iconst B dL_law_66 ?_
      refine x_iload_n B dL_law_67 rfl ?_
      refine x_imul B dL_law_68 ?_
      refine x_lot B S hN (by omega) msL_116 dL_law_69 (by decide) hf (Nat.le_of_ble_eq_true rfl) PE.mono (fun v69 q69 => ?_)
      refine x_istore_n B dL_law_72 (by decide) ?_
      refine x_aload_n B dL_law_73 rfl ?_
      refine x_iconst B dL_law_74 ?_
      refine x_iload_n B dL_law_75 rfl ?_
      refine x_imul B dL_law_76 ?_
      refine x_iconst B dL_law_77 ?_
      refine x_iadd B dL_law_78 ?_
      refine x_lot B S hN (by omega) msL_116 dL_law_79 (by decide) hf (Nat.le_of_ble_eq_true rfl) PE.mono (fun v79 q79 => ?_)
      refine x_istore B dL_law_82 (by decide) ?_
      refine x_aload_n B dL_law_84 rfl ?_
      refine x_iconst B dL_law_85 ?_
      refine x_qd B mvL_9 (q_count (by first | assumption | omega) (by first | assumption | omega)) dL_law_86 rfl rfl (by decide) hf (Nat.le_of_ble_eq_true rfl) (fun q h => h.1) (fun r86 => ?_)
      refine x_istore B dL_law_89 (by decide) ?_
      refine x_aload_n B dL_law_91 rfl ?_
      refine x_iconst B dL_law_92 ?_
      refine x_qd B mvL_9 (q_count (by first | assumption | omega) (by first | assumption | omega)) dL_law_93 rfl rfl (by decide) hf (Nat.le_of_ble_eq_true rfl) (fun q h => h.1) (fun r93 => ?_)
      refine x_istore B dL_law_96 (by decide) ?_
      refine x_cutI 133 (fun zz => (n < 4 ∧ zz = 0) ∨ (4 ≤ n ∧ 0 ≤ zz ∧ zz < 18)) (fun K133 => ?_) (fun z133 h133 => ?_)
      · refine x_iload_n B dL_law_98 rfl ?_
        refine x_iconst B dL_law_99 ?_
        refine x_icmp_ge (tgt := 107) B dL_law_100 (by decide) (by first | assumption | omega) (by first | assumption | omega) (fun c100 => ?_) (fun c100 => ?_)
        · refine x_iload_n B dL_law_107 rfl ?_
          refine x_bipush B dL_law_108 (by decide) ?_
          refine x_icmp_ge (tgt := 117) B dL_law_110 (by decide) (by first | assumption | omega) (by first | assumption | omega) (fun c110 => ?_) (fun c110 => ?_)
          · refine x_iload_n B dL_law_117 rfl ?_
            refine x_bipush B dL_law_118 (by decide) ?_
            refine x_icmp_ge (tgt := 127) B dL_law_120 (by decide) (by first | assumption | omega) (by first | assumption | omega) (fun c120 => ?_) (fun c120 => ?_)
            · refine x_iload_n B dL_law_127 rfl ?_
              refine x_bipush B dL_law_128 (by decide) ?_
              refine x_low B msL_50 dL_law_130 (by first | assumption | omega) (by decide) hf (Nat.le_of_ble_eq_true rfl) (fun w130 => ?_)
              exact K133 _ (by omega)
            · refine x_iconst B dL_law_123 ?_
              refine x_goto (tgt := 133) B dL_law_124 (by decide) ?_
              exact K133 _ (by omega)
          · refine x_iconst B dL_law_113 ?_
            refine x_goto (tgt := 133) B dL_law_114 (by decide) ?_
            exact K133 _ (by omega)
        · refine x_iconst B dL_law_103 ?_
          refine x_goto (tgt := 133) B dL_law_104 (by decide) ?_
          exact K133 _ (by omega)
      · refine x_istore B dL_law_133 (by decide) ?_
        refine x_locs (L' := [(0, .ref b), (1, .ref e), (2, vi n), (4, vi v79), (5, vi (m 2)), (6, vi (m 3)), (7, vi z133)]) (xl_cons (rfl) (xl_cons (rfl) (xl_cons (rfl) (xl_cons (rfl) (xl_cons (rfl) (xl_cons (rfl) (xl_cons (rfl) xl_nil))))))) ?_
        exact law_d B hf ho hm (by omega) ht hu1 hu2 q79 h133 (fun m' ρ' a1 a2 a3 a4 => law_e B hf (by omega) a1 (ih (n + 1) m' ρ' (by omega) (by omega) (by omega) a1 a2 a3 a4))
theorem law_body (B : XB Γ G cL_law RL 13 room_1 (fun q => e ≤ q)) (S : XS Γ b N xs) (hN : N ≤ 260) (ret : ∀ (P : Heap → Prop) (L : List (Nat × Value)), XJ Γ 198 4459 P 670 L [vi 1]) : XJ Γ 0 0 (fun H => H.size = e) 0 [(0, .ref b)] [] := by
  refine x_new (a := e) (N := 6) (P' := fun H => H.size = e + 1 ∧ oat G e 6 [.null, .null, .null, .null, .null, vi 0] H) B cnL_10 dL_law_0 df_6 (by decide) (fun H h => ⟨h, fun H1 e1 z1 _ => ⟨z1, e1⟩⟩) ?_
  refine x_dup B dL_law_3 rfl ?_
  refine x_callIg (As := []) (P' := fun H => PE G e (n0 3) (fun _ => z0) H) B miX6_init mlL_105 (fun l => c_X6_init) dL_law_4 rfl rfl ⟨rfl, rfl, by decide, by decide⟩ (by decide) (Nat.le_of_ble_eq_true rfl) (fun q h => h) (fun H h => h) (fun v' H H1 h hp _ _ => ⟨hp.1, hp.2.2⟩) ?_
  have ho : OK (n0 3) (fun _ => z0) := OK0
  have hf : 198 ≤ room_1.cells ∧ 4459 ≤ room_1.slots := by decide
  have ha : (t_all ((fun _ => z0 : Nat → Int → Int) 2) ((fun _ => z0 : Nat → Int → Int) 5 1)).1 = 3 ∧ (t_all ((fun _ => z0 : Nat → Int → Int) 2) ((fun _ => z0 : Nat → Int → Int) 5 1)).2.1 = 0 := by decide
  have hz0 : (fun _ => z0 : Nat → Int → Int) 5 0 = 0 := rfl
  have e1 : n0 3 1 = 0 := rfl
  have e2 : n0 3 2 = 0 := rfl
  generalize n0 3 = m at *
  generalize (fun _ => z0 : Nat → Int → Int) = ρ at *
  show XJ Γ 198 4459 (PE G e m ρ) 7 [(0, .ref b)] [.ref e]
  refine x_astore_n B dL_law_7 (by decide) ?_
  refine x_aload_n B dL_law_8 rfl ?_
  refine x_lb B msL_106 (fun l => c_L_refuses ho) dL_law_9 rfl rfl (by decide) hf (Nat.le_of_ble_eq_true rfl) (fun q h => h.1) ?_
  refine x_if_eq (tgt := 55) B dL_law_12 (by decide) (by omega) (fun c12 => by exfalso; revert c12; decide) (fun _ => ?_)
  refine x_aload_n B dL_law_15 rfl ?_
  refine x_qd B mvL_69 (q_undo0 ho hz0) dL_law_16 rfl rfl (by decide) hf (Nat.le_of_ble_eq_true rfl) (fun q h => h.1) (fun r16 => ?_)
  refine x_bipush B dL_law_19 (by decide) ?_
  refine x_icmp_ne (tgt := 55) B dL_law_21 (by decide) (by first | assumption | omega) (by first | assumption | omega) (fun c21 => ?_) (fun c21 => ?_)
  · exfalso; omega
  · refine x_aload_n B dL_law_24 rfl ?_
    refine x_lb B msL_110 (fun l => c_L_sound ho) dL_law_25 rfl rfl (by decide) hf (Nat.le_of_ble_eq_true rfl) (fun q h => h.1) ?_
    refine x_if_eq (tgt := 55) B dL_law_28 (by decide) (by omega) (fun c28 => by exfalso; revert c28; decide) (fun _ => ?_)
    refine x_aload_n B dL_law_31 rfl ?_
    refine x_lb B msL_113 (fun l => c_L_journal ho) dL_law_32 rfl rfl (by decide) hf (Nat.le_of_ble_eq_true rfl) (fun q h => h.1) ?_
    refine x_if_eq (tgt := 55) B dL_law_35 (by decide) (by omega) (fun c35 => by exfalso; revert c35; decide) (fun _ => ?_)
    refine x_aload_n B dL_law_38 rfl ?_
    refine x_iconst B dL_law_39 ?_
    refine x_qd B mvL_60 (q_fault00 ho.I ha) dL_law_40 rfl rfl (by decide) hf (Nat.le_of_ble_eq_true rfl) (fun q h => h.1) (fun r40 => ?_)
    refine x_if_ne (tgt := 55) B dL_law_43 (by decide) (by first | assumption | omega) (fun c43 => ?_) (fun c43 => ?_)
    · exfalso; omega
    · refine x_aload_n B dL_law_46 rfl ?_
      refine x_iconst B dL_law_47 ?_
      refine x_qd B mvL_60 (q_fault01 ho.I ha) dL_law_48 rfl rfl (by decide) hf (Nat.le_of_ble_eq_true rfl) (fun q h => h.1) (fun r48 => ?_)
      refine x_iconst B dL_law_51 ?_
      refine x_icmp_eq (tgt := 57) B dL_law_52 (by decide) (by first | assumption | omega) (by first | assumption | omega) (fun c52 => ?_) (fun c52 => ?_)
      · refine x_iconst B dL_law_57 ?_
        refine x_istore_n B dL_law_58 (by decide) ?_
        refine x_locs (L' := [(0, .ref b), (1, .ref e), (2, vi 0)]) (xl_cons (rfl) (xl_cons (rfl) (xl_cons (rfl) xl_nil))) ?_
        exact law_l B hf S hN ret 81 0 m ρ (by omega) (by omega) (by omega) ho (by omega) (by omega) (by omega)
      · exfalso; omega
end LAW
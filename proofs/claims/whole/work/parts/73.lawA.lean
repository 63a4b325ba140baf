/-! ===== the law: its 27 calls ===== -/
section LAW1
variable {Γ : xE} {G : xG} {kc ks b N : Nat} {xs : Nat → Int32} {e : Nat} {m : Int → Int} {ρ : Nat → Int → Int} {i : Int}
theorem law_unit (B : XB Γ G cL_law RL 4 room_1 (fun q => e ≤ q)) (S : XS Γ b N xs) (hI : IL m ρ) (hρ : ∀ j k, -2147483648 ≤ ρ j k ∧ ρ j k < 2147483648) (hi : 0 ≤ i ∧ i + 5 ≤ N) (hN : N ≤ 2560) (hf : kc ≤ room_1.cells ∧ ks ≤ room_1.slots)
    (K : ∀ m' ρ', IL m' ρ' → XJ Γ kc ks (LB G e m' ρ' m' ρ') 867 [(0, .ref b), (1, .ref e), (2, .ref (e + 198)), (3, vi i)] []) : XJ Γ kc ks (LA G e m ρ m ρ) 156 [(0, .ref b), (1, .ref e), (2, .ref (e + 198)), (3, vi i)] [] := by
  refine x_aload_n B dL_law_156 rfl ?_
  refine x_aload_n B dL_law_157 rfl ?_
  refine x_iload_n B dL_law_158 rfl ?_
  refine x_iconst B dL_law_159 ?_
  refine x_iadd B dL_law_160 ?_
  refine x_sld B S (by omega) hN dL_law_161 ?_
  refine x_aload_n B dL_law_162 rfl ?_
  refine x_iload_n B dL_law_163 rfl ?_
  refine x_iconst B dL_law_164 ?_
  refine x_iadd B dL_law_165 ?_
  refine x_sld B S (by omega) hN dL_law_166 ?_
  refine x_lE (As := [vi (xz xs (i + 1)), vi (xz xs (i + 2))]) B mvL_13 (fun l => c_X6_unit hI xz_rg xz_rg) dL_law_167 rfl rfl (by decide) hf (Nat.le_of_ble_eq_true rfl) (fun r167 => ?_)
  refine x_aload_n B dL_law_170 rfl ?_
  refine x_aload_n B dL_law_171 rfl ?_
  refine x_iload_n B dL_law_172 rfl ?_
  refine x_iconst B dL_law_173 ?_
  refine x_iadd B dL_law_174 ?_
  refine x_sld B S (by omega) hN dL_law_175 ?_
  refine x_aload_n B dL_law_176 rfl ?_
  refine x_iload_n B dL_law_177 rfl ?_
  refine x_iconst B dL_law_178 ?_
  refine x_iadd B dL_law_179 ?_
  refine x_sld B S (by omega) hN dL_law_180 ?_
  refine x_lM (As := [vi (xz xs (i + 1)), vi (xz xs (i + 2))]) B mvL_17 (fun l => c_X7_unit hI.1 hI.2.2.1 xz_rg xz_rg) (fun H h => PMx.of h) dL_law_181 rfl rfl (by decide) hf (Nat.le_of_ble_eq_true rfl) (fun r181 => ?_)
  exact x_icmp_eq (tgt := 867) B dL_law_184 (by decide) r167 r181 (fun _ => K _ _ (IL_unit hI)) (fun h => absurd rfl h)
theorem law_fail (B : XB Γ G cL_law RL 4 room_1 (fun q => e ≤ q)) (S : XS Γ b N xs) (hI : IL m ρ) (hρ : ∀ j k, -2147483648 ≤ ρ j k ∧ ρ j k < 2147483648) (hi : 0 ≤ i ∧ i + 5 ≤ N) (hN : N ≤ 2560) (hf : kc ≤ room_1.cells ∧ ks ≤ room_1.slots)
    (K : ∀ m' ρ', IL m' ρ' → XJ Γ kc ks (LB G e m' ρ' m' ρ') 867 [(0, .ref b), (1, .ref e), (2, .ref (e + 198)), (3, vi i)] []) : XJ Γ kc ks (LA G e m ρ m ρ) 189 [(0, .ref b), (1, .ref e), (2, .ref (e + 198)), (3, vi i)] [] := by
  refine x_aload_n B dL_law_189 rfl ?_
  refine x_aload_n B dL_law_190 rfl ?_
  refine x_iload_n B dL_law_191 rfl ?_
  refine x_iconst B dL_law_192 ?_
  refine x_iadd B dL_law_193 ?_
  refine x_sld B S (by omega) hN dL_law_194 ?_
  refine x_lE (As := [vi (xz xs (i + 1))]) B mvL_18 (fun l => c_X6_fail hI xz_rg) dL_law_195 rfl rfl (by decide) hf (Nat.le_of_ble_eq_true rfl) (fun r195 => ?_)
  refine x_aload_n B dL_law_198 rfl ?_
  refine x_aload_n B dL_law_199 rfl ?_
  refine x_iload_n B dL_law_200 rfl ?_
  refine x_iconst B dL_law_201 ?_
  refine x_iadd B dL_law_202 ?_
  refine x_sld B S (by omega) hN dL_law_203 ?_
  refine x_lM (As := [vi (xz xs (i + 1))]) B mvL_22 (fun l => c_X7_fail hI.1 hI.2.2.1 xz_rg) (fun H h => PMx.of h) dL_law_204 rfl rfl (by decide) hf (Nat.le_of_ble_eq_true rfl) (fun r204 => ?_)
  exact x_icmp_eq (tgt := 867) B dL_law_207 (by decide) r195 r204 (fun _ => K _ _ (IL_fail hI)) (fun h => absurd rfl h)
theorem law_repair (B : XB Γ G cL_law RL 4 room_1 (fun q => e ≤ q)) (S : XS Γ b N xs) (hI : IL m ρ) (hρ : ∀ j k, -2147483648 ≤ ρ j k ∧ ρ j k < 2147483648) (hi : 0 ≤ i ∧ i + 5 ≤ N) (hN : N ≤ 2560) (hf : kc ≤ room_1.cells ∧ ks ≤ room_1.slots)
    (K : ∀ m' ρ', IL m' ρ' → XJ Γ kc ks (LB G e m' ρ' m' ρ') 867 [(0, .ref b), (1, .ref e), (2, .ref (e + 198)), (3, vi i)] []) : XJ Γ kc ks (LA G e m ρ m ρ) 212 [(0, .ref b), (1, .ref e), (2, .ref (e + 198)), (3, vi i)] [] := by
  refine x_aload_n B dL_law_212 rfl ?_
  refine x_aload_n B dL_law_213 rfl ?_
  refine x_iload_n B dL_law_214 rfl ?_
  refine x_iconst B dL_law_215 ?_
  refine x_iadd B dL_law_216 ?_
  refine x_sld B S (by omega) hN dL_law_217 ?_
  refine x_lE (As := [vi (xz xs (i + 1))]) B mvL_23 (fun l => c_X6_repair hI xz_rg) dL_law_218 rfl rfl (by decide) hf (Nat.le_of_ble_eq_true rfl) (fun r218 => ?_)
  refine x_aload_n B dL_law_221 rfl ?_
  refine x_aload_n B dL_law_222 rfl ?_
  refine x_iload_n B dL_law_223 rfl ?_
  refine x_iconst B dL_law_224 ?_
  refine x_iadd B dL_law_225 ?_
  refine x_sld B S (by omega) hN dL_law_226 ?_
  refine x_lM (As := [vi (xz xs (i + 1))]) B mvL_26 (fun l => c_X7_repair hI.1 hI.2.2.1 xz_rg) (fun H h => PMx.of h) dL_law_227 rfl rfl (by decide) hf (Nat.le_of_ble_eq_true rfl) (fun r227 => ?_)
  exact x_icmp_eq (tgt := 867) B dL_law_230 (by decide) r218 r227 (fun _ => K _ _ (IL_repair hI)) (fun h => absurd rfl h)
theorem law_unitInfo (B : XB Γ G cL_law RL 4 room_1 (fun q => e ≤ q)) (S : XS Γ b N xs) (hI : IL m ρ) (hρ : ∀ j k, -2147483648 ≤ ρ j k ∧ ρ j k < 2147483648) (hi : 0 ≤ i ∧ i + 5 ≤ N) (hN : N ≤ 2560) (hf : kc ≤ room_1.cells ∧ ks ≤ room_1.slots)
    (K : ∀ m' ρ', IL m' ρ' → XJ Γ kc ks (LB G e m' ρ' m' ρ') 867 [(0, .ref b), (1, .ref e), (2, .ref (e + 198)), (3, vi i)] []) : XJ Γ kc ks (LA G e m ρ m ρ) 235 [(0, .ref b), (1, .ref e), (2, .ref (e + 198)), (3, vi i)] [] := by
  refine x_aload_n B dL_law_235 rfl ?_
  refine x_aload_n B dL_law_236 rfl ?_
  refine x_iload_n B dL_law_237 rfl ?_
  refine x_iconst B dL_law_238 ?_
  refine x_iadd B dL_law_239 ?_
  refine x_sld B S (by omega) hN dL_law_240 ?_
  refine x_aload_n B dL_law_241 rfl ?_
  refine x_iload_n B dL_law_242 rfl ?_
  refine x_iconst B dL_law_243 ?_
  refine x_iadd B dL_law_244 ?_
  refine x_sld B S (by omega) hN dL_law_245 ?_
  refine x_lE (As := [vi (xz xs (i + 1)), vi (xz xs (i + 2))]) B mvL_27 (fun l => c_X6_unitInfo hI xz_rg xz_rg) dL_law_246 rfl rfl (by decide) hf (Nat.le_of_ble_eq_true rfl) (fun r246 => ?_)
  refine x_aload_n B dL_law_249 rfl ?_
  refine x_aload_n B dL_law_250 rfl ?_
  refine x_iload_n B dL_law_251 rfl ?_
  refine x_iconst B dL_law_252 ?_
  refine x_iadd B dL_law_253 ?_
  refine x_sld B S (by omega) hN dL_law_254 ?_
  refine x_aload_n B dL_law_255 rfl ?_
  refine x_iload_n B dL_law_256 rfl ?_
  refine x_iconst B dL_law_257 ?_
  refine x_iadd B dL_law_258 ?_
  refine x_sld B S (by omega) hN dL_law_259 ?_
  refine x_lM (As := [vi (xz xs (i + 1)), vi (xz xs (i + 2))]) B mvL_30 (fun l => c_X7_unitInfo hI.1 hI.2.2.1 xz_rg xz_rg) (fun H h => PMx.of h) dL_law_260 rfl rfl (by decide) hf (Nat.le_of_ble_eq_true rfl) (fun r260 => ?_)
  exact x_icmp_eq (tgt := 867) B dL_law_263 (by decide) r246 r260 (fun _ => K _ _ (IL_unitInfo hI)) (fun h => absurd rfl h)
theorem law_shared (B : XB Γ G cL_law RL 4 room_1 (fun q => e ≤ q)) (S : XS Γ b N xs) (hI : IL m ρ) (hρ : ∀ j k, -2147483648 ≤ ρ j k ∧ ρ j k < 2147483648) (hi : 0 ≤ i ∧ i + 5 ≤ N) (hN : N ≤ 2560) (hf : kc ≤ room_1.cells ∧ ks ≤ room_1.slots)
    (K : ∀ m' ρ', IL m' ρ' → XJ Γ kc ks (LB G e m' ρ' m' ρ') 867 [(0, .ref b), (1, .ref e), (2, .ref (e + 198)), (3, vi i)] []) : XJ Γ kc ks (LA G e m ρ m ρ) 268 [(0, .ref b), (1, .ref e), (2, .ref (e + 198)), (3, vi i)] [] := by
  refine x_aload_n B dL_law_268 rfl ?_
  refine x_aload_n B dL_law_269 rfl ?_
  refine x_iload_n B dL_law_270 rfl ?_
  refine x_iconst B dL_law_271 ?_
  refine x_iadd B dL_law_272 ?_
  refine x_sld B S (by omega) hN dL_law_273 ?_
  refine x_lE (As := [vi (xz xs (i + 1))]) B mvL_31 (fun l => c_X6_shared hI xz_rg) dL_law_274 rfl rfl (by decide) hf (Nat.le_of_ble_eq_true rfl) (fun r274 => ?_)
  refine x_aload_n B dL_law_277 rfl ?_
  refine x_aload_n B dL_law_278 rfl ?_
  refine x_iload_n B dL_law_279 rfl ?_
  refine x_iconst B dL_law_280 ?_
  refine x_iadd B dL_law_281 ?_
  refine x_sld B S (by omega) hN dL_law_282 ?_
  refine x_lM (As := [vi (xz xs (i + 1))]) B mvL_34 (fun l => c_X7_shared xz_rg) (fun H h => PMx.of h) dL_law_283 rfl rfl (by decide) hf (Nat.le_of_ble_eq_true rfl) (fun r283 => ?_)
  exact x_icmp_eq (tgt := 867) B dL_law_286 (by decide) r274 r283 (fun _ => K _ _ (IL_shared hI)) (fun h => absurd rfl h)
theorem law_setCleaning (B : XB Γ G cL_law RL 4 room_1 (fun q => e ≤ q)) (S : XS Γ b N xs) (hI : IL m ρ) (hρ : ∀ j k, -2147483648 ≤ ρ j k ∧ ρ j k < 2147483648) (hi : 0 ≤ i ∧ i + 5 ≤ N) (hN : N ≤ 2560) (hf : kc ≤ room_1.cells ∧ ks ≤ room_1.slots)
    (K : ∀ m' ρ', IL m' ρ' → XJ Γ kc ks (LB G e m' ρ' m' ρ') 867 [(0, .ref b), (1, .ref e), (2, .ref (e + 198)), (3, vi i)] []) : XJ Γ kc ks (LA G e m ρ m ρ) 291 [(0, .ref b), (1, .ref e), (2, .ref (e + 198)), (3, vi i)] [] := by
  refine x_aload_n B dL_law_291 rfl ?_
  refine x_aload_n B dL_law_292 rfl ?_
  refine x_iload_n B dL_law_293 rfl ?_
  refine x_iconst B dL_law_294 ?_
  refine x_iadd B dL_law_295 ?_
  refine x_sld B S (by omega) hN dL_law_296 ?_
  refine x_lE (As := [vi (xz xs (i + 1))]) B mvL_35 (fun l => c_X6_setCleaning hI xz_rg) dL_law_297 rfl rfl (by decide) hf (Nat.le_of_ble_eq_true rfl) (fun r297 => ?_)
  refine x_aload_n B dL_law_300 rfl ?_
  refine x_aload_n B dL_law_301 rfl ?_
  refine x_iload_n B dL_law_302 rfl ?_
  refine x_iconst B dL_law_303 ?_
  refine x_iadd B dL_law_304 ?_
  refine x_sld B S (by omega) hN dL_law_305 ?_
  refine x_lM (As := [vi (xz xs (i + 1))]) B mvL_38 (fun l => c_X7_setCleaning hI.1 hI.2.2.1 xz_rg) (fun H h => PMx.of h) dL_law_306 rfl rfl (by decide) hf (Nat.le_of_ble_eq_true rfl) (fun r306 => ?_)
  exact x_icmp_eq (tgt := 867) B dL_law_309 (by decide) r297 r306 (fun _ => K _ _ (IL_setCleaning hI)) (fun h => absurd rfl h)
theorem law_recipe (B : XB Γ G cL_law RL 4 room_1 (fun q => e ≤ q)) (S : XS Γ b N xs) (hI : IL m ρ) (hρ : ∀ j k, -2147483648 ≤ ρ j k ∧ ρ j k < 2147483648) (hi : 0 ≤ i ∧ i + 5 ≤ N) (hN : N ≤ 2560) (hf : kc ≤ room_1.cells ∧ ks ≤ room_1.slots)
    (K : ∀ m' ρ', IL m' ρ' → XJ Γ kc ks (LB G e m' ρ' m' ρ') 867 [(0, .ref b), (1, .ref e), (2, .ref (e + 198)), (3, vi i)] []) : XJ Γ kc ks (LA G e m ρ m ρ) 314 [(0, .ref b), (1, .ref e), (2, .ref (e + 198)), (3, vi i)] [] := by
  refine x_aload_n B dL_law_314 rfl ?_
  refine x_aload_n B dL_law_315 rfl ?_
  refine x_iload_n B dL_law_316 rfl ?_
  refine x_iconst B dL_law_317 ?_
  refine x_iadd B dL_law_318 ?_
  refine x_sld B S (by omega) hN dL_law_319 ?_
  refine x_lE (As := [vi (xz xs (i + 1))]) B mvL_39 (fun l => c_X6_recipe hI xz_rg) dL_law_320 rfl rfl (by decide) hf (Nat.le_of_ble_eq_true rfl) (fun r320 => ?_)
  refine x_aload_n B dL_law_323 rfl ?_
  refine x_aload_n B dL_law_324 rfl ?_
  refine x_iload_n B dL_law_325 rfl ?_
  refine x_iconst B dL_law_326 ?_
  refine x_iadd B dL_law_327 ?_
  refine x_sld B S (by omega) hN dL_law_328 ?_
  refine x_lM (As := [vi (xz xs (i + 1))]) B mvL_42 (fun l => c_X7_recipe hI.1 hI.2.2.1 hI.2.2.2.1 xz_rg) (fun H h => h) dL_law_329 rfl rfl (by decide) hf (Nat.le_of_ble_eq_true rfl) (fun r329 => ?_)
  exact x_icmp_eq (tgt := 867) B dL_law_332 (by decide) r320 r329 (fun _ => K _ _ (IL_recipe hI)) (fun h => absurd rfl h)
theorem law_versions (B : XB Γ G cL_law RL 4 room_1 (fun q => e ≤ q)) (S : XS Γ b N xs) (hI : IL m ρ) (hρ : ∀ j k, -2147483648 ≤ ρ j k ∧ ρ j k < 2147483648) (hi : 0 ≤ i ∧ i + 5 ≤ N) (hN : N ≤ 2560) (hf : kc ≤ room_1.cells ∧ ks ≤ room_1.slots)
    (K : ∀ m' ρ', IL m' ρ' → XJ Γ kc ks (LB G e m' ρ' m' ρ') 867 [(0, .ref b), (1, .ref e), (2, .ref (e + 198)), (3, vi i)] []) : XJ Γ kc ks (LA G e m ρ m ρ) 337 [(0, .ref b), (1, .ref e), (2, .ref (e + 198)), (3, vi i)] [] := by
  refine x_aload_n B dL_law_337 rfl ?_
  refine x_aload_n B dL_law_338 rfl ?_
  refine x_iload_n B dL_law_339 rfl ?_
  refine x_iconst B dL_law_340 ?_
  refine x_iadd B dL_law_341 ?_
  refine x_sld B S (by omega) hN dL_law_342 ?_
  refine x_lE (As := [vi (xz xs (i + 1))]) B mvL_43 (fun l => c_X6_versions hI xz_rg) dL_law_343 rfl rfl (by decide) hf (Nat.le_of_ble_eq_true rfl) (fun r343 => ?_)
  refine x_aload_n B dL_law_346 rfl ?_
  refine x_aload_n B dL_law_347 rfl ?_
  refine x_iload_n B dL_law_348 rfl ?_
  refine x_iconst B dL_law_349 ?_
  refine x_iadd B dL_law_350 ?_
  refine x_sld B S (by omega) hN dL_law_351 ?_
  refine x_lM (As := [vi (xz xs (i + 1))]) B mvL_46 (fun l => c_X7_versions xz_rg) (fun H h => PMx.of h) dL_law_352 rfl rfl (by decide) hf (Nat.le_of_ble_eq_true rfl) (fun r352 => ?_)
  exact x_icmp_eq (tgt := 867) B dL_law_355 (by decide) r343 r352 (fun _ => K _ _ (IL_versions hI)) (fun h => absurd rfl h)
theorem law_phase (B : XB Γ G cL_law RL 4 room_1 (fun q => e ≤ q)) (S : XS Γ b N xs) (hI : IL m ρ) (hρ : ∀ j k, -2147483648 ≤ ρ j k ∧ ρ j k < 2147483648) (hi : 0 ≤ i ∧ i + 5 ≤ N) (hN : N ≤ 2560) (hf : kc ≤ room_1.cells ∧ ks ≤ room_1.slots)
    (K : ∀ m' ρ', IL m' ρ' → XJ Γ kc ks (LB G e m' ρ' m' ρ') 867 [(0, .ref b), (1, .ref e), (2, .ref (e + 198)), (3, vi i)] []) : XJ Γ kc ks (LA G e m ρ m ρ) 360 [(0, .ref b), (1, .ref e), (2, .ref (e + 198)), (3, vi i)] [] := by
  refine x_aload_n B dL_law_360 rfl ?_
  refine x_aload_n B dL_law_361 rfl ?_
  refine x_iload_n B dL_law_362 rfl ?_
  refine x_iconst B dL_law_363 ?_
  refine x_iadd B dL_law_364 ?_
  refine x_sld B S (by omega) hN dL_law_365 ?_
  refine x_aload_n B dL_law_366 rfl ?_
  refine x_iload_n B dL_law_367 rfl ?_
  refine x_iconst B dL_law_368 ?_
  refine x_iadd B dL_law_369 ?_
  refine x_sld B S (by omega) hN dL_law_370 ?_
  refine x_aload_n B dL_law_371 rfl ?_
  refine x_iload_n B dL_law_372 rfl ?_
  refine x_iconst B dL_law_373 ?_
  refine x_iadd B dL_law_374 ?_
  refine x_sld B S (by omega) hN dL_law_375 ?_
  refine x_aload_n B dL_law_376 rfl ?_
  refine x_iload_n B dL_law_377 rfl ?_
  refine x_iconst B dL_law_378 ?_
  refine x_iadd B dL_law_379 ?_
  refine x_sld B S (by omega) hN dL_law_380 ?_
  refine x_lE (As := [vi (xz xs (i + 1)), vi (xz xs (i + 2)), vi (xz xs (i + 3)), vi (xz xs (i + 4))]) B mvL_47 (fun l => c_X6_phase hI xz_rg xz_rg xz_rg xz_rg) dL_law_381 rfl rfl (by decide) hf (Nat.le_of_ble_eq_true rfl) (fun r381 => ?_)
  refine x_aload_n B dL_law_384 rfl ?_
  refine x_aload_n B dL_law_385 rfl ?_
  refine x_iload_n B dL_law_386 rfl ?_
  refine x_iconst B dL_law_387 ?_
  refine x_iadd B dL_law_388 ?_
  refine x_sld B S (by omega) hN dL_law_389 ?_
  refine x_aload_n B dL_law_390 rfl ?_
  refine x_iload_n B dL_law_391 rfl ?_
  refine x_iconst B dL_law_392 ?_
  refine x_iadd B dL_law_393 ?_
  refine x_sld B S (by omega) hN dL_law_394 ?_
  refine x_aload_n B dL_law_395 rfl ?_
  refine x_iload_n B dL_law_396 rfl ?_
  refine x_iconst B dL_law_397 ?_
  refine x_iadd B dL_law_398 ?_
  refine x_sld B S (by omega) hN dL_law_399 ?_
  refine x_aload_n B dL_law_400 rfl ?_
  refine x_iload_n B dL_law_401 rfl ?_
  refine x_iconst B dL_law_402 ?_
  refine x_iadd B dL_law_403 ?_
  refine x_sld B S (by omega) hN dL_law_404 ?_
  refine x_lM (As := [vi (xz xs (i + 1)), vi (xz xs (i + 2)), vi (xz xs (i + 3)), vi (xz xs (i + 4))]) B mvL_51 (fun l => c_X7_phase hI.1 xz_rg xz_rg xz_rg xz_rg) (fun H h => PMx.of h) dL_law_405 rfl rfl (by decide) hf (Nat.le_of_ble_eq_true rfl) (fun r405 => ?_)
  exact x_icmp_eq (tgt := 867) B dL_law_408 (by decide) r381 r405 (fun _ => K _ _ (IL_phase hI)) (fun h => absurd rfl h)
theorem law_batch (B : XB Γ G cL_law RL 4 room_1 (fun q => e ≤ q)) (S : XS Γ b N xs) (hI : IL m ρ) (hρ : ∀ j k, -2147483648 ≤ ρ j k ∧ ρ j k < 2147483648) (hi : 0 ≤ i ∧ i + 5 ≤ N) (hN : N ≤ 2560) (hf : kc ≤ room_1.cells ∧ ks ≤ room_1.slots)
    (K : ∀ m' ρ', IL m' ρ' → XJ Γ kc ks (LB G e m' ρ' m' ρ') 867 [(0, .ref b), (1, .ref e), (2, .ref (e + 198)), (3, vi i)] []) : XJ Γ kc ks (LA G e m ρ m ρ) 413 [(0, .ref b), (1, .ref e), (2, .ref (e + 198)), (3, vi i)] [] := by
  refine x_aload_n B dL_law_413 rfl ?_
  refine x_aload_n B dL_law_414 rfl ?_
  refine x_iload_n B dL_law_415 rfl ?_
  refine x_iconst B dL_law_416 ?_
  refine x_iadd B dL_law_417 ?_
  refine x_sld B S (by omega) hN dL_law_418 ?_
  refine x_aload_n B dL_law_419 rfl ?_
  refine x_iload_n B dL_law_420 rfl ?_
  refine x_iconst B dL_law_421 ?_
  refine x_iadd B dL_law_422 ?_
  refine x_sld B S (by omega) hN dL_law_423 ?_
  refine x_aload_n B dL_law_424 rfl ?_
  refine x_iload_n B dL_law_425 rfl ?_
  refine x_iconst B dL_law_426 ?_
  refine x_iadd B dL_law_427 ?_
  refine x_sld B S (by omega) hN dL_law_428 ?_
  refine x_aload_n B dL_law_429 rfl ?_
  refine x_iload_n B dL_law_430 rfl ?_
  refine x_iconst B dL_law_431 ?_
  refine x_iadd B dL_law_432 ?_
  refine x_sld B S (by omega) hN dL_law_433 ?_
  refine x_lE (As := [vi (xz xs (i + 1)), vi (xz xs (i + 2)), vi (xz xs (i + 3)), vi (xz xs (i + 4))]) B mvL_52 (fun l => c_X6_batch hI xz_rg xz_rg xz_rg xz_rg) dL_law_434 rfl rfl (by decide) hf (Nat.le_of_ble_eq_true rfl) (fun r434 => ?_)
  refine x_aload_n B dL_law_437 rfl ?_
  refine x_aload_n B dL_law_438 rfl ?_
  refine x_iload_n B dL_law_439 rfl ?_
  refine x_iconst B dL_law_440 ?_
  refine x_iadd B dL_law_441 ?_
  refine x_sld B S (by omega) hN dL_law_442 ?_
  refine x_aload_n B dL_law_443 rfl ?_
  refine x_iload_n B dL_law_444 rfl ?_
  refine x_iconst B dL_law_445 ?_
  refine x_iadd B dL_law_446 ?_
  refine x_sld B S (by omega) hN dL_law_447 ?_
  refine x_aload_n B dL_law_448 rfl ?_
  refine x_iload_n B dL_law_449 rfl ?_
  refine x_iconst B dL_law_450 ?_
  refine x_iadd B dL_law_451 ?_
  refine x_sld B S (by omega) hN dL_law_452 ?_
  refine x_aload_n B dL_law_453 rfl ?_
  refine x_iload_n B dL_law_454 rfl ?_
  refine x_iconst B dL_law_455 ?_
  refine x_iadd B dL_law_456 ?_
  refine x_sld B S (by omega) hN dL_law_457 ?_
  refine x_lM (As := [vi (xz xs (i + 1)), vi (xz xs (i + 2)), vi (xz xs (i + 3)), vi (xz xs (i + 4))]) B mvL_55 (fun l => c_X7_batch hI.1 hI.2.2.1 xz_rg xz_rg xz_rg xz_rg) (fun H h => PMx.of h) dL_law_458 rfl rfl (by decide) hf (Nat.le_of_ble_eq_true rfl) (fun r458 => ?_)
  exact x_icmp_eq (tgt := 867) B dL_law_461 (by decide) r434 r458 (fun _ => K _ _ (IL_batch hI)) (fun h => absurd rfl h)
theorem law_start (B : XB Γ G cL_law RL 4 room_1 (fun q => e ≤ q)) (S : XS Γ b N xs) (hI : IL m ρ) (hρ : ∀ j k, -2147483648 ≤ ρ j k ∧ ρ j k < 2147483648) (hi : 0 ≤ i ∧ i + 5 ≤ N) (hN : N ≤ 2560) (hf : kc ≤ room_1.cells ∧ ks ≤ room_1.slots)
    (K : ∀ m' ρ', IL m' ρ' → XJ Γ kc ks (LB G e m' ρ' m' ρ') 867 [(0, .ref b), (1, .ref e), (2, .ref (e + 198)), (3, vi i)] []) : XJ Γ kc ks (LA G e m ρ m ρ) 466 [(0, .ref b), (1, .ref e), (2, .ref (e + 198)), (3, vi i)] [] := by
  refine x_aload_n B dL_law_466 rfl ?_
  refine x_aload_n B dL_law_467 rfl ?_
  refine x_iload_n B dL_law_468 rfl ?_
  refine x_iconst B dL_law_469 ?_
  refine x_iadd B dL_law_470 ?_
  refine x_sld B S (by omega) hN dL_law_471 ?_
  refine x_lE (As := [vi (xz xs (i + 1))]) B mvL_56 (fun l => c_X6_start hI xz_rg) dL_law_472 rfl rfl (by decide) hf (Nat.le_of_ble_eq_true rfl) (fun r472 => ?_)
  refine x_aload_n B dL_law_475 rfl ?_
  refine x_aload_n B dL_law_476 rfl ?_
  refine x_iload_n B dL_law_477 rfl ?_
  refine x_iconst B dL_law_478 ?_
  refine x_iadd B dL_law_479 ?_
  refine x_sld B S (by omega) hN dL_law_480 ?_
  refine x_lM (As := [vi (xz xs (i + 1))]) B mvL_59 (fun l => c_X7_start hI.1 hI.2.2.1 xz_rg) (fun H h => PMx.of h) dL_law_481 rfl rfl (by decide) hf (Nat.le_of_ble_eq_true rfl) (fun r481 => ?_)
  exact x_icmp_eq (tgt := 867) B dL_law_484 (by decide) r472 r481 (fun _ => K _ _ (IL_start hI)) (fun h => absurd rfl h)
theorem law_hold (B : XB Γ G cL_law RL 4 room_1 (fun q => e ≤ q)) (S : XS Γ b N xs) (hI : IL m ρ) (hρ : ∀ j k, -2147483648 ≤ ρ j k ∧ ρ j k < 2147483648) (hi : 0 ≤ i ∧ i + 5 ≤ N) (hN : N ≤ 2560) (hf : kc ≤ room_1.cells ∧ ks ≤ room_1.slots)
    (K : ∀ m' ρ', IL m' ρ' → XJ Γ kc ks (LB G e m' ρ' m' ρ') 867 [(0, .ref b), (1, .ref e), (2, .ref (e + 198)), (3, vi i)] []) : XJ Γ kc ks (LA G e m ρ m ρ) 489 [(0, .ref b), (1, .ref e), (2, .ref (e + 198)), (3, vi i)] [] := by
  refine x_aload_n B dL_law_489 rfl ?_
  refine x_aload_n B dL_law_490 rfl ?_
  refine x_iload_n B dL_law_491 rfl ?_
  refine x_iconst B dL_law_492 ?_
  refine x_iadd B dL_law_493 ?_
  refine x_sld B S (by omega) hN dL_law_494 ?_
  refine x_lE (As := [vi (xz xs (i + 1))]) B mvL_60 (fun l => c_X6_hold hI xz_rg) dL_law_495 rfl rfl (by decide) hf (Nat.le_of_ble_eq_true rfl) (fun r495 => ?_)
  refine x_aload_n B dL_law_498 rfl ?_
  refine x_aload_n B dL_law_499 rfl ?_
  refine x_iload_n B dL_law_500 rfl ?_
  refine x_iconst B dL_law_501 ?_
  refine x_iadd B dL_law_502 ?_
  refine x_sld B S (by omega) hN dL_law_503 ?_
  refine x_lM (As := [vi (xz xs (i + 1))]) B mvL_63 (fun l => c_X7_hold hI.1 hI.2.2.1 xz_rg) (fun H h => PMx.of h) dL_law_504 rfl rfl (by decide) hf (Nat.le_of_ble_eq_true rfl) (fun r504 => ?_)
  exact x_icmp_eq (tgt := 867) B dL_law_507 (by decide) r495 r504 (fun _ => K _ _ (IL_hold hI)) (fun h => absurd rfl h)
theorem law_restart (B : XB Γ G cL_law RL 4 room_1 (fun q => e ≤ q)) (S : XS Γ b N xs) (hI : IL m ρ) (hρ : ∀ j k, -2147483648 ≤ ρ j k ∧ ρ j k < 2147483648) (hi : 0 ≤ i ∧ i + 5 ≤ N) (hN : N ≤ 2560) (hf : kc ≤ room_1.cells ∧ ks ≤ room_1.slots)
    (K : ∀ m' ρ', IL m' ρ' → XJ Γ kc ks (LB G e m' ρ' m' ρ') 867 [(0, .ref b), (1, .ref e), (2, .ref (e + 198)), (3, vi i)] []) : XJ Γ kc ks (LA G e m ρ m ρ) 512 [(0, .ref b), (1, .ref e), (2, .ref (e + 198)), (3, vi i)] [] := by
  refine x_aload_n B dL_law_512 rfl ?_
  refine x_aload_n B dL_law_513 rfl ?_
  refine x_iload_n B dL_law_514 rfl ?_
  refine x_iconst B dL_law_515 ?_
  refine x_iadd B dL_law_516 ?_
  refine x_sld B S (by omega) hN dL_law_517 ?_
  refine x_lE (As := [vi (xz xs (i + 1))]) B mvL_64 (fun l => c_X6_restart hI xz_rg) dL_law_518 rfl rfl (by decide) hf (Nat.le_of_ble_eq_true rfl) (fun r518 => ?_)
  refine x_aload_n B dL_law_521 rfl ?_
  refine x_aload_n B dL_law_522 rfl ?_
  refine x_iload_n B dL_law_523 rfl ?_
  refine x_iconst B dL_law_524 ?_
  refine x_iadd B dL_law_525 ?_
  refine x_sld B S (by omega) hN dL_law_526 ?_
  refine x_lM (As := [vi (xz xs (i + 1))]) B mvL_67 (fun l => c_X7_restart hI.1 hI.2.2.1 xz_rg) (fun H h => PMx.of h) dL_law_527 rfl rfl (by decide) hf (Nat.le_of_ble_eq_true rfl) (fun r527 => ?_)
  exact x_icmp_eq (tgt := 867) B dL_law_530 (by decide) r518 r527 (fun _ => K _ _ (IL_restart hI)) (fun h => absurd rfl h)
theorem law_stop (B : XB Γ G cL_law RL 4 room_1 (fun q => e ≤ q)) (S : XS Γ b N xs) (hI : IL m ρ) (hρ : ∀ j k, -2147483648 ≤ ρ j k ∧ ρ j k < 2147483648) (hi : 0 ≤ i ∧ i + 5 ≤ N) (hN : N ≤ 2560) (hf : kc ≤ room_1.cells ∧ ks ≤ room_1.slots)
    (K : ∀ m' ρ', IL m' ρ' → XJ Γ kc ks (LB G e m' ρ' m' ρ') 867 [(0, .ref b), (1, .ref e), (2, .ref (e + 198)), (3, vi i)] []) : XJ Γ kc ks (LA G e m ρ m ρ) 535 [(0, .ref b), (1, .ref e), (2, .ref (e + 198)), (3, vi i)] [] := by
  refine x_aload_n B dL_law_535 rfl ?_
  refine x_aload_n B dL_law_536 rfl ?_
  refine x_iload_n B dL_law_537 rfl ?_
  refine x_iconst B dL_law_538 ?_
  refine x_iadd B dL_law_539 ?_
  refine x_sld B S (by omega) hN dL_law_540 ?_
  refine x_lE (As := [vi (xz xs (i + 1))]) B mvL_68 (fun l => c_X6_stop hI xz_rg) dL_law_541 rfl rfl (by decide) hf (Nat.le_of_ble_eq_true rfl) (fun r541 => ?_)
  refine x_aload_n B dL_law_544 rfl ?_
  refine x_aload_n B dL_law_545 rfl ?_
  refine x_iload_n B dL_law_546 rfl ?_
  refine x_iconst B dL_law_547 ?_
  refine x_iadd B dL_law_548 ?_
  refine x_sld B S (by omega) hN dL_law_549 ?_
  refine x_lM (As := [vi (xz xs (i + 1))]) B mvL_71 (fun l => c_X7_stop hI.1 hI.2.2.1 xz_rg) (fun H h => PMx.of h) dL_law_550 rfl rfl (by decide) hf (Nat.le_of_ble_eq_true rfl) (fun r550 => ?_)
  exact x_icmp_eq (tgt := 867) B dL_law_553 (by decide) r541 r550 (fun _ => K _ _ (IL_stop hI)) (fun h => absurd rfl h)
theorem law_abort (B : XB Γ G cL_law RL 4 room_1 (fun q => e ≤ q)) (S : XS Γ b N xs) (hI : IL m ρ) (hρ : ∀ j k, -2147483648 ≤ ρ j k ∧ ρ j k < 2147483648) (hi : 0 ≤ i ∧ i + 5 ≤ N) (hN : N ≤ 2560) (hf : kc ≤ room_1.cells ∧ ks ≤ room_1.slots)
    (K : ∀ m' ρ', IL m' ρ' → XJ Γ kc ks (LB G e m' ρ' m' ρ') 867 [(0, .ref b), (1, .ref e), (2, .ref (e + 198)), (3, vi i)] []) : XJ Γ kc ks (LA G e m ρ m ρ) 558 [(0, .ref b), (1, .ref e), (2, .ref (e + 198)), (3, vi i)] [] := by
  refine x_aload_n B dL_law_558 rfl ?_
  refine x_aload_n B dL_law_559 rfl ?_
  refine x_iload_n B dL_law_560 rfl ?_
  refine x_iconst B dL_law_561 ?_
  refine x_iadd B dL_law_562 ?_
  refine x_sld B S (by omega) hN dL_law_563 ?_
  refine x_lE (As := [vi (xz xs (i + 1))]) B mvL_72 (fun l => c_X6_abort hI xz_rg) dL_law_564 rfl rfl (by decide) hf (Nat.le_of_ble_eq_true rfl) (fun r564 => ?_)
  refine x_aload_n B dL_law_567 rfl ?_
  refine x_aload_n B dL_law_568 rfl ?_
  refine x_iload_n B dL_law_569 rfl ?_
  refine x_iconst B dL_law_570 ?_
  refine x_iadd B dL_law_571 ?_
  refine x_sld B S (by omega) hN dL_law_572 ?_
  refine x_lM (As := [vi (xz xs (i + 1))]) B mvL_75 (fun l => c_X7_abort hI.1 hI.2.2.1 xz_rg) (fun H h => PMx.of h) dL_law_573 rfl rfl (by decide) hf (Nat.le_of_ble_eq_true rfl) (fun r573 => ?_)
  exact x_icmp_eq (tgt := 867) B dL_law_576 (by decide) r564 r573 (fun _ => K _ _ (IL_abort hI)) (fun h => absurd rfl h)
theorem law_priority (B : XB Γ G cL_law RL 4 room_1 (fun q => e ≤ q)) (S : XS Γ b N xs) (hI : IL m ρ) (hρ : ∀ j k, -2147483648 ≤ ρ j k ∧ ρ j k < 2147483648) (hi : 0 ≤ i ∧ i + 5 ≤ N) (hN : N ≤ 2560) (hf : kc ≤ room_1.cells ∧ ks ≤ room_1.slots)
    (K : ∀ m' ρ', IL m' ρ' → XJ Γ kc ks (LB G e m' ρ' m' ρ') 867 [(0, .ref b), (1, .ref e), (2, .ref (e + 198)), (3, vi i)] []) : XJ Γ kc ks (LA G e m ρ m ρ) 581 [(0, .ref b), (1, .ref e), (2, .ref (e + 198)), (3, vi i)] [] := by
  refine x_aload_n B dL_law_581 rfl ?_
  refine x_aload_n B dL_law_582 rfl ?_
  refine x_iload_n B dL_law_583 rfl ?_
  refine x_iconst B dL_law_584 ?_
  refine x_iadd B dL_law_585 ?_
  refine x_sld B S (by omega) hN dL_law_586 ?_
  refine x_aload_n B dL_law_587 rfl ?_
  refine x_iload_n B dL_law_588 rfl ?_
  refine x_iconst B dL_law_589 ?_
  refine x_iadd B dL_law_590 ?_
  refine x_sld B S (by omega) hN dL_law_591 ?_
  refine x_lE (As := [vi (xz xs (i + 1)), vi (xz xs (i + 2))]) B mvL_76 (fun l => c_X6_priority hI xz_rg xz_rg) dL_law_592 rfl rfl (by decide) hf (Nat.le_of_ble_eq_true rfl) (fun r592 => ?_)
  refine x_aload_n B dL_law_595 rfl ?_
  refine x_aload_n B dL_law_596 rfl ?_
  refine x_iload_n B dL_law_597 rfl ?_
  refine x_iconst B dL_law_598 ?_
  refine x_iadd B dL_law_599 ?_
  refine x_sld B S (by omega) hN dL_law_600 ?_
  refine x_aload_n B dL_law_601 rfl ?_
  refine x_iload_n B dL_law_602 rfl ?_
  refine x_iconst B dL_law_603 ?_
  refine x_iadd B dL_law_604 ?_
  refine x_sld B S (by omega) hN dL_law_605 ?_
  refine x_lM (As := [vi (xz xs (i + 1)), vi (xz xs (i + 2))]) B mvL_79 (fun l => c_X7_priority hI.1 hI.2.2.1 xz_rg xz_rg) (fun H h => PMx.of h) dL_law_606 rfl rfl (by decide) hf (Nat.le_of_ble_eq_true rfl) (fun r606 => ?_)
  exact x_icmp_eq (tgt := 867) B dL_law_609 (by decide) r592 r606 (fun _ => K _ _ (IL_priority hI)) (fun h => absurd rfl h)
theorem law_batchInfo (B : XB Γ G cL_law RL 4 room_1 (fun q => e ≤ q)) (S : XS Γ b N xs) (hI : IL m ρ) (hρ : ∀ j k, -2147483648 ≤ ρ j k ∧ ρ j k < 2147483648) (hi : 0 ≤ i ∧ i + 5 ≤ N) (hN : N ≤ 2560) (hf : kc ≤ room_1.cells ∧ ks ≤ room_1.slots)
    (K : ∀ m' ρ', IL m' ρ' → XJ Γ kc ks (LB G e m' ρ' m' ρ') 867 [(0, .ref b), (1, .ref e), (2, .ref (e + 198)), (3, vi i)] []) : XJ Γ kc ks (LA G e m ρ m ρ) 614 [(0, .ref b), (1, .ref e), (2, .ref (e + 198)), (3, vi i)] [] := by
  refine x_aload_n B dL_law_614 rfl ?_
  refine x_aload_n B dL_law_615 rfl ?_
  refine x_iload_n B dL_law_616 rfl ?_
  refine x_iconst B dL_law_617 ?_
  refine x_iadd B dL_law_618 ?_
  refine x_sld B S (by omega) hN dL_law_619 ?_
  refine x_aload_n B dL_law_620 rfl ?_
  refine x_iload_n B dL_law_621 rfl ?_
  refine x_iconst B dL_law_622 ?_
  refine x_iadd B dL_law_623 ?_
  refine x_sld B S (by omega) hN dL_law_624 ?_
  refine x_lE (As := [vi (xz xs (i + 1)), vi (xz xs (i + 2))]) B mvL_80 (fun l => c_X6_batchInfo hI xz_rg xz_rg) dL_law_625 rfl rfl (by decide) hf (Nat.le_of_ble_eq_true rfl) (fun r625 => ?_)
  refine x_aload_n B dL_law_628 rfl ?_
  refine x_aload_n B dL_law_629 rfl ?_
  refine x_iload_n B dL_law_630 rfl ?_
  refine x_iconst B dL_law_631 ?_
  refine x_iadd B dL_law_632 ?_
  refine x_sld B S (by omega) hN dL_law_633 ?_
  refine x_aload_n B dL_law_634 rfl ?_
  refine x_iload_n B dL_law_635 rfl ?_
  refine x_iconst B dL_law_636 ?_
  refine x_iadd B dL_law_637 ?_
  refine x_sld B S (by omega) hN dL_law_638 ?_
  refine x_lM (As := [vi (xz xs (i + 1)), vi (xz xs (i + 2))]) B mvL_83 (fun l => c_X7_batchInfo hI.1 xz_rg xz_rg) (fun H h => PMx.of h) dL_law_639 rfl rfl (by decide) hf (Nat.le_of_ble_eq_true rfl) (fun r639 => ?_)
  exact x_icmp_eq (tgt := 867) B dL_law_642 (by decide) r625 r639 (fun _ => K _ _ (IL_batchInfo hI)) (fun h => absurd rfl h)
theorem law_waits (B : XB Γ G cL_law RL 4 room_1 (fun q => e ≤ q)) (S : XS Γ b N xs) (hI : IL m ρ) (hρ : ∀ j k, -2147483648 ≤ ρ j k ∧ ρ j k < 2147483648) (hi : 0 ≤ i ∧ i + 5 ≤ N) (hN : N ≤ 2560) (hf : kc ≤ room_1.cells ∧ ks ≤ room_1.slots)
    (K : ∀ m' ρ', IL m' ρ' → XJ Γ kc ks (LB G e m' ρ' m' ρ') 867 [(0, .ref b), (1, .ref e), (2, .ref (e + 198)), (3, vi i)] []) : XJ Γ kc ks (LA G e m ρ m ρ) 647 [(0, .ref b), (1, .ref e), (2, .ref (e + 198)), (3, vi i)] [] := by
  refine x_aload_n B dL_law_647 rfl ?_
  refine x_aload_n B dL_law_648 rfl ?_
  refine x_iload_n B dL_law_649 rfl ?_
  refine x_iconst B dL_law_650 ?_
  refine x_iadd B dL_law_651 ?_
  refine x_sld B S (by omega) hN dL_law_652 ?_
  refine x_lE (As := [vi (xz xs (i + 1))]) B mvL_84 (fun l => c_X6_waits hI xz_rg) dL_law_653 rfl rfl (by decide) hf (Nat.le_of_ble_eq_true rfl) (fun r653 => ?_)
  refine x_aload_n B dL_law_656 rfl ?_
  refine x_aload_n B dL_law_657 rfl ?_
  refine x_iload_n B dL_law_658 rfl ?_
  refine x_iconst B dL_law_659 ?_
  refine x_iadd B dL_law_660 ?_
  refine x_sld B S (by omega) hN dL_law_661 ?_
  refine x_lM (As := [vi (xz xs (i + 1))]) B mvL_87 (fun l => c_X7_waits hI.1 xz_rg) (fun H h => PMx.of h) dL_law_662 rfl rfl (by decide) hf (Nat.le_of_ble_eq_true rfl) (fun r662 => ?_)
  exact x_icmp_eq (tgt := 867) B dL_law_665 (by decide) r653 r662 (fun _ => K _ _ (IL_waits hI)) (fun h => absurd rfl h)
theorem law_inOrder (B : XB Γ G cL_law RL 4 room_1 (fun q => e ≤ q)) (S : XS Γ b N xs) (hI : IL m ρ) (hρ : ∀ j k, -2147483648 ≤ ρ j k ∧ ρ j k < 2147483648) (hi : 0 ≤ i ∧ i + 5 ≤ N) (hN : N ≤ 2560) (hf : kc ≤ room_1.cells ∧ ks ≤ room_1.slots)
    (K : ∀ m' ρ', IL m' ρ' → XJ Γ kc ks (LB G e m' ρ' m' ρ') 867 [(0, .ref b), (1, .ref e), (2, .ref (e + 198)), (3, vi i)] []) : XJ Γ kc ks (LA G e m ρ m ρ) 670 [(0, .ref b), (1, .ref e), (2, .ref (e + 198)), (3, vi i)] [] := by
  refine x_aload_n B dL_law_670 rfl ?_
  refine x_aload_n B dL_law_671 rfl ?_
  refine x_iload_n B dL_law_672 rfl ?_
  refine x_iconst B dL_law_673 ?_
  refine x_iadd B dL_law_674 ?_
  refine x_sld B S (by omega) hN dL_law_675 ?_
  refine x_lE (As := [vi (xz xs (i + 1))]) B mvL_88 (fun l => c_X6_inOrder hI xz_rg) dL_law_676 rfl rfl (by decide) hf (Nat.le_of_ble_eq_true rfl) (fun r676 => ?_)
  refine x_aload_n B dL_law_679 rfl ?_
  refine x_aload_n B dL_law_680 rfl ?_
  refine x_iload_n B dL_law_681 rfl ?_
  refine x_iconst B dL_law_682 ?_
  refine x_iadd B dL_law_683 ?_
  refine x_sld B S (by omega) hN dL_law_684 ?_
  refine x_lM (As := [vi (xz xs (i + 1))]) B mvL_91 (fun l => c_X7_inOrder hI.1 xz_rg) (fun H h => PMx.of h) dL_law_685 rfl rfl (by decide) hf (Nat.le_of_ble_eq_true rfl) (fun r685 => ?_)
  exact x_icmp_eq (tgt := 867) B dL_law_688 (by decide) r676 r685 (fun _ => K _ _ (IL_inOrder hI)) (fun h => absurd rfl h)
theorem law_run (B : XB Γ G cL_law RL 4 room_1 (fun q => e ≤ q)) (S : XS Γ b N xs) (hI : IL m ρ) (hρ : ∀ j k, -2147483648 ≤ ρ j k ∧ ρ j k < 2147483648) (hi : 0 ≤ i ∧ i + 5 ≤ N) (hN : N ≤ 2560) (hf : kc ≤ room_1.cells ∧ ks ≤ room_1.slots)
    (K : ∀ m' ρ', IL m' ρ' → XJ Γ kc ks (LB G e m' ρ' m' ρ') 867 [(0, .ref b), (1, .ref e), (2, .ref (e + 198)), (3, vi i)] []) : XJ Γ kc ks (LA G e m ρ m ρ) 693 [(0, .ref b), (1, .ref e), (2, .ref (e + 198)), (3, vi i)] [] := by
  have hW : 0 ≤ 12 * m 1 ∧ 12 * m 1 ≤ 80000000 := by
    have := (Iv_iff.mp hI.1).1.n
    have := hI.2.1
    omega
  refine x_aload_n B dL_law_693 rfl ?_
  refine x_aload_n B dL_law_694 rfl ?_
  refine x_iload_n B dL_law_695 rfl ?_
  refine x_iconst B dL_law_696 ?_
  refine x_iadd B dL_law_697 ?_
  refine x_sld B S (by omega) hN dL_law_698 ?_
  refine x_lE (As := [vi (xz xs (i + 1))]) B mvL_92 (fun l => c_X6_run hI xz_rg) dL_law_699 rfl rfl (by decide) hf (Nat.le_of_ble_eq_true rfl) (fun r699 => ?_)
  refine x_aload_n B dL_law_702 rfl ?_
  refine x_aload_n B dL_law_703 rfl ?_
  refine x_iload_n B dL_law_704 rfl ?_
  refine x_iconst B dL_law_705 ?_
  refine x_iadd B dL_law_706 ?_
  refine x_sld B S (by omega) hN dL_law_707 ?_
  refine x_lM (As := [vi (xz xs (i + 1))]) B mvL_95 (fun l => c_X7_run hI.1 hI.2.2.1 (by omega) hI.2.1 xz_rg) (fun H h => h) dL_law_708 rfl rfl (by decide) hf (Nat.le_of_ble_eq_true rfl) (fun r708 => ?_)
  exact x_icmp_eq (tgt := 867) B dL_law_711 (by decide) r699 r708 (fun _ => K _ _ (IL_run hI)) (fun h => absurd rfl h)
theorem law_ticksTo (B : XB Γ G cL_law RL 4 room_1 (fun q => e ≤ q)) (S : XS Γ b N xs) (hI : IL m ρ) (hρ : ∀ j k, -2147483648 ≤ ρ j k ∧ ρ j k < 2147483648) (hi : 0 ≤ i ∧ i + 5 ≤ N) (hN : N ≤ 2560) (hf : kc ≤ room_1.cells ∧ ks ≤ room_1.slots)
    (K : ∀ m' ρ', IL m' ρ' → XJ Γ kc ks (LB G e m' ρ' m' ρ') 867 [(0, .ref b), (1, .ref e), (2, .ref (e + 198)), (3, vi i)] []) : XJ Γ kc ks (LA G e m ρ m ρ) 716 [(0, .ref b), (1, .ref e), (2, .ref (e + 198)), (3, vi i)] [] := by
  have hW : 0 ≤ 12 * m 1 ∧ 12 * m 1 ≤ 80000000 := by
    have := (Iv_iff.mp hI.1).1.n
    have := hI.2.1
    omega
  refine x_aload_n B dL_law_716 rfl ?_
  refine x_aload_n B dL_law_717 rfl ?_
  refine x_iload_n B dL_law_718 rfl ?_
  refine x_iconst B dL_law_719 ?_
  refine x_iadd B dL_law_720 ?_
  refine x_sld B S (by omega) hN dL_law_721 ?_
  refine x_lE (As := [vi (xz xs (i + 1))]) B mvL_96 (fun l => c_X6_ticksTo hI xz_rg) dL_law_722 rfl rfl (by decide) hf (Nat.le_of_ble_eq_true rfl) (fun r722 => ?_)
  refine x_aload_n B dL_law_725 rfl ?_
  refine x_aload_n B dL_law_726 rfl ?_
  refine x_iload_n B dL_law_727 rfl ?_
  refine x_iconst B dL_law_728 ?_
  refine x_iadd B dL_law_729 ?_
  refine x_sld B S (by omega) hN dL_law_730 ?_
  refine x_lM (As := [vi (xz xs (i + 1))]) B mvL_99 (fun l => c_X7_ticksTo hI.1 (by omega) hI.2.1 xz_rg) (fun H h => h) dL_law_731 rfl rfl (by decide) hf (Nat.le_of_ble_eq_true rfl) (fun r731 => ?_)
  exact x_icmp_eq (tgt := 867) B dL_law_734 (by decide) r722 r731 (fun _ => K _ _ (IL_ticksTo hI)) (fun h => absurd rfl h)
theorem law_count (B : XB Γ G cL_law RL 4 room_1 (fun q => e ≤ q)) (S : XS Γ b N xs) (hI : IL m ρ) (hρ : ∀ j k, -2147483648 ≤ ρ j k ∧ ρ j k < 2147483648) (hi : 0 ≤ i ∧ i + 5 ≤ N) (hN : N ≤ 2560) (hf : kc ≤ room_1.cells ∧ ks ≤ room_1.slots)
    (K : ∀ m' ρ', IL m' ρ' → XJ Γ kc ks (LB G e m' ρ' m' ρ') 867 [(0, .ref b), (1, .ref e), (2, .ref (e + 198)), (3, vi i)] []) : XJ Γ kc ks (LA G e m ρ m ρ) 739 [(0, .ref b), (1, .ref e), (2, .ref (e + 198)), (3, vi i)] [] := by
  have hW : 0 ≤ 12 * m 1 ∧ 12 * m 1 ≤ 80000000 := by
    have := (Iv_iff.mp hI.1).1.n
    have := hI.2.1
    omega
  refine x_aload_n B dL_law_739 rfl ?_
  refine x_aload_n B dL_law_740 rfl ?_
  refine x_iload_n B dL_law_741 rfl ?_
  refine x_iconst B dL_law_742 ?_
  refine x_iadd B dL_law_743 ?_
  refine x_sld B S (by omega) hN dL_law_744 ?_
  refine x_lE (As := [vi (xz xs (i + 1))]) B mvL_100 (fun l => c_X6_count hI xz_rg) dL_law_745 rfl rfl (by decide) hf (Nat.le_of_ble_eq_true rfl) (fun r745 => ?_)
  refine x_aload_n B dL_law_748 rfl ?_
  refine x_aload_n B dL_law_749 rfl ?_
  refine x_iload_n B dL_law_750 rfl ?_
  refine x_iconst B dL_law_751 ?_
  refine x_iadd B dL_law_752 ?_
  refine x_sld B S (by omega) hN dL_law_753 ?_
  refine x_lM (As := [vi (xz xs (i + 1))]) B mvL_103 (fun l => c_X7_count hI.1 hI.2.2.1 (by omega) xz_rg) (fun H h => PMx.of h) dL_law_754 rfl rfl (by decide) hf (Nat.le_of_ble_eq_true rfl) (fun r754 => ?_)
  exact x_icmp_eq (tgt := 867) B dL_law_757 (by decide) r745 r754 (fun _ => K _ _ (IL_count hI)) (fun h => absurd rfl h)
theorem law_event (B : XB Γ G cL_law RL 4 room_1 (fun q => e ≤ q)) (S : XS Γ b N xs) (hI : IL m ρ) (hρ : ∀ j k, -2147483648 ≤ ρ j k ∧ ρ j k < 2147483648) (hi : 0 ≤ i ∧ i + 5 ≤ N) (hN : N ≤ 2560) (hf : kc ≤ room_1.cells ∧ ks ≤ room_1.slots)
    (K : ∀ m' ρ', IL m' ρ' → XJ Γ kc ks (LB G e m' ρ' m' ρ') 867 [(0, .ref b), (1, .ref e), (2, .ref (e + 198)), (3, vi i)] []) : XJ Γ kc ks (LA G e m ρ m ρ) 762 [(0, .ref b), (1, .ref e), (2, .ref (e + 198)), (3, vi i)] [] := by
  refine x_aload_n B dL_law_762 rfl ?_
  refine x_aload_n B dL_law_763 rfl ?_
  refine x_iload_n B dL_law_764 rfl ?_
  refine x_iconst B dL_law_765 ?_
  refine x_iadd B dL_law_766 ?_
  refine x_sld B S (by omega) hN dL_law_767 ?_
  refine x_aload_n B dL_law_768 rfl ?_
  refine x_iload_n B dL_law_769 rfl ?_
  refine x_iconst B dL_law_770 ?_
  refine x_iadd B dL_law_771 ?_
  refine x_sld B S (by omega) hN dL_law_772 ?_
  refine x_lE (As := [vi (xz xs (i + 1)), vi (xz xs (i + 2))]) B mvL_104 (fun l => c_X6_event hI xz_rg xz_rg) dL_law_773 rfl rfl (by decide) hf (Nat.le_of_ble_eq_true rfl) (fun r773 => ?_)
  refine x_aload_n B dL_law_776 rfl ?_
  refine x_aload_n B dL_law_777 rfl ?_
  refine x_iload_n B dL_law_778 rfl ?_
  refine x_iconst B dL_law_779 ?_
  refine x_iadd B dL_law_780 ?_
  refine x_sld B S (by omega) hN dL_law_781 ?_
  refine x_aload_n B dL_law_782 rfl ?_
  refine x_iload_n B dL_law_783 rfl ?_
  refine x_iconst B dL_law_784 ?_
  refine x_iadd B dL_law_785 ?_
  refine x_sld B S (by omega) hN dL_law_786 ?_
  refine x_lM (As := [vi (xz xs (i + 1)), vi (xz xs (i + 2))]) B mvL_107 (fun l => c_X7_event hI.1 xz_rg xz_rg) (fun H h => PMx.of h) dL_law_787 rfl rfl (by decide) hf (Nat.le_of_ble_eq_true rfl) (fun r787 => ?_)
  exact x_icmp_eq (tgt := 867) B dL_law_790 (by decide) r773 r787 (fun _ => K _ _ (IL_event hI)) (fun h => absurd rfl h)
theorem law_undo (B : XB Γ G cL_law RL 4 room_1 (fun q => e ≤ q)) (S : XS Γ b N xs) (hI : IL m ρ) (hρ : ∀ j k, -2147483648 ≤ ρ j k ∧ ρ j k < 2147483648) (hi : 0 ≤ i ∧ i + 5 ≤ N) (hN : N ≤ 2560) (hf : kc ≤ room_1.cells ∧ ks ≤ room_1.slots)
    (K : ∀ m' ρ', IL m' ρ' → XJ Γ kc ks (LB G e m' ρ' m' ρ') 867 [(0, .ref b), (1, .ref e), (2, .ref (e + 198)), (3, vi i)] []) : XJ Γ kc ks (LA G e m ρ m ρ) 795 [(0, .ref b), (1, .ref e), (2, .ref (e + 198)), (3, vi i)] [] := by
  refine x_aload_n B dL_law_795 rfl ?_
  refine x_lE (As := []) B mvL_108 (fun l => c_X6_undo hI hρ) dL_law_796 rfl rfl (by decide) hf (Nat.le_of_ble_eq_true rfl) (fun r796 => ?_)
  refine x_aload_n B dL_law_799 rfl ?_
  refine x_lM (As := []) B mvL_112 (fun l => c_X7_undo hI.2.2.1) (fun H h => PMx.of h) dL_law_800 rfl rfl (by decide) hf (Nat.le_of_ble_eq_true rfl) (fun r800 => ?_)
  exact x_icmp_eq (tgt := 867) B dL_law_803 (by decide) r796 r800 (fun _ => K _ _ (IL_undo hI)) (fun h => absurd rfl h)
theorem law_type (B : XB Γ G cL_law RL 4 room_1 (fun q => e ≤ q)) (S : XS Γ b N xs) (hI : IL m ρ) (hρ : ∀ j k, -2147483648 ≤ ρ j k ∧ ρ j k < 2147483648) (hi : 0 ≤ i ∧ i + 5 ≤ N) (hN : N ≤ 2560) (hf : kc ≤ room_1.cells ∧ ks ≤ room_1.slots)
    (K : ∀ m' ρ', IL m' ρ' → XJ Γ kc ks (LB G e m' ρ' m' ρ') 867 [(0, .ref b), (1, .ref e), (2, .ref (e + 198)), (3, vi i)] []) : XJ Γ kc ks (LA G e m ρ m ρ) 808 [(0, .ref b), (1, .ref e), (2, .ref (e + 198)), (3, vi i)] [] := by
  refine x_aload_n B dL_law_808 rfl ?_
  refine x_aload_n B dL_law_809 rfl ?_
  refine x_iload_n B dL_law_810 rfl ?_
  refine x_iconst B dL_law_811 ?_
  refine x_iadd B dL_law_812 ?_
  refine x_sld B S (by omega) hN dL_law_813 ?_
  refine x_lE (As := [vi (xz xs (i + 1))]) B mvL_113 (fun l => c_X6_type hI xz_rg) dL_law_814 rfl rfl (by decide) hf (Nat.le_of_ble_eq_true rfl) (fun r814 => ?_)
  refine x_aload_n B dL_law_817 rfl ?_
  refine x_aload_n B dL_law_818 rfl ?_
  refine x_iload_n B dL_law_819 rfl ?_
  refine x_iconst B dL_law_820 ?_
  refine x_iadd B dL_law_821 ?_
  refine x_sld B S (by omega) hN dL_law_822 ?_
  refine x_lM (As := [vi (xz xs (i + 1))]) B mvL_116 (fun l => c_X7_type hI.2.2.1 xz_rg) (fun H h => PMx.of h) dL_law_823 rfl rfl (by decide) hf (Nat.le_of_ble_eq_true rfl) (fun r823 => ?_)
  exact x_icmp_eq (tgt := 867) B dL_law_826 (by decide) r814 r823 (fun _ => K _ _ (IL_type hI)) (fun h => absurd rfl h)
theorem law_clearText (B : XB Γ G cL_law RL 4 room_1 (fun q => e ≤ q)) (S : XS Γ b N xs) (hI : IL m ρ) (hρ : ∀ j k, -2147483648 ≤ ρ j k ∧ ρ j k < 2147483648) (hi : 0 ≤ i ∧ i + 5 ≤ N) (hN : N ≤ 2560) (hf : kc ≤ room_1.cells ∧ ks ≤ room_1.slots)
    (K : ∀ m' ρ', IL m' ρ' → XJ Γ kc ks (LB G e m' ρ' m' ρ') 867 [(0, .ref b), (1, .ref e), (2, .ref (e + 198)), (3, vi i)] []) : XJ Γ kc ks (LA G e m ρ m ρ) 831 [(0, .ref b), (1, .ref e), (2, .ref (e + 198)), (3, vi i)] [] := by
  refine x_aload_n B dL_law_831 rfl ?_
  refine x_lE (As := []) B mvL_117 (fun l => c_X6_clearText hI) dL_law_832 rfl rfl (by decide) hf (Nat.le_of_ble_eq_true rfl) (fun r832 => ?_)
  refine x_aload_n B dL_law_835 rfl ?_
  refine x_lM (As := []) B mvL_120 (fun l => c_X7_clearText ) (fun H h => PMx.of h) dL_law_836 rfl rfl (by decide) hf (Nat.le_of_ble_eq_true rfl) (fun r836 => ?_)
  exact x_icmp_eq (tgt := 867) B dL_law_839 (by decide) r832 r836 (fun _ => K _ _ (IL_clearText hI)) (fun h => absurd rfl h)
theorem law_fault (B : XB Γ G cL_law RL 4 room_1 (fun q => e ≤ q)) (S : XS Γ b N xs) (hI : IL m ρ) (hρ : ∀ j k, -2147483648 ≤ ρ j k ∧ ρ j k < 2147483648) (hi : 0 ≤ i ∧ i + 5 ≤ N) (hN : N ≤ 2560) (hf : kc ≤ room_1.cells ∧ ks ≤ room_1.slots)
    (K : ∀ m' ρ', IL m' ρ' → XJ Γ kc ks (LB G e m' ρ' m' ρ') 867 [(0, .ref b), (1, .ref e), (2, .ref (e + 198)), (3, vi i)] []) : XJ Γ kc ks (LA G e m ρ m ρ) 844 [(0, .ref b), (1, .ref e), (2, .ref (e + 198)), (3, vi i)] [] := by
  refine x_aload_n B dL_law_844 rfl ?_
  refine x_aload_n B dL_law_845 rfl ?_
  refine x_iload_n B dL_law_846 rfl ?_
  refine x_iconst B dL_law_847 ?_
  refine x_iadd B dL_law_848 ?_
  refine x_sld B S (by omega) hN dL_law_849 ?_
  refine x_lE (As := [vi (xz xs (i + 1))]) B mvL_121 (fun l => c_X6_fault hI xz_rg) dL_law_850 rfl rfl (by decide) hf (Nat.le_of_ble_eq_true rfl) (fun r850 => ?_)
  refine x_aload_n B dL_law_853 rfl ?_
  refine x_aload_n B dL_law_854 rfl ?_
  refine x_iload_n B dL_law_855 rfl ?_
  refine x_iconst B dL_law_856 ?_
  refine x_iadd B dL_law_857 ?_
  refine x_sld B S (by omega) hN dL_law_858 ?_
  refine x_lM (As := [vi (xz xs (i + 1))]) B mvL_124 (fun l => c_X7_fault hI.2.2.2.1 xz_rg) (fun H h => h) dL_law_859 rfl rfl (by decide) hf (Nat.le_of_ble_eq_true rfl) (fun r859 => ?_)
  exact x_icmp_eq (tgt := 867) B dL_law_862 (by decide) r850 r859 (fun _ => K _ _ (IL_fault hI)) (fun h => absurd rfl h)
end LAW1

/-! ===== the law, from its entry ===== -/
section LAW3
variable {Γ : xE} {G : xG} {b N : Nat} {xs : Nat → Int32} {e : Nat}
theorem law_body (B : XB Γ G cL_law RL 4 room_1 (fun q => e ≤ q)) (S : XS Γ b N xs) (hN : N ≤ 2560) (ret : ∀ (P : Heap → Prop) (L : List (Nat × Value)), XJ Γ 205 9318 P 874 L [vi 1]) : XJ Γ 0 0 (fun H => H.size = e) 0 [(0, .ref b)] [] := by
  refine x_new (a := e) (N := 6) (P' := fun H => H.size = e + 1 ∧ oat G e 6 [.null, .null, .null, .null, .null, vi 0] H) B cnL_7 dL_law_0 df_6 (by decide) (fun H h => ⟨h, fun H1 e1 z1 _ => ⟨z1, e1⟩⟩) ?_
  refine x_dup B dL_law_3 rfl ?_
  refine x_callIg (As := []) (P' := fun H => H.size = e + 198 ∧ PE G e (n0 3) (fun _ => z0) H) B miX6_init mlL_9 (fun l => c_X6_init) dL_law_4 rfl rfl ⟨rfl, rfl, by decide, by decide⟩ (by decide) (Nat.le_of_ble_eq_true rfl) (fun q h => h) (fun H h => h) (fun v' H H1 h hp _ _ => hp) ?_
  refine x_astore_n B dL_law_7 (by decide) ?_
  refine x_new (a := e + 198) (N := 11) (P' := fun H => H.size = e + 198 + 1 ∧ PE G e (n0 3) (fun _ => z0) H ∧ oat G (e + 198) 7 [.null, .null, .null, vi 0, .null, vi 0, vi 0, vi 0, vi 0, .null, .null] H) B cnL_10 dL_law_8 df_7 (by decide) (fun H h => ⟨h.1, fun H1 e1 z1 o => ⟨z1, h.2.kept (fun q _ c => o q c), e1⟩⟩) ?_
  refine x_dup B dL_law_11 rfl ?_
  refine x_callIg (As := []) (P' := fun H => LB G e (n0 3) (fun _ => z0) (n0 3) (fun _ => z0) H) B miX7_init mlL_12 (fun l => c_X7_init) dL_law_12 rfl rfl ⟨rfl, rfl, by decide, by decide⟩ (by decide) (Nat.le_of_ble_eq_true rfl) (fun q h => by have h' : e + 198 ≤ q := h; show e ≤ q; omega) (fun H h => ⟨h.1, h.2.2⟩) (fun v' H H1 h hp _ hq => ⟨hp.1, h.2.1.kept (fun q _ c => hq q (by have := h.1; omega) (by show ¬ e + 198 ≤ q; omega)), PMx.of hp.2.2⟩) ?_
  refine x_astore_n B dL_law_15 (by decide) ?_
  refine x_iconst B dL_law_16 ?_
  refine x_istore_n B dL_law_17 (by decide) ?_
  refine x_locs (L' := [(0, .ref b), (1, .ref e), (2, .ref (e + 198)), (3, vi 0)]) (xl_cons rfl (xl_cons rfl (xl_cons rfl (xl_cons rfl xl_nil)))) ?_
  exact law_loop (kc := 205) (ks := 9318) B S hN (by decide) ret 2571 0 (n0 3) (fun _ => z0) IL0 (by omega) (by omega) (by omega)
end LAW3

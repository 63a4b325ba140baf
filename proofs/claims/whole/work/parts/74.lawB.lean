/-! ===== the law: its loop ===== -/
section LAW2
variable {Γ : xE} {G : xG} {b N : Nat} {xs : Nat → Int32} {e : Nat}
theorem law_loop {kc ks : Nat} (B : XB Γ G cL_law RL 4 room_1 (fun q => e ≤ q)) (S : XS Γ b N xs) (hN : N ≤ 2560) (hf : kc ≤ room_1.cells ∧ ks ≤ room_1.slots) (ret : ∀ (P : Heap → Prop) (L : List (Nat × Value)), XJ Γ kc ks P 874 L [vi 1]) :
    ∀ (n : Nat) (i : Int) (m : Int → Int) (ρ : Nat → Int → Int), IL m ρ → 0 ≤ i → i ≤ 2565 → 2570 - i < n → XJ Γ kc ks (LB G e m ρ m ρ) 18 [(0, .ref b), (1, .ref e), (2, .ref (e + 198)), (3, vi i)] [] := by
  intro n
  induction n with
  | zero => intro i m ρ _ _ _ _; omega
  | succ n ih =>
    intro i m ρ0 hI0 hi0 hi1 hn
    refine x_LB (fun ρ er hρ => ?_)
    have hI := hI0.eqR er
    have K : i + 5 ≤ N → ∀ m' ρ', IL m' ρ' → XJ Γ kc ks (LB G e m' ρ' m' ρ') 867 [(0, .ref b), (1, .ref e), (2, .ref (e + 198)), (3, vi i)] [] := fun hi m' ρ' hI' => by
      refine x_iinc B dL_law_867 rfl (by decide) ?_
      refine x_goto (tgt := 18) B dL_law_870 (by decide) ?_
      exact ih (i + 5) m' ρ' hI' (by omega) (by omega) (by omega)
    refine x_iload_n B dL_law_18 rfl ?_
    refine x_aload_n B dL_law_19 rfl ?_
    refine x_slen B S dL_law_20 ?_
    refine x_iconst B dL_law_21 ?_
    refine x_isub B dL_law_22 ?_
    refine x_icmp_gt (tgt := 873) B dL_law_23 (by decide) (by omega) (by omega) (fun c23 => ?_) (fun c23 => ?_)
    · refine x_iconst B dL_law_873 ?_
      exact ret _ _
    · have hi : 0 ≤ i ∧ i + 5 ≤ N := by omega
      have KK := K hi.2
      refine x_aload_n B dL_law_26 rfl ?_
      refine x_iload_n B dL_law_27 rfl ?_
      refine x_sld B S (by omega) hN dL_law_28 ?_
      refine x_bipush B dL_law_29 (by decide) ?_
      refine x_and31 B dL_law_31 (fun w hw => ?_)
      refine x_tsw (n := 27) (tgt := 867) (tgs := [156, 189, 212, 235, 268, 291, 314, 337, 360, 413, 466, 489, 512, 535, 558, 581, 614, 647, 670, 693, 716, 739, 762, 795, 808, 831, 844]) B dL_law_32 (by decide) (by decide) rfl (by decide) hw (fun _ => x_weak (fun H h => ⟨h.1, PMx.of h.2⟩) (KK m ρ hI)) (fun j hj _ => ?_)
      match j, hj with
      | 0, _ => exact law_unit B S hI hρ hi hN hf KK
      | 1, _ => exact law_fail B S hI hρ hi hN hf KK
      | 2, _ => exact law_repair B S hI hρ hi hN hf KK
      | 3, _ => exact law_unitInfo B S hI hρ hi hN hf KK
      | 4, _ => exact law_shared B S hI hρ hi hN hf KK
      | 5, _ => exact law_setCleaning B S hI hρ hi hN hf KK
      | 6, _ => exact law_recipe B S hI hρ hi hN hf KK
      | 7, _ => exact law_versions B S hI hρ hi hN hf KK
      | 8, _ => exact law_phase B S hI hρ hi hN hf KK
      | 9, _ => exact law_batch B S hI hρ hi hN hf KK
      | 10, _ => exact law_start B S hI hρ hi hN hf KK
      | 11, _ => exact law_hold B S hI hρ hi hN hf KK
      | 12, _ => exact law_restart B S hI hρ hi hN hf KK
      | 13, _ => exact law_stop B S hI hρ hi hN hf KK
      | 14, _ => exact law_abort B S hI hρ hi hN hf KK
      | 15, _ => exact law_priority B S hI hρ hi hN hf KK
      | 16, _ => exact law_batchInfo B S hI hρ hi hN hf KK
      | 17, _ => exact law_waits B S hI hρ hi hN hf KK
      | 18, _ => exact law_inOrder B S hI hρ hi hN hf KK
      | 19, _ => exact law_run B S hI hρ hi hN hf KK
      | 20, _ => exact law_ticksTo B S hI hρ hi hN hf KK
      | 21, _ => exact law_count B S hI hρ hi hN hf KK
      | 22, _ => exact law_event B S hI hρ hi hN hf KK
      | 23, _ => exact law_undo B S hI hρ hi hN hf KK
      | 24, _ => exact law_type B S hI hρ hi hN hf KK
      | 25, _ => exact law_clearText B S hI hρ hi hN hf KK
      | 26, _ => exact law_fault B S hI hρ hi hN hf KK
      | j + 27, hj => omega
end LAW2

/-! ===== the executive: what a unit is ===== -/
section OPC7
variable {G : xG} {l : Launch} {e : Nat} {m : Int → Int} {ρ : Nat → Int → Int} {W : Int}
theorem c_X6_unitInfo {x y : Int} (hI : IL m ρ) (h3 : -2147483648 ≤ x ∧ x < 2147483648) (h4 : -2147483648 ≤ y ∧ y < 2147483648) : CT G l yX6_unitInfo cX6_unitInfo 4 (some .int) ({ frames := 2, cells := 0, slots := 0, locals := 42 } : Room) 0 0 [.ref e, vi x, vi y] (PE G e m ρ) (pI (o_unitInfo m ρ x y).1 (PE G e (o_unitInfo m ρ x y).2.1 (o_unitInfo m ρ x y).2.2)) (AE e) := by
  refine x_met1 (own := RX6) (nm := "unitInfo") (L := [(0, .ref e), (1, vi x), (2, vi y)]) (by decide) rfl rfl (fun _ => rfl) (Nat.le_of_ble_eq_true rfl) rfl rfl ?_
  intro Γ B R
  obtain ⟨hV, hr, hb⟩ := hI.x
  have hn := hV.n
  refine x_PE (fun β od oc q F T pc0 rs pl at_ vs S hw hm => ?_)
  refine x_aload_n B dX6_unitInfo_0 rfl ?_
  refine x_iload_n B dX6_unitInfo_1 rfl ?_
  refine x_mZ B mvX6_54 (fun l => c_X6_isUnit (by omega) (by omega)) dX6_unitInfo_2 rfl rfl (by decide) (by decide) (Nat.le_of_ble_eq_true rfl) EX.rv ?_
  refine x_ifz_ne (tgt := 10) B dX6_unitInfo_5 (by decide) (fun c5 => ?_) (fun c5 => ?_)
  · have hu := hV.u (u := x) (by omega) (by omega)
    unfold okU at hu
    refine x_aload_n B dX6_unitInfo_10 rfl ?_
    refine x_get B fgX6_28 dX6_unitInfo_11 (fun _ h => ⟨_, EX.o h, rfl⟩) ?_
    refine x_get B fgX6_58 dX6_unitInfo_14 (EX.lf (fun _ h => ⟨_, PS.o h, rfl⟩)) ?_
    refine x_iload_n B dX6_unitInfo_17 rfl ?_
    refine x_aald (j := 3) B dX6_unitInfo_18 rfl (by omega) (by decide) (EX.lf (PS.au (by omega))) ?_
    refine x_astore_n B dX6_unitInfo_19 (by decide) ?_
    refine x_iload_n B dX6_unitInfo_20 rfl ?_
    refine x_tsw (tgt := 109) (tgs := [64, 69, 74, 82, 90, 95, 100]) (n := 7) B dX6_unitInfo_21 (by decide) (by decide) rfl (by decide) (by omega) (fun s21 => ?_) (fun i21 l21 s21 => ?_)
    · refine x_iconst B dX6_unitInfo_109 ?_
      exact x_retE B R dX6_unitInfo_110 (by simp only [o_unitInfo]; (repeat (first | rfl | rw [if_pos (by omega)] | rw [if_neg (by omega)])); try (exfalso; omega)) (by omega) rfl rfl (by assumption)
    · obtain rfl | rfl | rfl | rfl | rfl | rfl | rfl := (show i21 = 0 ∨ i21 = 1 ∨ i21 = 2 ∨ i21 = 3 ∨ i21 = 4 ∨ i21 = 5 ∨ i21 = 6 by omega)
      · refine x_aload_n B dX6_unitInfo_64 rfl ?_
        refine x_getI B fgX6_79 dX6_unitInfo_65 (EX.lf (PS.gu0 (by omega))) (fun r65 => ?_)
        exact x_retE B R dX6_unitInfo_68 (by simp only [o_unitInfo]; (repeat (first | rfl | rw [if_pos (by omega)] | rw [if_neg (by omega)])); rw [show y = 0 by omega]) (by omega) rfl rfl (by assumption)
      · refine x_aload_n B dX6_unitInfo_69 rfl ?_
        refine x_getI B fgX6_82 dX6_unitInfo_70 (EX.lf (PS.gu1 (by omega))) (fun r70 => ?_)
        exact x_retE B R dX6_unitInfo_73 (by simp only [o_unitInfo]; (repeat (first | rfl | rw [if_pos (by omega)] | rw [if_neg (by omega)])); rw [show y = 1 by omega]) (by omega) rfl rfl (by assumption)
      · refine x_aload_n B dX6_unitInfo_74 rfl ?_
        refine x_getI B fgX6_85 dX6_unitInfo_75 (EX.lf (PS.gu2 (by omega))) (fun r75 => ?_)
        refine x_sV B msX6_72 (fun l => c_X6_orNotFound (by omega)) dX6_unitInfo_78 rfl rfl (by decide) (by decide) (Nat.le_of_ble_eq_true rfl) (fun r78 => ?_)
        exact x_retE B R dX6_unitInfo_81 (by simp only [o_unitInfo]; (repeat (first | rfl | rw [if_pos (by omega)] | rw [if_neg (by omega)])); (by_cases c : m (5 + 6 * x + 2) = -1); rw [if_pos ⟨by omega, c⟩, if_pos c]; rw [if_neg (fun q => c q.2), if_pos (by omega), if_neg c, show y = 2 by omega]) (by omega) rfl rfl (by assumption)
      · refine x_aload_n B dX6_unitInfo_82 rfl ?_
        refine x_getI B fgX6_62 dX6_unitInfo_83 (EX.lf (PS.gu5 (by omega))) (fun r83 => ?_)
        have eb : m (5 + 6 * x + 3) = bz (m (5 + 6 * x + 3) = 1) := by
          by_cases c : m (5 + 6 * x + 3) = 1
          · rw [bz_t c, c]
          · rw [bz_f c]; omega
        refine x_top eb ?_
        refine x_sV B msX6_88 (fun l => c_X6_oneIf ) dX6_unitInfo_86 rfl rfl (by decide) (by decide) (Nat.le_of_ble_eq_true rfl) (fun r86 => ?_)
        refine x_top eb.symm ?_
        exact x_retE B R dX6_unitInfo_89 (by simp only [o_unitInfo]; (repeat (first | rfl | rw [if_pos (by omega)] | rw [if_neg (by omega)])); rw [show y = 3 by omega]) (by omega) rfl rfl (by assumption)
      · refine x_aload_n B dX6_unitInfo_90 rfl ?_
        refine x_getI B fgX6_92 dX6_unitInfo_91 (EX.lf (PS.gu3 (by omega))) (fun r91 => ?_)
        exact x_retE B R dX6_unitInfo_94 (by simp only [o_unitInfo]; (repeat (first | rfl | rw [if_pos (by omega)] | rw [if_neg (by omega)])); rw [show y = 4 by omega]) (by omega) rfl rfl (by assumption)
      · refine x_aload_n B dX6_unitInfo_95 rfl ?_
        refine x_getI B fgX6_95 dX6_unitInfo_96 (EX.lf (PS.gu4 (by omega))) (fun r96 => ?_)
        exact x_retE B R dX6_unitInfo_99 (by simp only [o_unitInfo]; (repeat (first | rfl | rw [if_pos (by omega)] | rw [if_neg (by omega)])); rw [show y = 5 by omega]) (by omega) rfl rfl (by assumption)
      · refine x_aload_n B dX6_unitInfo_100 rfl ?_
        refine x_iconst B dX6_unitInfo_101 ?_
        refine x_mZ B mvX6_98 (fun l => c_X5_isFreeAfter (EX.lf (PS.ou (by omega))) hm (by omega)) dX6_unitInfo_102 rfl rfl (by decide) (by decide) (Nat.le_of_ble_eq_true rfl) (EX.lf (PS.rvU (by omega))) ?_
        refine x_sV B msX6_88 (fun l => c_X6_oneIf ) dX6_unitInfo_105 rfl rfl (by decide) (by decide) (Nat.le_of_ble_eq_true rfl) (fun r105 => ?_)
        exact x_retE B R dX6_unitInfo_108 (by simp only [o_unitInfo]; rw [if_neg (by omega), if_neg (by omega), if_neg (by omega)]; congr 1; by_cases c : m (5 + 6 * x + 2) = -1 ∧ m (5 + 6 * x + 3) = 0 ∧ m (5 + 6 * x + 4) ≤ 0; rw [bz_t c, if_pos ⟨c.1, c.2.1, by omega⟩]; rw [bz_f c, if_neg (fun q => c ⟨q.1, q.2.1, by omega⟩)]) (by omega) rfl rfl hw
  · refine x_iconst B dX6_unitInfo_8 ?_
    exact x_retE B R dX6_unitInfo_9 (by simp only [o_unitInfo]; (repeat (first | rfl | rw [if_pos (by omega)] | rw [if_neg (by omega)])); try (exfalso; omega)) (by omega) rfl rfl (by assumption)
end OPC7

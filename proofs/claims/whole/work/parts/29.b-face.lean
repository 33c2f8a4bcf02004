theorem bX9_feed_0 {E : tp_E} {d : Nat} {Q : Int32 → tp_M → Prop} {σ : tp_M}   (x1 : Int32) (K : if x1 < 0 then (Q (-1000000002) σ) else (if x1 ≤ 255 then (Ci E TC yX6_append iX6_append d [.ref 27, .int x1] σ (fun v4 σ3 => if v4 = 0 then (Q (-1000000004) σ3) else (Q (σ3 27 2) σ3))) else (Q (-1000000002) σ))) : Wi E TC iX9_feed (d + 1) Q 0 [(0, .ref 0), (1, .int x1)] [] σ := by
  refine wp_iload_n 1 dX9_feed_0 rfl rfl rfl ?_
  refine wp_if_lt 11 dX9_feed_1 (by decide) rfl (fun h1 => ?_) (fun h1 => ?_)
  · rw [if_pos h1] at K
    refine wp_ldc dX9_feed_11 rfl tw_378 ?_
    exact wp_ret .int rfl rfl (Nat.le_refl 0) (Nat.le_refl 0) dX9_feed_13 ⟨rfl, _, rfl, K⟩
  · rw [if_neg h1] at K
    refine wp_iload_n 1 dX9_feed_4 rfl rfl rfl ?_
    refine wp_sipush (v := 255) dX9_feed_5 rfl (by decide) ?_
    refine wp_icmp_le 14 dX9_feed_8 (by decide) rfl (fun h2 => ?_) (fun h2 => ?_)
    · rw [if_pos h2] at K
      refine wp_aload_n 0 dX9_feed_14 rfl rfl rfl ?_
      refine wp_getR 9 0 kcX9 kfX9_21 rfl lC_0 (congrArg Prod.fst gC_0) rC_0_0 dX9_feed_15 rfl ?_
      refine wp_iload_n 1 dX9_feed_18 rfl rfl rfl ?_
      refine wn_callVi (As := [.int x1]) (rest := []) 6 kmX9_75 (by decide) rfl rfl (Nat.le_of_ble_eq_true rfl) lC_27 (congrArg Prod.fst gC_27) dX9_feed_19 rfl ?_
      refine Ci.mono K (fun v4 σ3 K => ?_)
      refine wp_if_eq 35 dX9_feed_22 (by decide) rfl (fun h5 => ?_) (fun h5 => ?_)
      · rw [if_pos h5] at K
        refine wp_ldc dX9_feed_35 rfl tw_383 ?_
        exact wp_ret .int rfl rfl (Nat.le_refl 0) (Nat.le_refl 0) dX9_feed_37 ⟨rfl, _, rfl, K⟩
      · rw [if_neg h5] at K
        refine wp_aload_n 0 dX9_feed_25 rfl rfl rfl ?_
        refine wp_getR 9 0 kcX9 kfX9_21 rfl lC_0 (congrArg Prod.fst gC_0) rC_0_0 dX9_feed_26 rfl ?_
        refine wp_getI 6 2 kcX6 kfX9_79 rfl lC_27 (congrArg Prod.fst gC_27) dX9_feed_29 rfl ?_
        refine wp_goto 37 dX9_feed_32 (by decide) ?_
        exact wp_ret .int rfl rfl (Nat.le_refl 0) (Nat.le_refl 0) dX9_feed_37 ⟨rfl, _, rfl, K⟩
    · rw [if_neg h2] at K
      refine wp_ldc dX9_feed_11 rfl tw_378 ?_
      exact wp_ret .int rfl rfl (Nat.le_refl 0) (Nat.le_refl 0) dX9_feed_13 ⟨rfl, _, rfl, K⟩
theorem eX9_feed {E : tp_E} {d : Nat} {Q : Int32 → tp_M → Prop} {σ : tp_M}   (x1 : Int32) (K : if x1 < 0 then (Q (-1000000002) σ) else (if x1 ≤ 255 then (Ci E TC yX6_append iX6_append d [.ref 27, .int x1] σ (fun v4 σ3 => if v4 = 0 then (Q (-1000000004) σ3) else (Q (σ3 27 2) σ3))) else (Q (-1000000002) σ))) : Ci E TC yX9_feed iX9_feed (d + 1) [.ref 0, .int x1] σ Q := Ci.of ⟨by decide +kernel, rfl, rfl⟩ (Nat.le_of_ble_eq_true rfl) (bX9_feed_0  x1 K)
theorem bX9_hotel_0 {E : tp_E} {d : Nat} {Q : Int32 → tp_M → Prop} {σ : tp_M}    (K : Ci E TC yX6_readAll iX6_readAll d [.ref 27] σ (fun v2 σ1 => if v2 = 0 then (Cv E TC yX5_become iX5_become d [.ref 1, .ref 28] σ1 (fun σ4 => Cv E TC yX8_open iX8_open d [.ref 9, .ref 1] σ4 (fun σ5 => Cv E TC yX4_forget iX4_forget d [.ref 37] σ5 (fun σ6 => Cv E TC yX3_clear iX3_clear d [.ref 151] σ6 (fun σ7 => Wi E TC iX9_hotel (d + 1) Q 58 [(0, .ref 0), (2, .int 0)] [] σ7))))) else (Q ((-10) - v2) σ1))) : Wi E TC iX9_hotel (d + 1) Q 0 [(0, .ref 0)] [] σ := by
  refine wp_aload_n 0 dX9_hotel_0 rfl rfl rfl ?_
  refine wp_getR 9 0 kcX9 kfX9_21 rfl lC_0 (congrArg Prod.fst gC_0) rC_0_0 dX9_hotel_1 rfl ?_
  refine wn_callVi (As := []) (rest := []) 6 kmX9_84 (by decide) rfl rfl (Nat.le_of_ble_eq_true rfl) lC_27 (congrArg Prod.fst gC_27) dX9_hotel_4 rfl ?_
  refine Ci.mono K (fun v2 σ1 K => ?_)
  refine wp_istore_n [1, 0] dX9_hotel_7 rfl rfl (by decide) rfl ?_
  show WP _ _ _ _ _ _ _ 8 [(0, .ref 0), (1, .int v2)] _ _ _
  refine wp_iload_n 1 dX9_hotel_8 rfl rfl rfl ?_
  refine wp_if_eq 17 dX9_hotel_9 (by decide) rfl (fun h3 => ?_) (fun h3 => ?_)
  · rw [if_pos h3] at K
    refine wp_aload_n 0 dX9_hotel_17 rfl rfl rfl ?_
    refine wp_getR 9 1 kcX9 kfX9_25 rfl lC_0 (congrArg Prod.fst gC_0) rC_0_1 dX9_hotel_18 rfl ?_
    refine wp_aload_n 0 dX9_hotel_21 rfl rfl rfl ?_
    refine wp_getR 9 0 kcX9 kfX9_21 rfl lC_0 (congrArg Prod.fst gC_0) rC_0_0 dX9_hotel_22 rfl ?_
    refine wp_getR 6 0 kcX6 kfX9_88 rfl lC_27 (congrArg Prod.fst gC_27) rC_27_0 dX9_hotel_25 rfl ?_
    refine wn_callVv (As := [.ref 28]) (rest := []) 5 kmX9_91 (by decide) rfl rfl (Nat.le_of_ble_eq_true rfl) lC_1 (congrArg Prod.fst gC_1) dX9_hotel_28 rfl ?_
    refine Cv.mono K (fun σ4 K => ?_)
    refine wp_aload_n 0 dX9_hotel_31 rfl rfl rfl ?_
    refine wp_getR 9 2 kcX9 kfX9_29 rfl lC_0 (congrArg Prod.fst gC_0) rC_0_2 dX9_hotel_32 rfl ?_
    refine wp_aload_n 0 dX9_hotel_35 rfl rfl rfl ?_
    refine wp_getR 9 1 kcX9 kfX9_25 rfl lC_0 (congrArg Prod.fst gC_0) rC_0_1 dX9_hotel_36 rfl ?_
    refine wn_callVv (As := [.ref 1]) (rest := []) 8 kmX9_95 (by decide) rfl rfl (Nat.le_of_ble_eq_true rfl) lC_9 (congrArg Prod.fst gC_9) dX9_hotel_39 rfl ?_
    refine Cv.mono K (fun σ5 K => ?_)
    refine wp_aload_n 0 dX9_hotel_42 rfl rfl rfl ?_
    refine wp_getR 9 3 kcX9 kfX9_36 rfl lC_0 (congrArg Prod.fst gC_0) rC_0_3 dX9_hotel_43 rfl ?_
    refine wn_callVv (As := []) (rest := []) 4 kmX9_98 (by decide) rfl rfl (Nat.le_of_ble_eq_true rfl) lC_37 (congrArg Prod.fst gC_37) dX9_hotel_46 rfl ?_
    refine Cv.mono K (fun σ6 K => ?_)
    refine wp_aload_n 0 dX9_hotel_49 rfl rfl rfl ?_
    refine wp_getR 9 7 kcX9 kfX9_66 rfl lC_0 (congrArg Prod.fst gC_0) rC_0_7 dX9_hotel_50 rfl ?_
    refine wn_callVv (As := []) (rest := []) 3 kmX9_101 (by decide) rfl rfl (Nat.le_of_ble_eq_true rfl) lC_151 (congrArg Prod.fst gC_151) dX9_hotel_53 rfl ?_
    refine Cv.mono K (fun σ7 K => ?_)
    refine wp_iconst (v := 0) dX9_hotel_56 rfl (by decide) ?_
    refine wp_istore_n [1, 2, 0] dX9_hotel_57 rfl rfl (by decide) rfl ?_
    show WP _ _ _ _ _ _ _ 58 [(0, .ref 0), (1, .int v2), (2, .int 0)] _ _ _
    refine wp_lv [0, 2] rfl ?_
    exact K
  · rw [if_neg h3] at K
    refine wp_bipush (v := (-10)) dX9_hotel_12 rfl (by decide) ?_
    refine wp_iload_n 1 dX9_hotel_14 rfl rfl rfl ?_
    refine wp_isub dX9_hotel_15 rfl ?_
    exact wp_ret .int rfl rfl (Nat.le_refl 0) (Nat.le_refl 0) dX9_hotel_16 ⟨rfl, _, rfl, K⟩
theorem eX9_hotel {E : tp_E} {d : Nat} {Q : Int32 → tp_M → Prop} {σ : tp_M}    (K : Ci E TC yX6_readAll iX6_readAll d [.ref 27] σ (fun v2 σ1 => if v2 = 0 then (Cv E TC yX5_become iX5_become d [.ref 1, .ref 28] σ1 (fun σ4 => Cv E TC yX8_open iX8_open d [.ref 9, .ref 1] σ4 (fun σ5 => Cv E TC yX4_forget iX4_forget d [.ref 37] σ5 (fun σ6 => Cv E TC yX3_clear iX3_clear d [.ref 151] σ6 (fun σ7 => Wi E TC iX9_hotel (d + 1) Q 58 [(0, .ref 0), (2, .int 0)] [] σ7))))) else (Q ((-10) - v2) σ1))) : Ci E TC yX9_hotel iX9_hotel (d + 1) [.ref 0] σ Q := Ci.of ⟨by decide +kernel, rfl, rfl⟩ (Nat.le_of_ble_eq_true rfl) (bX9_hotel_0   K)
theorem bX9_hotel_58 {E : tp_E} {d : Nat} {Q : Int32 → tp_M → Prop} {σ : tp_M}   (x2 : Int32) (K : if 2 ≤ x2 then (Q (σ 1 3) σ) else (vp_in x2 2 ∧ (∀ o3 : Nat, 15 + 6 * (Int32.toNatClampNeg x2) = o3 → (Wi E TC iX9_hotel (d + 1) Q 58 [(0, .ref 0), (2, .int (x2 + 1))] [] (tp_u σ o3 2 0))))) : Wi E TC iX9_hotel (d + 1) Q 58 [(0, .ref 0), (2, .int x2)] [] σ := by
  refine wp_iload_n 1 dX9_hotel_58 rfl rfl rfl ?_
  refine wp_aload_n 0 dX9_hotel_59 rfl rfl rfl ?_
  refine wp_getR 9 8 kcX9 kfX9_70 rfl lC_0 (congrArg Prod.fst gC_0) rC_0_8 dX9_hotel_60 rfl ?_
  refine wp_alen (v := 2) 4 (by decide) lC_14 gC_14 rfl dX9_hotel_63 rfl ?_
  refine wp_icmp_ge 83 dX9_hotel_64 (by decide) rfl (fun h1 => ?_) (fun h1 => ?_)
  · rw [if_pos h1] at K
    refine wp_aload_n 0 dX9_hotel_83 rfl rfl rfl ?_
    refine wp_getR 9 1 kcX9 kfX9_25 rfl lC_0 (congrArg Prod.fst gC_0) rC_0_1 dX9_hotel_84 rfl ?_
    refine wp_getI 5 3 kcX5 kfX9_108 rfl lC_1 (congrArg Prod.fst gC_1) dX9_hotel_87 rfl ?_
    exact wp_ret .int rfl rfl (Nat.le_refl 0) (Nat.le_refl 0) dX9_hotel_90 ⟨rfl, _, rfl, K⟩
  · rw [if_neg h1] at K
    refine wp_aload_n 0 dX9_hotel_67 rfl rfl rfl ?_
    refine wp_getR 9 8 kcX9 kfX9_70 rfl lC_0 (congrArg Prod.fst gC_0) rC_0_8 dX9_hotel_68 rfl ?_
    refine wp_iload_n 1 dX9_hotel_71 rfl rfl rfl ?_
    obtain ⟨k2, K⟩ := K
    obtain ⟨o3, hzo3⟩ : ∃ z, 15 + 6 * (Int32.toNatClampNeg x2) = z := ⟨_, rfl⟩
    have ho3 : isIm o3 := by rw [← hzo3]; exact imgs_ok k2
    refine wp_aald 4 (by decide) lC_14 (congrArg Prod.fst gC_14) (by rw [gC_14]; exact k2) ((imgs_rf k2).trans (by rw [hzo3])) dX9_hotel_72 rfl ?_
    replace K := K o3 hzo3
    refine wp_iconst (v := 0) dX9_hotel_73 rfl (by decide) ?_
    refine wp_putI 2 2 kcX2 kfX9_104 rfl rfl rfl rfl (im_l0 ho3) (congrArg Prod.fst (im_g0 ho3)) dX9_hotel_74 rfl ?_
    refine wp_iinc (v := x2 + 1) 1 [1, 0] dX9_hotel_77 rfl (by decide) rfl rfl rfl ?_
    show WP _ _ _ _ _ _ _ 80 [(0, .ref 0), (2, .int (x2 + 1))] _ _ _
    refine wp_goto 58 dX9_hotel_80 (by decide) ?_
    exact K
theorem bX9_fault_0 {E : tp_E} {d : Nat} {Q : Int32 → tp_M → Prop} {σ : tp_M}    (K : Q (σ 27 3) σ) : Wi E TC iX9_fault d Q 0 [(0, .ref 0)] [] σ := by
  refine wp_aload_n 0 dX9_fault_0 rfl rfl rfl ?_
  refine wp_getR 9 0 kcX9 kfX9_21 rfl lC_0 (congrArg Prod.fst gC_0) rC_0_0 dX9_fault_1 rfl ?_
  refine wp_getI 6 3 kcX6 kfX9_111 rfl lC_27 (congrArg Prod.fst gC_27) dX9_fault_4 rfl ?_
  exact wp_ret .int rfl rfl (Nat.le_refl 0) (Nat.le_refl 0) dX9_fault_7 ⟨rfl, _, rfl, K⟩
theorem eX9_fault {E : tp_E} {d : Nat} {Q : Int32 → tp_M → Prop} {σ : tp_M}    (K : Q (σ 27 3) σ) : Ci E TC yX9_fault iX9_fault d [.ref 0] σ Q := Ci.of ⟨by decide +kernel, rfl, rfl⟩ (Nat.le_of_ble_eq_true rfl) (bX9_fault_0   K)
theorem bX9_told_0 {E : tp_E} {d : Nat} {Q : Int32 → tp_M → Prop} {σ : tp_M}   (x1 : Int32) (K : if x1 = 0 then (Q (σ 1 0) σ) else (if x1 = 1 then (Q (σ 1 2) σ) else (if x1 = 2 then (Q (σ 1 3) σ) else (if x1 = 3 then (Q (σ 1 4) σ) else (if x1 = 4 then (Q (σ 1 5) σ) else (if x1 = 5 then (Q (σ 27 2) σ) else (if x1 = 6 then (Q (σ 9 0) σ) else (if x1 = 7 then (Q (σ 9 1) σ) else (if x1 = 8 then (Ci E TC yX8_thingsAt iX8_thingsAt d [.ref 9, .int (-2)] σ (fun v11 σ10 => Q v11 σ10)) else (if x1 = 9 then (Ci E TC yX8_thingsAt iX8_thingsAt d [.ref 9, .int (-1)] σ (fun v14 σ13 => Q v14 σ13)) else (if x1 = 10 then (Ci E TC yX8_thingsAt iX8_thingsAt d [.ref 9, .int (-2)] σ (fun v17 σ16 => Ci E TC yX5_worthOf iX5_worthOf d [.ref 1, .int v17] σ16 (fun v19 σ18 => Q v19 σ18))) else (if x1 = 11 then (Q (σ 151 7) σ) else (if x1 = 12 then (Q (σ 151 8) σ) else (if x1 = 13 then (Q (σ 37 2) σ) else (Q (-1000000002) σ))))))))))))))) : Wi E TC iX9_told (d + 1) Q 0 [(0, .ref 0), (1, .int x1)] [] σ := by
  refine wp_iload_n 1 dX9_told_0 rfl rfl rfl ?_
  by_cases h1 : x1 = 0
  · rw [if_pos h1] at K
    refine wp_tableIn 71 72 dX9_told_1 (by rw [h1]; decide) (by rw [h1]; decide) (by rw [h1]; rfl) (by decide) ?_
    refine wp_aload_n 0 dX9_told_72 rfl rfl rfl ?_
    refine wp_getR 9 1 kcX9 kfX9_25 rfl lC_0 (congrArg Prod.fst gC_0) rC_0_1 dX9_told_73 rfl ?_
    refine wp_getI 5 0 kcX5 kfX9_114 rfl lC_1 (congrArg Prod.fst gC_1) dX9_told_76 rfl ?_
    exact wp_ret .int rfl rfl (Nat.le_refl 0) (Nat.le_refl 0) dX9_told_79 ⟨rfl, _, rfl, K⟩
  rw [if_neg h1] at K
  by_cases h2 : x1 = 1
  · rw [if_pos h2] at K
    refine wp_tableIn 79 80 dX9_told_1 (by rw [h2]; decide) (by rw [h2]; decide) (by rw [h2]; rfl) (by decide) ?_
    refine wp_aload_n 0 dX9_told_80 rfl rfl rfl ?_
    refine wp_getR 9 1 kcX9 kfX9_25 rfl lC_0 (congrArg Prod.fst gC_0) rC_0_1 dX9_told_81 rfl ?_
    refine wp_getI 5 2 kcX5 kfX9_117 rfl lC_1 (congrArg Prod.fst gC_1) dX9_told_84 rfl ?_
    exact wp_ret .int rfl rfl (Nat.le_refl 0) (Nat.le_refl 0) dX9_told_87 ⟨rfl, _, rfl, K⟩
  rw [if_neg h2] at K
  by_cases h3 : x1 = 2
  · rw [if_pos h3] at K
    refine wp_tableIn 87 88 dX9_told_1 (by rw [h3]; decide) (by rw [h3]; decide) (by rw [h3]; rfl) (by decide) ?_
    refine wp_aload_n 0 dX9_told_88 rfl rfl rfl ?_
    refine wp_getR 9 1 kcX9 kfX9_25 rfl lC_0 (congrArg Prod.fst gC_0) rC_0_1 dX9_told_89 rfl ?_
    refine wp_getI 5 3 kcX5 kfX9_108 rfl lC_1 (congrArg Prod.fst gC_1) dX9_told_92 rfl ?_
    exact wp_ret .int rfl rfl (Nat.le_refl 0) (Nat.le_refl 0) dX9_told_95 ⟨rfl, _, rfl, K⟩
  rw [if_neg h3] at K
  by_cases h4 : x1 = 3
  · rw [if_pos h4] at K
    refine wp_tableIn 95 96 dX9_told_1 (by rw [h4]; decide) (by rw [h4]; decide) (by rw [h4]; rfl) (by decide) ?_
    refine wp_aload_n 0 dX9_told_96 rfl rfl rfl ?_
    refine wp_getR 9 1 kcX9 kfX9_25 rfl lC_0 (congrArg Prod.fst gC_0) rC_0_1 dX9_told_97 rfl ?_
    refine wp_getI 5 4 kcX5 kfX9_120 rfl lC_1 (congrArg Prod.fst gC_1) dX9_told_100 rfl ?_
    exact wp_ret .int rfl rfl (Nat.le_refl 0) (Nat.le_refl 0) dX9_told_103 ⟨rfl, _, rfl, K⟩
  rw [if_neg h4] at K
  by_cases h5 : x1 = 4
  · rw [if_pos h5] at K
    refine wp_tableIn 103 104 dX9_told_1 (by rw [h5]; decide) (by rw [h5]; decide) (by rw [h5]; rfl) (by decide) ?_
    refine wp_aload_n 0 dX9_told_104 rfl rfl rfl ?_
    refine wp_getR 9 1 kcX9 kfX9_25 rfl lC_0 (congrArg Prod.fst gC_0) rC_0_1 dX9_told_105 rfl ?_
    refine wp_getI 5 5 kcX5 kfX9_123 rfl lC_1 (congrArg Prod.fst gC_1) dX9_told_108 rfl ?_
    exact wp_ret .int rfl rfl (Nat.le_refl 0) (Nat.le_refl 0) dX9_told_111 ⟨rfl, _, rfl, K⟩
  rw [if_neg h5] at K
  by_cases h6 : x1 = 5
  · rw [if_pos h6] at K
    refine wp_tableIn 111 112 dX9_told_1 (by rw [h6]; decide) (by rw [h6]; decide) (by rw [h6]; rfl) (by decide) ?_
    refine wp_aload_n 0 dX9_told_112 rfl rfl rfl ?_
    refine wp_getR 9 0 kcX9 kfX9_21 rfl lC_0 (congrArg Prod.fst gC_0) rC_0_0 dX9_told_113 rfl ?_
    refine wp_getI 6 2 kcX6 kfX9_79 rfl lC_27 (congrArg Prod.fst gC_27) dX9_told_116 rfl ?_
    exact wp_ret .int rfl rfl (Nat.le_refl 0) (Nat.le_refl 0) dX9_told_119 ⟨rfl, _, rfl, K⟩
  rw [if_neg h6] at K
  by_cases h7 : x1 = 6
  · rw [if_pos h7] at K
    refine wp_tableIn 119 120 dX9_told_1 (by rw [h7]; decide) (by rw [h7]; decide) (by rw [h7]; rfl) (by decide) ?_
    refine wp_aload_n 0 dX9_told_120 rfl rfl rfl ?_
    refine wp_getR 9 2 kcX9 kfX9_29 rfl lC_0 (congrArg Prod.fst gC_0) rC_0_2 dX9_told_121 rfl ?_
    refine wp_getI 8 0 kcX8 kfX9_126 rfl lC_9 (congrArg Prod.fst gC_9) dX9_told_124 rfl ?_
    exact wp_ret .int rfl rfl (Nat.le_refl 0) (Nat.le_refl 0) dX9_told_127 ⟨rfl, _, rfl, K⟩
  rw [if_neg h7] at K
  by_cases h8 : x1 = 7
  · rw [if_pos h8] at K
    refine wp_tableIn 127 128 dX9_told_1 (by rw [h8]; decide) (by rw [h8]; decide) (by rw [h8]; rfl) (by decide) ?_
    refine wp_aload_n 0 dX9_told_128 rfl rfl rfl ?_
    refine wp_getR 9 2 kcX9 kfX9_29 rfl lC_0 (congrArg Prod.fst gC_0) rC_0_2 dX9_told_129 rfl ?_
    refine wp_getI 8 1 kcX8 kfX9_129 rfl lC_9 (congrArg Prod.fst gC_9) dX9_told_132 rfl ?_
    exact wp_ret .int rfl rfl (Nat.le_refl 0) (Nat.le_refl 0) dX9_told_135 ⟨rfl, _, rfl, K⟩
  rw [if_neg h8] at K
  by_cases h9 : x1 = 8
  · rw [if_pos h9] at K
    refine wp_tableIn 135 136 dX9_told_1 (by rw [h9]; decide) (by rw [h9]; decide) (by rw [h9]; rfl) (by decide) ?_
    refine wp_aload_n 0 dX9_told_136 rfl rfl rfl ?_
    refine wp_getR 9 2 kcX9 kfX9_29 rfl lC_0 (congrArg Prod.fst gC_0) rC_0_2 dX9_told_137 rfl ?_
    refine wp_bipush (v := (-2)) dX9_told_140 rfl (by decide) ?_
    refine wn_callVi (As := [.int (-2)]) (rest := []) 8 kmX9_132 (by decide) rfl rfl (Nat.le_of_ble_eq_true rfl) lC_9 (congrArg Prod.fst gC_9) dX9_told_142 rfl ?_
    refine Ci.mono K (fun v11 σ10 K => ?_)
    exact wp_ret .int rfl rfl (Nat.le_refl 0) (Nat.le_refl 0) dX9_told_145 ⟨rfl, _, rfl, K⟩
  rw [if_neg h9] at K
  by_cases h12 : x1 = 9
  · rw [if_pos h12] at K
    refine wp_tableIn 145 146 dX9_told_1 (by rw [h12]; decide) (by rw [h12]; decide) (by rw [h12]; rfl) (by decide) ?_
    refine wp_aload_n 0 dX9_told_146 rfl rfl rfl ?_
    refine wp_getR 9 2 kcX9 kfX9_29 rfl lC_0 (congrArg Prod.fst gC_0) rC_0_2 dX9_told_147 rfl ?_
    refine wp_iconst (v := (-1)) dX9_told_150 rfl (by decide) ?_
    refine wn_callVi (As := [.int (-1)]) (rest := []) 8 kmX9_132 (by decide) rfl rfl (Nat.le_of_ble_eq_true rfl) lC_9 (congrArg Prod.fst gC_9) dX9_told_151 rfl ?_
    refine Ci.mono K (fun v14 σ13 K => ?_)
    exact wp_ret .int rfl rfl (Nat.le_refl 0) (Nat.le_refl 0) dX9_told_154 ⟨rfl, _, rfl, K⟩
  rw [if_neg h12] at K
  by_cases h15 : x1 = 10
  · rw [if_pos h15] at K
    refine wp_tableIn 154 155 dX9_told_1 (by rw [h15]; decide) (by rw [h15]; decide) (by rw [h15]; rfl) (by decide) ?_
    refine wp_aload_n 0 dX9_told_155 rfl rfl rfl ?_
    refine wp_getR 9 1 kcX9 kfX9_25 rfl lC_0 (congrArg Prod.fst gC_0) rC_0_1 dX9_told_156 rfl ?_
    refine wp_aload_n 0 dX9_told_159 rfl rfl rfl ?_
    refine wp_getR 9 2 kcX9 kfX9_29 rfl lC_0 (congrArg Prod.fst gC_0) rC_0_2 dX9_told_160 rfl ?_
    refine wp_bipush (v := (-2)) dX9_told_163 rfl (by decide) ?_
    refine wn_callVi (As := [.int (-2)]) (rest := [.ref 1]) 8 kmX9_132 (by decide) rfl rfl (Nat.le_of_ble_eq_true rfl) lC_9 (congrArg Prod.fst gC_9) dX9_told_165 rfl ?_
    refine Ci.mono K (fun v17 σ16 K => ?_)
    refine wn_callVi (As := [.int v17]) (rest := []) 5 kmX9_136 (by decide) rfl rfl (Nat.le_of_ble_eq_true rfl) lC_1 (congrArg Prod.fst gC_1) dX9_told_168 rfl ?_
    refine Ci.mono K (fun v19 σ18 K => ?_)
    exact wp_ret .int rfl rfl (Nat.le_refl 0) (Nat.le_refl 0) dX9_told_171 ⟨rfl, _, rfl, K⟩
  rw [if_neg h15] at K
  by_cases h20 : x1 = 11
  · rw [if_pos h20] at K
    refine wp_tableIn 171 172 dX9_told_1 (by rw [h20]; decide) (by rw [h20]; decide) (by rw [h20]; rfl) (by decide) ?_
    refine wp_aload_n 0 dX9_told_172 rfl rfl rfl ?_
    refine wp_getR 9 7 kcX9 kfX9_66 rfl lC_0 (congrArg Prod.fst gC_0) rC_0_7 dX9_told_173 rfl ?_
    refine wp_getI 3 7 kcX3 kfX9_139 rfl lC_151 (congrArg Prod.fst gC_151) dX9_told_176 rfl ?_
    exact wp_ret .int rfl rfl (Nat.le_refl 0) (Nat.le_refl 0) dX9_told_179 ⟨rfl, _, rfl, K⟩
  rw [if_neg h20] at K
  by_cases h21 : x1 = 12
  · rw [if_pos h21] at K
    refine wp_tableIn 179 180 dX9_told_1 (by rw [h21]; decide) (by rw [h21]; decide) (by rw [h21]; rfl) (by decide) ?_
    refine wp_aload_n 0 dX9_told_180 rfl rfl rfl ?_
    refine wp_getR 9 7 kcX9 kfX9_66 rfl lC_0 (congrArg Prod.fst gC_0) rC_0_7 dX9_told_181 rfl ?_
    refine wp_getI 3 8 kcX3 kfX9_142 rfl lC_151 (congrArg Prod.fst gC_151) dX9_told_184 rfl ?_
    exact wp_ret .int rfl rfl (Nat.le_refl 0) (Nat.le_refl 0) dX9_told_187 ⟨rfl, _, rfl, K⟩
  rw [if_neg h21] at K
  by_cases h22 : x1 = 13
  · rw [if_pos h22] at K
    refine wp_tableIn 187 188 dX9_told_1 (by rw [h22]; decide) (by rw [h22]; decide) (by rw [h22]; rfl) (by decide) ?_
    refine wp_aload_n 0 dX9_told_188 rfl rfl rfl ?_
    refine wp_getR 9 3 kcX9 kfX9_36 rfl lC_0 (congrArg Prod.fst gC_0) rC_0_3 dX9_told_189 rfl ?_
    refine wp_getI 4 2 kcX4 kfX9_145 rfl lC_37 (congrArg Prod.fst gC_37) dX9_told_192 rfl ?_
    exact wp_ret .int rfl rfl (Nat.le_refl 0) (Nat.le_refl 0) dX9_told_195 ⟨rfl, _, rfl, K⟩
  rw [if_neg h22] at K
  refine wp_tableOut 196 dX9_told_1 (by have g0 := lv_neT h1 (a := 0) (by decide); have g1 := lv_neT h2 (a := 1) (by decide); have g2 := lv_neT h3 (a := 2) (by decide); have g3 := lv_neT h4 (a := 3) (by decide); have g4 := lv_neT h5 (a := 4) (by decide); have g5 := lv_neT h6 (a := 5) (by decide); have g6 := lv_neT h7 (a := 6) (by decide); have g7 := lv_neT h8 (a := 7) (by decide); have g8 := lv_neT h9 (a := 8) (by decide); have g9 := lv_neT h12 (a := 9) (by decide); have g10 := lv_neT h15 (a := 10) (by decide); have g11 := lv_neT h20 (a := 11) (by decide); have g12 := lv_neT h21 (a := 12) (by decide); have g13 := lv_neT h22 (a := 13) (by decide); omega) (by decide) ?_
  refine wp_ldc dX9_told_196 rfl tw_378 ?_
  exact wp_ret .int rfl rfl (Nat.le_refl 0) (Nat.le_refl 0) dX9_told_198 ⟨rfl, _, rfl, K⟩
theorem eX9_told {E : tp_E} {d : Nat} {Q : Int32 → tp_M → Prop} {σ : tp_M}   (x1 : Int32) (K : if x1 = 0 then (Q (σ 1 0) σ) else (if x1 = 1 then (Q (σ 1 2) σ) else (if x1 = 2 then (Q (σ 1 3) σ) else (if x1 = 3 then (Q (σ 1 4) σ) else (if x1 = 4 then (Q (σ 1 5) σ) else (if x1 = 5 then (Q (σ 27 2) σ) else (if x1 = 6 then (Q (σ 9 0) σ) else (if x1 = 7 then (Q (σ 9 1) σ) else (if x1 = 8 then (Ci E TC yX8_thingsAt iX8_thingsAt d [.ref 9, .int (-2)] σ (fun v11 σ10 => Q v11 σ10)) else (if x1 = 9 then (Ci E TC yX8_thingsAt iX8_thingsAt d [.ref 9, .int (-1)] σ (fun v14 σ13 => Q v14 σ13)) else (if x1 = 10 then (Ci E TC yX8_thingsAt iX8_thingsAt d [.ref 9, .int (-2)] σ (fun v17 σ16 => Ci E TC yX5_worthOf iX5_worthOf d [.ref 1, .int v17] σ16 (fun v19 σ18 => Q v19 σ18))) else (if x1 = 11 then (Q (σ 151 7) σ) else (if x1 = 12 then (Q (σ 151 8) σ) else (if x1 = 13 then (Q (σ 37 2) σ) else (Q (-1000000002) σ))))))))))))))) : Ci E TC yX9_told iX9_told (d + 1) [.ref 0, .int x1] σ Q := Ci.of ⟨by decide +kernel, rfl, rfl⟩ (Nat.le_of_ble_eq_true rfl) (bX9_told_0  x1 K)
theorem bX9_room_0 {E : tp_E} {d : Nat} {Q : Int32 → tp_M → Prop} {σ : tp_M}   (x1 : Int32) (K : Ci E TC yX5_hasRoom iX5_hasRoom d [.ref 1, .int x1] σ (fun v2 σ1 => if v2 = 0 then (Q (-1000000001) σ1) else (Ci E TC yX5_joinedTo iX5_joinedTo d [.ref 1, .int x1] σ1 (fun v5 σ4 => Q v5 σ4)))) : Wi E TC iX9_room (d + 1) Q 0 [(0, .ref 0), (1, .int x1)] [] σ := by
  refine wp_aload_n 0 dX9_room_0 rfl rfl rfl ?_
  refine wp_getR 9 1 kcX9 kfX9_25 rfl lC_0 (congrArg Prod.fst gC_0) rC_0_1 dX9_room_1 rfl ?_
  refine wp_iload_n 1 dX9_room_4 rfl rfl rfl ?_
  refine wn_callVi (As := [.int x1]) (rest := []) 5 kmX9_147 (by decide) rfl rfl (Nat.le_of_ble_eq_true rfl) lC_1 (congrArg Prod.fst gC_1) dX9_room_5 rfl ?_
  refine Ci.mono K (fun v2 σ1 K => ?_)
  refine wp_if_eq 22 dX9_room_8 (by decide) rfl (fun h3 => ?_) (fun h3 => ?_)
  · rw [if_pos h3] at K
    refine wp_ldc dX9_room_22 rfl tw_512 ?_
    exact wp_ret .int rfl rfl (Nat.le_refl 0) (Nat.le_refl 0) dX9_room_24 ⟨rfl, _, rfl, K⟩
  · rw [if_neg h3] at K
    refine wp_aload_n 0 dX9_room_11 rfl rfl rfl ?_
    refine wp_getR 9 1 kcX9 kfX9_25 rfl lC_0 (congrArg Prod.fst gC_0) rC_0_1 dX9_room_12 rfl ?_
    refine wp_iload_n 1 dX9_room_15 rfl rfl rfl ?_
    refine wn_callVi (As := [.int x1]) (rest := []) 5 kmX9_150 (by decide) rfl rfl (Nat.le_of_ble_eq_true rfl) lC_1 (congrArg Prod.fst gC_1) dX9_room_16 rfl ?_
    refine Ci.mono K (fun v5 σ4 K => ?_)
    refine wp_goto 24 dX9_room_19 (by decide) ?_
    exact wp_ret .int rfl rfl (Nat.le_refl 0) (Nat.le_refl 0) dX9_room_24 ⟨rfl, _, rfl, K⟩
theorem eX9_room {E : tp_E} {d : Nat} {Q : Int32 → tp_M → Prop} {σ : tp_M}   (x1 : Int32) (K : Ci E TC yX5_hasRoom iX5_hasRoom d [.ref 1, .int x1] σ (fun v2 σ1 => if v2 = 0 then (Q (-1000000001) σ1) else (Ci E TC yX5_joinedTo iX5_joinedTo d [.ref 1, .int x1] σ1 (fun v5 σ4 => Q v5 σ4)))) : Ci E TC yX9_room iX9_room (d + 1) [.ref 0, .int x1] σ Q := Ci.of ⟨by decide +kernel, rfl, rfl⟩ (Nat.le_of_ble_eq_true rfl) (bX9_room_0  x1 K)
theorem bX9_waiter_0 {E : tp_E} {d : Nat} {Q : Int32 → tp_M → Prop} {σ : tp_M}   (x1 : Int32) (x2 : Int32) (K : Ci E TC yX5_hasWaiter iX5_hasWaiter d [.ref 1, .int x1] σ (fun v2 σ1 => if v2 = 0 then (Q (-1000000001) σ1) else (if x2 = 0 then (Ci E TC yX8_roomOf iX8_roomOf d [.ref 9, .int x1] σ1 (fun v6 σ5 => Q v6 σ5)) else (if x2 = 1 then (vp_in x1 4 ∧ (Q (σ1 4 (Int32.toNatClampNeg x1)) σ1)) else (if x2 = 2 then (Ci E TC yX9_sideOf iX9_sideOf d [.int x1, .int 0] σ1 (fun v11 σ10 => Ci E TC yX8_thingsAt iX8_thingsAt d [.ref 9, .int v11] σ10 (fun v13 σ12 => Q v13 σ12))) else (if x2 = 3 then (Ci E TC yX9_sideOf iX9_sideOf d [.int x1, .int 1] σ1 (fun v16 σ15 => Ci E TC yX8_thingsAt iX8_thingsAt d [.ref 9, .int v16] σ15 (fun v18 σ17 => Q v18 σ17))) else (if x2 = 4 then (Ci E TC yX8_thingsOf iX8_thingsOf d [.ref 9, .int x1] σ1 (fun v21 σ20 => Ci E TC yX5_weightOf iX5_weightOf d [.ref 1, .int v21] σ20 (fun v23 σ22 => Q v23 σ22))) else (if x2 = 5 then (Ci E TC yX0_slant iX0_slant d [.ref 139, .int x1] σ1 (fun v26 σ25 => Q v26 σ25)) else (if x2 = 6 then (Ci E TC yX8_routeOf iX8_routeOf d [.ref 9, .int x1] σ1 (fun v29 σ28 => Ci E TC yX9_stepsOf iX9_stepsOf d [.int v29] σ28 (fun v31 σ30 => Q v31 σ30))) else (if x2 = 7 then (Ci E TC yX8_treatiesOf iX8_treatiesOf d [.ref 9, .int x1] σ1 (fun v34 σ33 => Q v34 σ33)) else (Q (-1000000002) σ1))))))))))) : Wi E TC iX9_waiter (d + 1) Q 0 [(0, .ref 0), (1, .int x1), (2, .int x2)] [] σ := by
  refine wp_aload_n 0 dX9_waiter_0 rfl rfl rfl ?_
  refine wp_getR 9 1 kcX9 kfX9_25 rfl lC_0 (congrArg Prod.fst gC_0) rC_0_1 dX9_waiter_1 rfl ?_
  refine wp_iload_n 1 dX9_waiter_4 rfl rfl rfl ?_
  refine wn_callVi (As := [.int x1]) (rest := []) 5 kmX9_154 (by decide) rfl rfl (Nat.le_of_ble_eq_true rfl) lC_1 (congrArg Prod.fst gC_1) dX9_waiter_5 rfl ?_
  refine Ci.mono K (fun v2 σ1 K => ?_)
  refine wp_if_ne 14 dX9_waiter_8 (by decide) rfl (fun h3 => ?_) (fun h3 => ?_)
  · rw [if_neg h3] at K
    refine wp_iload_n 2 dX9_waiter_14 rfl rfl rfl ?_
    by_cases h4 : x2 = 0
    · rw [if_pos h4] at K
      refine wp_tableIn 45 60 dX9_waiter_15 (by rw [h4]; decide) (by rw [h4]; decide) (by rw [h4]; rfl) (by decide) ?_
      refine wp_aload_n 0 dX9_waiter_60 rfl rfl rfl ?_
      refine wp_getR 9 2 kcX9 kfX9_29 rfl lC_0 (congrArg Prod.fst gC_0) rC_0_2 dX9_waiter_61 rfl ?_
      refine wp_iload_n 1 dX9_waiter_64 rfl rfl rfl ?_
      refine wn_callVi (As := [.int x1]) (rest := []) 8 kmX9_157 (by decide) rfl rfl (Nat.le_of_ble_eq_true rfl) lC_9 (congrArg Prod.fst gC_9) dX9_waiter_65 rfl ?_
      refine Ci.mono K (fun v6 σ5 K => ?_)
      exact wp_ret .int rfl rfl (Nat.le_refl 0) (Nat.le_refl 0) dX9_waiter_68 ⟨rfl, _, rfl, K⟩
    rw [if_neg h4] at K
    by_cases h7 : x2 = 1
    · rw [if_pos h7] at K
      refine wp_tableIn 54 69 dX9_waiter_15 (by rw [h7]; decide) (by rw [h7]; decide) (by rw [h7]; rfl) (by decide) ?_
      refine wp_aload_n 0 dX9_waiter_69 rfl rfl rfl ?_
      refine wp_getR 9 1 kcX9 kfX9_25 rfl lC_0 (congrArg Prod.fst gC_0) rC_0_1 dX9_waiter_70 rfl ?_
      refine wp_getR 5 8 kcX5 kfX9_160 rfl lC_1 (congrArg Prod.fst gC_1) rC_1_8 dX9_waiter_73 rfl ?_
      refine wp_iload_n 1 dX9_waiter_76 rfl rfl rfl ?_
      obtain ⟨k8, K⟩ := K
      refine wn_iald lC_4 gC_4 k8 dX9_waiter_77 rfl ?_
      exact wp_ret .int rfl rfl (Nat.le_refl 0) (Nat.le_refl 0) dX9_waiter_78 ⟨rfl, _, rfl, K⟩
    rw [if_neg h7] at K
    by_cases h9 : x2 = 2
    · rw [if_pos h9] at K
      refine wp_tableIn 64 79 dX9_waiter_15 (by rw [h9]; decide) (by rw [h9]; decide) (by rw [h9]; rfl) (by decide) ?_
      refine wp_aload_n 0 dX9_waiter_79 rfl rfl rfl ?_
      refine wp_getR 9 2 kcX9 kfX9_29 rfl lC_0 (congrArg Prod.fst gC_0) rC_0_2 dX9_waiter_80 rfl ?_
      refine wp_iload_n 1 dX9_waiter_83 rfl rfl rfl ?_
      refine wp_iconst (v := 0) dX9_waiter_84 rfl (by decide) ?_
      refine wn_callSi (As := [.int x1, .int 0]) (rest := [.ref 9]) kmX9_164 (by decide) rfl rfl (Nat.le_of_ble_eq_true rfl) dX9_waiter_85 rfl ?_
      refine Ci.mono K (fun v11 σ10 K => ?_)
      refine wn_callVi (As := [.int v11]) (rest := []) 8 kmX9_132 (by decide) rfl rfl (Nat.le_of_ble_eq_true rfl) lC_9 (congrArg Prod.fst gC_9) dX9_waiter_88 rfl ?_
      refine Ci.mono K (fun v13 σ12 K => ?_)
      exact wp_ret .int rfl rfl (Nat.le_refl 0) (Nat.le_refl 0) dX9_waiter_91 ⟨rfl, _, rfl, K⟩
    rw [if_neg h9] at K
    by_cases h14 : x2 = 3
    · rw [if_pos h14] at K
      refine wp_tableIn 77 92 dX9_waiter_15 (by rw [h14]; decide) (by rw [h14]; decide) (by rw [h14]; rfl) (by decide) ?_
      refine wp_aload_n 0 dX9_waiter_92 rfl rfl rfl ?_
      refine wp_getR 9 2 kcX9 kfX9_29 rfl lC_0 (congrArg Prod.fst gC_0) rC_0_2 dX9_waiter_93 rfl ?_
      refine wp_iload_n 1 dX9_waiter_96 rfl rfl rfl ?_
      refine wp_iconst (v := 1) dX9_waiter_97 rfl (by decide) ?_
      refine wn_callSi (As := [.int x1, .int 1]) (rest := [.ref 9]) kmX9_164 (by decide) rfl rfl (Nat.le_of_ble_eq_true rfl) dX9_waiter_98 rfl ?_
      refine Ci.mono K (fun v16 σ15 K => ?_)
      refine wn_callVi (As := [.int v16]) (rest := []) 8 kmX9_132 (by decide) rfl rfl (Nat.le_of_ble_eq_true rfl) lC_9 (congrArg Prod.fst gC_9) dX9_waiter_101 rfl ?_
      refine Ci.mono K (fun v18 σ17 K => ?_)
      exact wp_ret .int rfl rfl (Nat.le_refl 0) (Nat.le_refl 0) dX9_waiter_104 ⟨rfl, _, rfl, K⟩
    rw [if_neg h14] at K
    by_cases h19 : x2 = 4
    · rw [if_pos h19] at K
      refine wp_tableIn 90 105 dX9_waiter_15 (by rw [h19]; decide) (by rw [h19]; decide) (by rw [h19]; rfl) (by decide) ?_
      refine wp_aload_n 0 dX9_waiter_105 rfl rfl rfl ?_
      refine wp_getR 9 1 kcX9 kfX9_25 rfl lC_0 (congrArg Prod.fst gC_0) rC_0_1 dX9_waiter_106 rfl ?_
      refine wp_aload_n 0 dX9_waiter_109 rfl rfl rfl ?_
      refine wp_getR 9 2 kcX9 kfX9_29 rfl lC_0 (congrArg Prod.fst gC_0) rC_0_2 dX9_waiter_110 rfl ?_
      refine wp_iload_n 1 dX9_waiter_113 rfl rfl rfl ?_
      refine wn_callVi (As := [.int x1]) (rest := [.ref 1]) 8 kmX9_168 (by decide) rfl rfl (Nat.le_of_ble_eq_true rfl) lC_9 (congrArg Prod.fst gC_9) dX9_waiter_114 rfl ?_
      refine Ci.mono K (fun v21 σ20 K => ?_)
      refine wn_callVi (As := [.int v21]) (rest := []) 5 kmX9_171 (by decide) rfl rfl (Nat.le_of_ble_eq_true rfl) lC_1 (congrArg Prod.fst gC_1) dX9_waiter_117 rfl ?_
      refine Ci.mono K (fun v23 σ22 K => ?_)
      exact wp_ret .int rfl rfl (Nat.le_refl 0) (Nat.le_refl 0) dX9_waiter_120 ⟨rfl, _, rfl, K⟩
    rw [if_neg h19] at K
    by_cases h24 : x2 = 5
    · rw [if_pos h24] at K
      refine wp_tableIn 106 121 dX9_waiter_15 (by rw [h24]; decide) (by rw [h24]; decide) (by rw [h24]; rfl) (by decide) ?_
      refine wp_aload_n 0 dX9_waiter_121 rfl rfl rfl ?_
      refine wp_getR 9 4 kcX9 kfX9_45 rfl lC_0 (congrArg Prod.fst gC_0) rC_0_4 dX9_waiter_122 rfl ?_
      refine wp_iload_n 1 dX9_waiter_125 rfl rfl rfl ?_
      refine wn_callVi (As := [.int x1]) (rest := []) 0 kmX9_174 (by decide) rfl rfl (Nat.le_of_ble_eq_true rfl) lC_139 (congrArg Prod.fst gC_139) dX9_waiter_126 rfl ?_
      refine Ci.mono K (fun v26 σ25 K => ?_)
      exact wp_ret .int rfl rfl (Nat.le_refl 0) (Nat.le_refl 0) dX9_waiter_129 ⟨rfl, _, rfl, K⟩
    rw [if_neg h24] at K
    by_cases h27 : x2 = 6
    · rw [if_pos h27] at K
      refine wp_tableIn 115 130 dX9_waiter_15 (by rw [h27]; decide) (by rw [h27]; decide) (by rw [h27]; rfl) (by decide) ?_
      refine wp_aload_n 0 dX9_waiter_130 rfl rfl rfl ?_
      refine wp_getR 9 2 kcX9 kfX9_29 rfl lC_0 (congrArg Prod.fst gC_0) rC_0_2 dX9_waiter_131 rfl ?_
      refine wp_iload_n 1 dX9_waiter_134 rfl rfl rfl ?_
      refine wn_callVi (As := [.int x1]) (rest := []) 8 kmX9_177 (by decide) rfl rfl (Nat.le_of_ble_eq_true rfl) lC_9 (congrArg Prod.fst gC_9) dX9_waiter_135 rfl ?_
      refine Ci.mono K (fun v29 σ28 K => ?_)
      refine wn_callSi (As := [.int v29]) (rest := []) kmX9_180 (by decide) rfl rfl (Nat.le_of_ble_eq_true rfl) dX9_waiter_138 rfl ?_
      refine Ci.mono K (fun v31 σ30 K => ?_)
      exact wp_ret .int rfl rfl (Nat.le_refl 0) (Nat.le_refl 0) dX9_waiter_141 ⟨rfl, _, rfl, K⟩
    rw [if_neg h27] at K
    by_cases h32 : x2 = 7
    · rw [if_pos h32] at K
      refine wp_tableIn 127 142 dX9_waiter_15 (by rw [h32]; decide) (by rw [h32]; decide) (by rw [h32]; rfl) (by decide) ?_
      refine wp_aload_n 0 dX9_waiter_142 rfl rfl rfl ?_
      refine wp_getR 9 2 kcX9 kfX9_29 rfl lC_0 (congrArg Prod.fst gC_0) rC_0_2 dX9_waiter_143 rfl ?_
      refine wp_iload_n 1 dX9_waiter_146 rfl rfl rfl ?_
      refine wn_callVi (As := [.int x1]) (rest := []) 8 kmX9_183 (by decide) rfl rfl (Nat.le_of_ble_eq_true rfl) lC_9 (congrArg Prod.fst gC_9) dX9_waiter_147 rfl ?_
      refine Ci.mono K (fun v34 σ33 K => ?_)
      exact wp_ret .int rfl rfl (Nat.le_refl 0) (Nat.le_refl 0) dX9_waiter_150 ⟨rfl, _, rfl, K⟩
    rw [if_neg h32] at K
    refine wp_tableOut 151 dX9_waiter_15 (by have g0 := lv_neT h4 (a := 0) (by decide); have g1 := lv_neT h7 (a := 1) (by decide); have g2 := lv_neT h9 (a := 2) (by decide); have g3 := lv_neT h14 (a := 3) (by decide); have g4 := lv_neT h19 (a := 4) (by decide); have g5 := lv_neT h24 (a := 5) (by decide); have g6 := lv_neT h27 (a := 6) (by decide); have g7 := lv_neT h32 (a := 7) (by decide); omega) (by decide) ?_
    refine wp_ldc dX9_waiter_151 rfl tw_378 ?_
    exact wp_ret .int rfl rfl (Nat.le_refl 0) (Nat.le_refl 0) dX9_waiter_153 ⟨rfl, _, rfl, K⟩
  · rw [if_pos h3] at K
    refine wp_ldc dX9_waiter_11 rfl tw_512 ?_
    exact wp_ret .int rfl rfl (Nat.le_refl 0) (Nat.le_refl 0) dX9_waiter_13 ⟨rfl, _, rfl, K⟩
theorem eX9_waiter {E : tp_E} {d : Nat} {Q : Int32 → tp_M → Prop} {σ : tp_M}   (x1 : Int32) (x2 : Int32) (K : Ci E TC yX5_hasWaiter iX5_hasWaiter d [.ref 1, .int x1] σ (fun v2 σ1 => if v2 = 0 then (Q (-1000000001) σ1) else (if x2 = 0 then (Ci E TC yX8_roomOf iX8_roomOf d [.ref 9, .int x1] σ1 (fun v6 σ5 => Q v6 σ5)) else (if x2 = 1 then (vp_in x1 4 ∧ (Q (σ1 4 (Int32.toNatClampNeg x1)) σ1)) else (if x2 = 2 then (Ci E TC yX9_sideOf iX9_sideOf d [.int x1, .int 0] σ1 (fun v11 σ10 => Ci E TC yX8_thingsAt iX8_thingsAt d [.ref 9, .int v11] σ10 (fun v13 σ12 => Q v13 σ12))) else (if x2 = 3 then (Ci E TC yX9_sideOf iX9_sideOf d [.int x1, .int 1] σ1 (fun v16 σ15 => Ci E TC yX8_thingsAt iX8_thingsAt d [.ref 9, .int v16] σ15 (fun v18 σ17 => Q v18 σ17))) else (if x2 = 4 then (Ci E TC yX8_thingsOf iX8_thingsOf d [.ref 9, .int x1] σ1 (fun v21 σ20 => Ci E TC yX5_weightOf iX5_weightOf d [.ref 1, .int v21] σ20 (fun v23 σ22 => Q v23 σ22))) else (if x2 = 5 then (Ci E TC yX0_slant iX0_slant d [.ref 139, .int x1] σ1 (fun v26 σ25 => Q v26 σ25)) else (if x2 = 6 then (Ci E TC yX8_routeOf iX8_routeOf d [.ref 9, .int x1] σ1 (fun v29 σ28 => Ci E TC yX9_stepsOf iX9_stepsOf d [.int v29] σ28 (fun v31 σ30 => Q v31 σ30))) else (if x2 = 7 then (Ci E TC yX8_treatiesOf iX8_treatiesOf d [.ref 9, .int x1] σ1 (fun v34 σ33 => Q v34 σ33)) else (Q (-1000000002) σ1))))))))))) : Ci E TC yX9_waiter iX9_waiter (d + 1) [.ref 0, .int x1, .int x2] σ Q := Ci.of ⟨by decide +kernel, rfl, rfl⟩ (Nat.le_of_ble_eq_true rfl) (bX9_waiter_0  x1 x2 K)
theorem bX9_thing_0 {E : tp_E} {d : Nat} {Q : Int32 → tp_M → Prop} {σ : tp_M}   (x1 : Int32) (x2 : Int32) (K : Ci E TC yX5_hasThing iX5_hasThing d [.ref 1, .int x1] σ (fun v2 σ1 => if v2 = 0 then (Q (-1000000001) σ1) else (if x2 = 0 then (vp_in x1 8 ∧ (Q (σ1 5 (Int32.toNatClampNeg x1)) σ1)) else (if x2 = 1 then (vp_in x1 8 ∧ (Q (σ1 6 (Int32.toNatClampNeg x1)) σ1)) else (if x2 = 2 then (Ci E TC yX8_bearerOf iX8_bearerOf d [.ref 9, .int x1] σ1 (fun v10 σ9 => Q v10 σ9)) else (Q (-1000000002) σ1)))))) : Wi E TC iX9_thing (d + 1) Q 0 [(0, .ref 0), (1, .int x1), (2, .int x2)] [] σ := by
  refine wp_aload_n 0 dX9_thing_0 rfl rfl rfl ?_
  refine wp_getR 9 1 kcX9 kfX9_25 rfl lC_0 (congrArg Prod.fst gC_0) rC_0_1 dX9_thing_1 rfl ?_
  refine wp_iload_n 1 dX9_thing_4 rfl rfl rfl ?_
  refine wn_callVi (As := [.int x1]) (rest := []) 5 kmX9_186 (by decide) rfl rfl (Nat.le_of_ble_eq_true rfl) lC_1 (congrArg Prod.fst gC_1) dX9_thing_5 rfl ?_
  refine Ci.mono K (fun v2 σ1 K => ?_)
  refine wp_if_ne 14 dX9_thing_8 (by decide) rfl (fun h3 => ?_) (fun h3 => ?_)
  · rw [if_neg h3] at K
    refine wp_iload_n 2 dX9_thing_14 rfl rfl rfl ?_
    by_cases h4 : x2 = 0
    · rw [if_pos h4] at K
      refine wp_tableIn 25 40 dX9_thing_15 (by rw [h4]; decide) (by rw [h4]; decide) (by rw [h4]; rfl) (by decide) ?_
      refine wp_aload_n 0 dX9_thing_40 rfl rfl rfl ?_
      refine wp_getR 9 1 kcX9 kfX9_25 rfl lC_0 (congrArg Prod.fst gC_0) rC_0_1 dX9_thing_41 rfl ?_
      refine wp_getR 5 9 kcX5 kfX9_189 rfl lC_1 (congrArg Prod.fst gC_1) rC_1_9 dX9_thing_44 rfl ?_
      refine wp_iload_n 1 dX9_thing_47 rfl rfl rfl ?_
      obtain ⟨k5, K⟩ := K
      refine wn_iald lC_5 gC_5 k5 dX9_thing_48 rfl ?_
      exact wp_ret .int rfl rfl (Nat.le_refl 0) (Nat.le_refl 0) dX9_thing_49 ⟨rfl, _, rfl, K⟩
    rw [if_neg h4] at K
    by_cases h6 : x2 = 1
    · rw [if_pos h6] at K
      refine wp_tableIn 35 50 dX9_thing_15 (by rw [h6]; decide) (by rw [h6]; decide) (by rw [h6]; rfl) (by decide) ?_
      refine wp_aload_n 0 dX9_thing_50 rfl rfl rfl ?_
      refine wp_getR 9 1 kcX9 kfX9_25 rfl lC_0 (congrArg Prod.fst gC_0) rC_0_1 dX9_thing_51 rfl ?_
      refine wp_getR 5 10 kcX5 kfX9_192 rfl lC_1 (congrArg Prod.fst gC_1) rC_1_10 dX9_thing_54 rfl ?_
      refine wp_iload_n 1 dX9_thing_57 rfl rfl rfl ?_
      obtain ⟨k7, K⟩ := K
      refine wn_iald lC_6 gC_6 k7 dX9_thing_58 rfl ?_
      exact wp_ret .int rfl rfl (Nat.le_refl 0) (Nat.le_refl 0) dX9_thing_59 ⟨rfl, _, rfl, K⟩
    rw [if_neg h6] at K
    by_cases h8 : x2 = 2
    · rw [if_pos h8] at K
      refine wp_tableIn 45 60 dX9_thing_15 (by rw [h8]; decide) (by rw [h8]; decide) (by rw [h8]; rfl) (by decide) ?_
      refine wp_aload_n 0 dX9_thing_60 rfl rfl rfl ?_
      refine wp_getR 9 2 kcX9 kfX9_29 rfl lC_0 (congrArg Prod.fst gC_0) rC_0_2 dX9_thing_61 rfl ?_
      refine wp_iload_n 1 dX9_thing_64 rfl rfl rfl ?_
      refine wn_callVi (As := [.int x1]) (rest := []) 8 kmX9_195 (by decide) rfl rfl (Nat.le_of_ble_eq_true rfl) lC_9 (congrArg Prod.fst gC_9) dX9_thing_65 rfl ?_
      refine Ci.mono K (fun v10 σ9 K => ?_)
      exact wp_ret .int rfl rfl (Nat.le_refl 0) (Nat.le_refl 0) dX9_thing_68 ⟨rfl, _, rfl, K⟩
    rw [if_neg h8] at K
    refine wp_tableOut 69 dX9_thing_15 (by have g0 := lv_neT h4 (a := 0) (by decide); have g1 := lv_neT h6 (a := 1) (by decide); have g2 := lv_neT h8 (a := 2) (by decide); omega) (by decide) ?_
    refine wp_ldc dX9_thing_69 rfl tw_378 ?_
    exact wp_ret .int rfl rfl (Nat.le_refl 0) (Nat.le_refl 0) dX9_thing_71 ⟨rfl, _, rfl, K⟩
  · rw [if_pos h3] at K
    refine wp_ldc dX9_thing_11 rfl tw_512 ?_
    exact wp_ret .int rfl rfl (Nat.le_refl 0) (Nat.le_refl 0) dX9_thing_13 ⟨rfl, _, rfl, K⟩
theorem eX9_thing {E : tp_E} {d : Nat} {Q : Int32 → tp_M → Prop} {σ : tp_M}   (x1 : Int32) (x2 : Int32) (K : Ci E TC yX5_hasThing iX5_hasThing d [.ref 1, .int x1] σ (fun v2 σ1 => if v2 = 0 then (Q (-1000000001) σ1) else (if x2 = 0 then (vp_in x1 8 ∧ (Q (σ1 5 (Int32.toNatClampNeg x1)) σ1)) else (if x2 = 1 then (vp_in x1 8 ∧ (Q (σ1 6 (Int32.toNatClampNeg x1)) σ1)) else (if x2 = 2 then (Ci E TC yX8_bearerOf iX8_bearerOf d [.ref 9, .int x1] σ1 (fun v10 σ9 => Q v10 σ9)) else (Q (-1000000002) σ1)))))) : Ci E TC yX9_thing iX9_thing (d + 1) [.ref 0, .int x1, .int x2] σ Q := Ci.of ⟨by decide +kernel, rfl, rfl⟩ (Nat.le_of_ble_eq_true rfl) (bX9_thing_0  x1 x2 K)
theorem bX9_minute_0 {E : tp_E} {d : Nat} {Q : Int32 → tp_M → Prop} {σ : tp_M}   (x1 : Int32) (K : Ci E TC yX9_refusalOfMinutes iX9_refusalOfMinutes d [.ref 0, .int x1] σ (fun v2 σ1 => if v2 = 0 then (Cv E TC yX4_remember iX4_remember d [.ref 37, .ref 9] σ1 (fun σ4 => Wi E TC iX9_minute (d + 1) Q 25 [(0, .ref 0), (1, .int x1), (3, .int 0)] [] σ4)) else (Q v2 σ1))) : Wi E TC iX9_minute (d + 1) Q 0 [(0, .ref 0), (1, .int x1)] [] σ := by
  refine wp_aload_n 0 dX9_minute_0 rfl rfl rfl ?_
  refine wp_iload_n 1 dX9_minute_1 rfl rfl rfl ?_
  refine wn_callVi (As := [.int x1]) (rest := []) 9 kmX9_198 (by decide) rfl rfl (Nat.le_of_ble_eq_true rfl) lC_0 (congrArg Prod.fst gC_0) dX9_minute_2 rfl ?_
  refine Ci.mono K (fun v2 σ1 K => ?_)
  refine wp_istore_n [1, 2, 0] dX9_minute_5 rfl rfl (by decide) rfl ?_
  show WP _ _ _ _ _ _ _ 6 [(0, .ref 0), (1, .int x1), (2, .int v2)] _ _ _
  refine wp_iload_n 2 dX9_minute_6 rfl rfl rfl ?_
  refine wp_if_eq 12 dX9_minute_7 (by decide) rfl (fun h3 => ?_) (fun h3 => ?_)
  · rw [if_pos h3] at K
    refine wp_aload_n 0 dX9_minute_12 rfl rfl rfl ?_
    refine wp_getR 9 3 kcX9 kfX9_36 rfl lC_0 (congrArg Prod.fst gC_0) rC_0_3 dX9_minute_13 rfl ?_
    refine wp_aload_n 0 dX9_minute_16 rfl rfl rfl ?_
    refine wp_getR 9 2 kcX9 kfX9_29 rfl lC_0 (congrArg Prod.fst gC_0) rC_0_2 dX9_minute_17 rfl ?_
    refine wn_callVv (As := [.ref 9]) (rest := []) 4 kmX9_201 (by decide) rfl rfl (Nat.le_of_ble_eq_true rfl) lC_37 (congrArg Prod.fst gC_37) dX9_minute_20 rfl ?_
    refine Cv.mono K (fun σ4 K => ?_)
    refine wp_iconst (v := 0) dX9_minute_23 rfl (by decide) ?_
    refine wp_istore_n [1, 2, 3, 0] dX9_minute_24 rfl rfl (by decide) rfl ?_
    show WP _ _ _ _ _ _ _ 25 [(0, .ref 0), (1, .int x1), (2, .int v2), (3, .int 0)] _ _ _
    refine wp_lv [0, 1, 3] rfl ?_
    exact K
  · rw [if_neg h3] at K
    refine wp_iload_n 2 dX9_minute_10 rfl rfl rfl ?_
    exact wp_ret .int rfl rfl (Nat.le_refl 0) (Nat.le_refl 0) dX9_minute_11 ⟨rfl, _, rfl, K⟩
theorem eX9_minute {E : tp_E} {d : Nat} {Q : Int32 → tp_M → Prop} {σ : tp_M}   (x1 : Int32) (K : Ci E TC yX9_refusalOfMinutes iX9_refusalOfMinutes d [.ref 0, .int x1] σ (fun v2 σ1 => if v2 = 0 then (Cv E TC yX4_remember iX4_remember d [.ref 37, .ref 9] σ1 (fun σ4 => Wi E TC iX9_minute (d + 1) Q 25 [(0, .ref 0), (1, .int x1), (3, .int 0)] [] σ4)) else (Q v2 σ1))) : Ci E TC yX9_minute iX9_minute (d + 1) [.ref 0, .int x1] σ Q := Ci.of ⟨by decide +kernel, rfl, rfl⟩ (Nat.le_of_ble_eq_true rfl) (bX9_minute_0  x1 K)
theorem bX9_minute_25 {E : tp_E} {d : Nat} {Q : Int32 → tp_M → Prop} {σ : tp_M}   (x1 : Int32) (x3 : Int32) (K : if x1 ≤ x3 then (Q (σ 9 0) σ) else (Cv E TC yX0_tick iX0_tick d [.ref 139] σ (fun σ2 => Wi E TC iX9_minute (d + 1) Q 25 [(0, .ref 0), (1, .int x1), (3, .int (x3 + 1))] [] σ2))) : Wi E TC iX9_minute (d + 1) Q 25 [(0, .ref 0), (1, .int x1), (3, .int x3)] [] σ := by
  refine wp_iload_n 2 dX9_minute_25 rfl rfl rfl ?_
  refine wp_iload_n 1 dX9_minute_26 rfl rfl rfl ?_
  refine wp_icmp_ge 43 dX9_minute_27 (by decide) rfl (fun h1 => ?_) (fun h1 => ?_)
  · rw [if_pos h1] at K
    refine wp_aload_n 0 dX9_minute_43 rfl rfl rfl ?_
    refine wp_getR 9 2 kcX9 kfX9_29 rfl lC_0 (congrArg Prod.fst gC_0) rC_0_2 dX9_minute_44 rfl ?_
    refine wp_getI 8 0 kcX8 kfX9_126 rfl lC_9 (congrArg Prod.fst gC_9) dX9_minute_47 rfl ?_
    exact wp_ret .int rfl rfl (Nat.le_refl 0) (Nat.le_refl 0) dX9_minute_50 ⟨rfl, _, rfl, K⟩
  · rw [if_neg h1] at K
    refine wp_aload_n 0 dX9_minute_30 rfl rfl rfl ?_
    refine wp_getR 9 4 kcX9 kfX9_45 rfl lC_0 (congrArg Prod.fst gC_0) rC_0_4 dX9_minute_31 rfl ?_
    refine wn_callVv (As := []) (rest := []) 0 kmX9_205 (by decide) rfl rfl (Nat.le_of_ble_eq_true rfl) lC_139 (congrArg Prod.fst gC_139) dX9_minute_34 rfl ?_
    refine Cv.mono K (fun σ2 K => ?_)
    refine wp_iinc (v := x3 + 1) 2 [1, 2, 0] dX9_minute_37 rfl (by decide) rfl rfl rfl ?_
    show WP _ _ _ _ _ _ _ 40 [(0, .ref 0), (1, .int x1), (3, .int (x3 + 1))] _ _ _
    refine wp_goto 25 dX9_minute_40 (by decide) ?_
    exact K
theorem bX9_refusalOfMinutes_0 {E : tp_E} {d : Nat} {Q : Int32 → tp_M → Prop} {σ : tp_M}   (x1 : Int32) (K : if x1 < 1 then (Q (-1000000002) σ) else (if x1 ≤ 60 then (if (σ 1 0) = 0 then (Q (-1000000003) σ) else (if (σ 9 0) ≤ 9000 then (Q 0 σ) else (Q (-1000000004) σ))) else (Q (-1000000002) σ))) : Wi E TC iX9_refusalOfMinutes d Q 0 [(0, .ref 0), (1, .int x1)] [] σ := by
  refine wp_iload_n 1 dX9_refusalOfMinutes_0 rfl rfl rfl ?_
  refine wp_iconst (v := 1) dX9_refusalOfMinutes_1 rfl (by decide) ?_
  refine wp_icmp_lt 11 dX9_refusalOfMinutes_2 (by decide) rfl (fun h1 => ?_) (fun h1 => ?_)
  · rw [if_pos h1] at K
    refine wp_ldc dX9_refusalOfMinutes_11 rfl tw_378 ?_
    exact wp_ret .int rfl rfl (Nat.le_refl 0) (Nat.le_refl 0) dX9_refusalOfMinutes_13 ⟨rfl, _, rfl, K⟩
  · rw [if_neg h1] at K
    refine wp_iload_n 1 dX9_refusalOfMinutes_5 rfl rfl rfl ?_
    refine wp_bipush (v := 60) dX9_refusalOfMinutes_6 rfl (by decide) ?_
    refine wp_icmp_le 14 dX9_refusalOfMinutes_8 (by decide) rfl (fun h2 => ?_) (fun h2 => ?_)
    · rw [if_pos h2] at K
      refine wp_aload_n 0 dX9_refusalOfMinutes_14 rfl rfl rfl ?_
      refine wp_getR 9 1 kcX9 kfX9_25 rfl lC_0 (congrArg Prod.fst gC_0) rC_0_1 dX9_refusalOfMinutes_15 rfl ?_
      refine wp_getI 5 0 kcX5 kfX9_114 rfl lC_1 (congrArg Prod.fst gC_1) dX9_refusalOfMinutes_18 rfl ?_
      refine wp_if_ne 27 dX9_refusalOfMinutes_21 (by decide) rfl (fun h3 => ?_) (fun h3 => ?_)
      · rw [if_neg h3] at K
        refine wp_aload_n 0 dX9_refusalOfMinutes_27 rfl rfl rfl ?_
        refine wp_getR 9 2 kcX9 kfX9_29 rfl lC_0 (congrArg Prod.fst gC_0) rC_0_2 dX9_refusalOfMinutes_28 rfl ?_
        refine wp_getI 8 0 kcX8 kfX9_126 rfl lC_9 (congrArg Prod.fst gC_9) dX9_refusalOfMinutes_31 rfl ?_
        refine wp_sipush (v := 9000) dX9_refusalOfMinutes_34 rfl (by decide) ?_
        refine wp_icmp_le 45 dX9_refusalOfMinutes_37 (by decide) rfl (fun h4 => ?_) (fun h4 => ?_)
        · rw [if_pos h4] at K
          refine wp_iconst (v := 0) dX9_refusalOfMinutes_45 rfl (by decide) ?_
          exact wp_ret .int rfl rfl (Nat.le_refl 0) (Nat.le_refl 0) dX9_refusalOfMinutes_46 ⟨rfl, _, rfl, K⟩
        · rw [if_neg h4] at K
          refine wp_ldc dX9_refusalOfMinutes_40 rfl tw_383 ?_
          refine wp_goto 46 dX9_refusalOfMinutes_42 (by decide) ?_
          exact wp_ret .int rfl rfl (Nat.le_refl 0) (Nat.le_refl 0) dX9_refusalOfMinutes_46 ⟨rfl, _, rfl, K⟩
      · rw [if_pos h3] at K
        refine wp_ldc dX9_refusalOfMinutes_24 rfl tw_591 ?_
        exact wp_ret .int rfl rfl (Nat.le_refl 0) (Nat.le_refl 0) dX9_refusalOfMinutes_26 ⟨rfl, _, rfl, K⟩
    · rw [if_neg h2] at K
      refine wp_ldc dX9_refusalOfMinutes_11 rfl tw_378 ?_
      exact wp_ret .int rfl rfl (Nat.le_refl 0) (Nat.le_refl 0) dX9_refusalOfMinutes_13 ⟨rfl, _, rfl, K⟩
theorem eX9_refusalOfMinutes {E : tp_E} {d : Nat} {Q : Int32 → tp_M → Prop} {σ : tp_M}   (x1 : Int32) (K : if x1 < 1 then (Q (-1000000002) σ) else (if x1 ≤ 60 then (if (σ 1 0) = 0 then (Q (-1000000003) σ) else (if (σ 9 0) ≤ 9000 then (Q 0 σ) else (Q (-1000000004) σ))) else (Q (-1000000002) σ))) : Ci E TC yX9_refusalOfMinutes iX9_refusalOfMinutes d [.ref 0, .int x1] σ Q := Ci.of ⟨by decide +kernel, rfl, rfl⟩ (Nat.le_of_ble_eq_true rfl) (bX9_refusalOfMinutes_0  x1 K)
theorem bX9_route_0 {E : tp_E} {d : Nat} {Q : Int32 → tp_M → Prop} {σ : tp_M}   (x1 : Int32) (x2 : Int32) (K : Ci E TC yX5_hasWaiter iX5_hasWaiter d [.ref 1, .int x1] σ (fun v2 σ1 => if v2 = 0 then (Q (-1000000001) σ1) else (if x2 < 0 then (Q (-1000000002) σ1) else (if 999999999 < x2 then (Q (-1000000002) σ1) else (Ci E TC yX5_hasAllRooms iX5_hasAllRooms d [.ref 1, .int x2] σ1 (fun v7 σ6 => if v7 = 0 then (Q (-1000000002) σ6) else (Ci E TC yX9_turnedRound iX9_turnedRound d [.int x2] σ6 (fun v10 σ9 => Ci E TC yX8_roomOf iX8_roomOf d [.ref 9, .int x1] σ9 (fun v12 σ11 => Ci E TC yX5_canBeGone iX5_canBeGone d [.ref 1, .int v12, .int v10] σ11 (fun v14 σ13 => if v14 = 0 then (Q (-1000000003) σ13) else (Cv E TC yX4_remember iX4_remember d [.ref 37, .ref 9] σ13 (fun σ16 => Cv E TC yX8_setRoute iX8_setRoute d [.ref 9, .int x1, .int v10] σ16 (fun σ17 => Ci E TC yX9_stepsOf iX9_stepsOf d [.int v10] σ17 (fun v19 σ18 => Q v19 σ18)))))))))))))) : Wi E TC iX9_route (d + 1) Q 0 [(0, .ref 0), (1, .int x1), (2, .int x2)] [] σ := by
  refine wp_aload_n 0 dX9_route_0 rfl rfl rfl ?_
  refine wp_getR 9 1 kcX9 kfX9_25 rfl lC_0 (congrArg Prod.fst gC_0) rC_0_1 dX9_route_1 rfl ?_
  refine wp_iload_n 1 dX9_route_4 rfl rfl rfl ?_
  refine wn_callVi (As := [.int x1]) (rest := []) 5 kmX9_154 (by decide) rfl rfl (Nat.le_of_ble_eq_true rfl) lC_1 (congrArg Prod.fst gC_1) dX9_route_5 rfl ?_
  refine Ci.mono K (fun v2 σ1 K => ?_)
  refine wp_if_ne 14 dX9_route_8 (by decide) rfl (fun h3 => ?_) (fun h3 => ?_)
  · rw [if_neg h3] at K
    refine wp_iload_n 2 dX9_route_14 rfl rfl rfl ?_
    refine wp_if_lt 35 dX9_route_15 (by decide) rfl (fun h4 => ?_) (fun h4 => ?_)
    · rw [if_pos h4] at K
      refine wp_ldc dX9_route_35 rfl tw_378 ?_
      exact wp_ret .int rfl rfl (Nat.le_refl 0) (Nat.le_refl 0) dX9_route_37 ⟨rfl, _, rfl, K⟩
    · rw [if_neg h4] at K
      refine wp_iload_n 2 dX9_route_18 rfl rfl rfl ?_
      refine wp_ldc dX9_route_19 rfl tw_643 ?_
      refine wp_icmp_gt 35 dX9_route_21 (by decide) rfl (fun h5 => ?_) (fun h5 => ?_)
      · rw [if_pos h5] at K
        refine wp_ldc dX9_route_35 rfl tw_378 ?_
        exact wp_ret .int rfl rfl (Nat.le_refl 0) (Nat.le_refl 0) dX9_route_37 ⟨rfl, _, rfl, K⟩
      · rw [if_neg h5] at K
        refine wp_aload_n 0 dX9_route_24 rfl rfl rfl ?_
        refine wp_getR 9 1 kcX9 kfX9_25 rfl lC_0 (congrArg Prod.fst gC_0) rC_0_1 dX9_route_25 rfl ?_
        refine wp_iload_n 2 dX9_route_28 rfl rfl rfl ?_
        refine wn_callVi (As := [.int x2]) (rest := []) 5 kmX9_209 (by decide) rfl rfl (Nat.le_of_ble_eq_true rfl) lC_1 (congrArg Prod.fst gC_1) dX9_route_29 rfl ?_
        refine Ci.mono K (fun v7 σ6 K => ?_)
        refine wp_if_ne 38 dX9_route_32 (by decide) rfl (fun h8 => ?_) (fun h8 => ?_)
        · rw [if_neg h8] at K
          refine wp_iload_n 2 dX9_route_38 rfl rfl rfl ?_
          refine wn_callSi (As := [.int x2]) (rest := []) kmX9_212 (by decide) rfl rfl (Nat.le_of_ble_eq_true rfl) dX9_route_39 rfl ?_
          refine Ci.mono K (fun v10 σ9 K => ?_)
          refine wp_istore_n [1, 2, 3, 0] dX9_route_42 rfl rfl (by decide) rfl ?_
          show WP _ _ _ _ _ _ _ 43 [(0, .ref 0), (1, .int x1), (2, .int x2), (3, .int v10)] _ _ _
          refine wp_aload_n 0 dX9_route_43 rfl rfl rfl ?_
          refine wp_getR 9 1 kcX9 kfX9_25 rfl lC_0 (congrArg Prod.fst gC_0) rC_0_1 dX9_route_44 rfl ?_
          refine wp_aload_n 0 dX9_route_47 rfl rfl rfl ?_
          refine wp_getR 9 2 kcX9 kfX9_29 rfl lC_0 (congrArg Prod.fst gC_0) rC_0_2 dX9_route_48 rfl ?_
          refine wp_iload_n 1 dX9_route_51 rfl rfl rfl ?_
          refine wn_callVi (As := [.int x1]) (rest := [.ref 1]) 8 kmX9_157 (by decide) rfl rfl (Nat.le_of_ble_eq_true rfl) lC_9 (congrArg Prod.fst gC_9) dX9_route_52 rfl ?_
          refine Ci.mono K (fun v12 σ11 K => ?_)
          refine wp_iload_n 3 dX9_route_55 rfl rfl rfl ?_
          refine wn_callVi (As := [.int v12, .int v10]) (rest := []) 5 kmX9_215 (by decide) rfl rfl (Nat.le_of_ble_eq_true rfl) lC_1 (congrArg Prod.fst gC_1) dX9_route_56 rfl ?_
          refine Ci.mono K (fun v14 σ13 K => ?_)
          refine wp_if_ne 65 dX9_route_59 (by decide) rfl (fun h15 => ?_) (fun h15 => ?_)
          · rw [if_neg h15] at K
            refine wp_aload_n 0 dX9_route_65 rfl rfl rfl ?_
            refine wp_getR 9 3 kcX9 kfX9_36 rfl lC_0 (congrArg Prod.fst gC_0) rC_0_3 dX9_route_66 rfl ?_
            refine wp_aload_n 0 dX9_route_69 rfl rfl rfl ?_
            refine wp_getR 9 2 kcX9 kfX9_29 rfl lC_0 (congrArg Prod.fst gC_0) rC_0_2 dX9_route_70 rfl ?_
            refine wn_callVv (As := [.ref 9]) (rest := []) 4 kmX9_201 (by decide) rfl rfl (Nat.le_of_ble_eq_true rfl) lC_37 (congrArg Prod.fst gC_37) dX9_route_73 rfl ?_
            refine Cv.mono K (fun σ16 K => ?_)
            refine wp_aload_n 0 dX9_route_76 rfl rfl rfl ?_
            refine wp_getR 9 2 kcX9 kfX9_29 rfl lC_0 (congrArg Prod.fst gC_0) rC_0_2 dX9_route_77 rfl ?_
            refine wp_iload_n 1 dX9_route_80 rfl rfl rfl ?_
            refine wp_iload_n 3 dX9_route_81 rfl rfl rfl ?_
            refine wn_callVv (As := [.int x1, .int v10]) (rest := []) 8 kmX9_220 (by decide) rfl rfl (Nat.le_of_ble_eq_true rfl) lC_9 (congrArg Prod.fst gC_9) dX9_route_82 rfl ?_
            refine Cv.mono K (fun σ17 K => ?_)
            refine wp_iload_n 3 dX9_route_85 rfl rfl rfl ?_
            refine wn_callSi (As := [.int v10]) (rest := []) kmX9_180 (by decide) rfl rfl (Nat.le_of_ble_eq_true rfl) dX9_route_86 rfl ?_
            refine Ci.mono K (fun v19 σ18 K => ?_)
            exact wp_ret .int rfl rfl (Nat.le_refl 0) (Nat.le_refl 0) dX9_route_89 ⟨rfl, _, rfl, K⟩
          · rw [if_pos h15] at K
            refine wp_ldc dX9_route_62 rfl tw_591 ?_
            exact wp_ret .int rfl rfl (Nat.le_refl 0) (Nat.le_refl 0) dX9_route_64 ⟨rfl, _, rfl, K⟩
        · rw [if_pos h8] at K
          refine wp_ldc dX9_route_35 rfl tw_378 ?_
          exact wp_ret .int rfl rfl (Nat.le_refl 0) (Nat.le_refl 0) dX9_route_37 ⟨rfl, _, rfl, K⟩
  · rw [if_pos h3] at K
    refine wp_ldc dX9_route_11 rfl tw_512 ?_
    exact wp_ret .int rfl rfl (Nat.le_refl 0) (Nat.le_refl 0) dX9_route_13 ⟨rfl, _, rfl, K⟩
theorem eX9_route {E : tp_E} {d : Nat} {Q : Int32 → tp_M → Prop} {σ : tp_M}   (x1 : Int32) (x2 : Int32) (K : Ci E TC yX5_hasWaiter iX5_hasWaiter d [.ref 1, .int x1] σ (fun v2 σ1 => if v2 = 0 then (Q (-1000000001) σ1) else (if x2 < 0 then (Q (-1000000002) σ1) else (if 999999999 < x2 then (Q (-1000000002) σ1) else (Ci E TC yX5_hasAllRooms iX5_hasAllRooms d [.ref 1, .int x2] σ1 (fun v7 σ6 => if v7 = 0 then (Q (-1000000002) σ6) else (Ci E TC yX9_turnedRound iX9_turnedRound d [.int x2] σ6 (fun v10 σ9 => Ci E TC yX8_roomOf iX8_roomOf d [.ref 9, .int x1] σ9 (fun v12 σ11 => Ci E TC yX5_canBeGone iX5_canBeGone d [.ref 1, .int v12, .int v10] σ11 (fun v14 σ13 => if v14 = 0 then (Q (-1000000003) σ13) else (Cv E TC yX4_remember iX4_remember d [.ref 37, .ref 9] σ13 (fun σ16 => Cv E TC yX8_setRoute iX8_setRoute d [.ref 9, .int x1, .int v10] σ16 (fun σ17 => Ci E TC yX9_stepsOf iX9_stepsOf d [.int v10] σ17 (fun v19 σ18 => Q v19 σ18)))))))))))))) : Ci E TC yX9_route iX9_route (d + 1) [.ref 0, .int x1, .int x2] σ Q := Ci.of ⟨by decide +kernel, rfl, rfl⟩ (Nat.le_of_ble_eq_true rfl) (bX9_route_0  x1 x2 K)
theorem bX9_lay_0 {E : tp_E} {d : Nat} {Q : Int32 → tp_M → Prop} {σ : tp_M}   (x1 : Int32) (x2 : Int32) (x3 : Int32) (K : Ci E TC yX5_hasThing iX5_hasThing d [.ref 1, .int x1] σ (fun v2 σ1 => if v2 = 0 then (Q (-1000000001) σ1) else (Ci E TC yX5_hasWaiter iX5_hasWaiter d [.ref 1, .int x2] σ1 (fun v5 σ4 => if v5 = 0 then (Q (-1000000001) σ4) else (if x3 < 0 then (Q (-1000000002) σ4) else (if x3 ≤ 1 then (Ci E TC yX8_thingsOf iX8_thingsOf d [.ref 9, .int x2] σ4 (fun v10 σ9 => Ci E TC yX5_weightOf iX5_weightOf d [.ref 1, .int v10] σ9 (fun v12 σ11 => vp_in x1 8 ∧ (Ci E TC yX8_isAtHand iX8_isAtHand d [.ref 9, .int x1, .int x2] σ11 (fun v15 σ14 => if v15 = 0 then (Q (-1000000003) σ14) else (vp_in x2 4 ∧ (if (v12 + (σ11 5 (Int32.toNatClampNeg x1))) ≤ (σ14 4 (Int32.toNatClampNeg x2)) then (Cv E TC yX4_remember iX4_remember d [.ref 37, .ref 9] σ14 (fun σ19 => Ci E TC yX9_sideOf iX9_sideOf d [.int x2, .int x3] σ19 (fun v21 σ20 => Cv E TC yX8_put iX8_put d [.ref 9, .int x1, .int v21] σ20 (fun σ22 => Q (v12 + (σ11 5 (Int32.toNatClampNeg x1))) σ22)))) else (Q (-1000000003) σ14)))))))) else (Q (-1000000002) σ4))))))) : Wi E TC iX9_lay (d + 1) Q 0 [(0, .ref 0), (1, .int x1), (2, .int x2), (3, .int x3)] [] σ := by
  refine wp_aload_n 0 dX9_lay_0 rfl rfl rfl ?_
  refine wp_getR 9 1 kcX9 kfX9_25 rfl lC_0 (congrArg Prod.fst gC_0) rC_0_1 dX9_lay_1 rfl ?_
  refine wp_iload_n 1 dX9_lay_4 rfl rfl rfl ?_
  refine wn_callVi (As := [.int x1]) (rest := []) 5 kmX9_186 (by decide) rfl rfl (Nat.le_of_ble_eq_true rfl) lC_1 (congrArg Prod.fst gC_1) dX9_lay_5 rfl ?_
  refine Ci.mono K (fun v2 σ1 K => ?_)
  refine wp_if_eq 22 dX9_lay_8 (by decide) rfl (fun h3 => ?_) (fun h3 => ?_)
  · rw [if_pos h3] at K
    refine wp_ldc dX9_lay_22 rfl tw_512 ?_
    exact wp_ret .int rfl rfl (Nat.le_refl 0) (Nat.le_refl 0) dX9_lay_24 ⟨rfl, _, rfl, K⟩
  · rw [if_neg h3] at K
    refine wp_aload_n 0 dX9_lay_11 rfl rfl rfl ?_
    refine wp_getR 9 1 kcX9 kfX9_25 rfl lC_0 (congrArg Prod.fst gC_0) rC_0_1 dX9_lay_12 rfl ?_
    refine wp_iload_n 2 dX9_lay_15 rfl rfl rfl ?_
    refine wn_callVi (As := [.int x2]) (rest := []) 5 kmX9_154 (by decide) rfl rfl (Nat.le_of_ble_eq_true rfl) lC_1 (congrArg Prod.fst gC_1) dX9_lay_16 rfl ?_
    refine Ci.mono K (fun v5 σ4 K => ?_)
    refine wp_if_ne 25 dX9_lay_19 (by decide) rfl (fun h6 => ?_) (fun h6 => ?_)
    · rw [if_neg h6] at K
      refine wp_iload_n 3 dX9_lay_25 rfl rfl rfl ?_
      refine wp_if_lt 34 dX9_lay_26 (by decide) rfl (fun h7 => ?_) (fun h7 => ?_)
      · rw [if_pos h7] at K
        refine wp_ldc dX9_lay_34 rfl tw_378 ?_
        exact wp_ret .int rfl rfl (Nat.le_refl 0) (Nat.le_refl 0) dX9_lay_36 ⟨rfl, _, rfl, K⟩
      · rw [if_neg h7] at K
        refine wp_iload_n 3 dX9_lay_29 rfl rfl rfl ?_
        refine wp_iconst (v := 1) dX9_lay_30 rfl (by decide) ?_
        refine wp_icmp_le 37 dX9_lay_31 (by decide) rfl (fun h8 => ?_) (fun h8 => ?_)
        · rw [if_pos h8] at K
          refine wp_aload_n 0 dX9_lay_37 rfl rfl rfl ?_
          refine wp_getR 9 1 kcX9 kfX9_25 rfl lC_0 (congrArg Prod.fst gC_0) rC_0_1 dX9_lay_38 rfl ?_
          refine wp_aload_n 0 dX9_lay_41 rfl rfl rfl ?_
          refine wp_getR 9 2 kcX9 kfX9_29 rfl lC_0 (congrArg Prod.fst gC_0) rC_0_2 dX9_lay_42 rfl ?_
          refine wp_iload_n 2 dX9_lay_45 rfl rfl rfl ?_
          refine wn_callVi (As := [.int x2]) (rest := [.ref 1]) 8 kmX9_168 (by decide) rfl rfl (Nat.le_of_ble_eq_true rfl) lC_9 (congrArg Prod.fst gC_9) dX9_lay_46 rfl ?_
          refine Ci.mono K (fun v10 σ9 K => ?_)
          refine wn_callVi (As := [.int v10]) (rest := []) 5 kmX9_171 (by decide) rfl rfl (Nat.le_of_ble_eq_true rfl) lC_1 (congrArg Prod.fst gC_1) dX9_lay_49 rfl ?_
          refine Ci.mono K (fun v12 σ11 K => ?_)
          refine wp_aload_n 0 dX9_lay_52 rfl rfl rfl ?_
          refine wp_getR 9 1 kcX9 kfX9_25 rfl lC_0 (congrArg Prod.fst gC_0) rC_0_1 dX9_lay_53 rfl ?_
          refine wp_getR 5 9 kcX5 kfX9_189 rfl lC_1 (congrArg Prod.fst gC_1) rC_1_9 dX9_lay_56 rfl ?_
          refine wp_iload_n 1 dX9_lay_59 rfl rfl rfl ?_
          obtain ⟨k13, K⟩ := K
          refine wn_iald lC_5 gC_5 k13 dX9_lay_60 rfl ?_
          refine wp_iadd dX9_lay_61 rfl ?_
          refine wp_istore [1, 2, 3, 4, 0] dX9_lay_62 rfl (by decide) rfl ?_
          show WP _ _ _ _ _ _ _ 64 [(0, .ref 0), (1, .int x1), (2, .int x2), (3, .int x3), (4, .int (v12 + (σ11 5 (Int32.toNatClampNeg x1))))] _ _ _
          refine wp_aload_n 0 dX9_lay_64 rfl rfl rfl ?_
          refine wp_getR 9 2 kcX9 kfX9_29 rfl lC_0 (congrArg Prod.fst gC_0) rC_0_2 dX9_lay_65 rfl ?_
          refine wp_iload_n 1 dX9_lay_68 rfl rfl rfl ?_
          refine wp_iload_n 2 dX9_lay_69 rfl rfl rfl ?_
          refine wn_callVi (As := [.int x1, .int x2]) (rest := []) 8 kmX9_224 (by decide) rfl rfl (Nat.le_of_ble_eq_true rfl) lC_9 (congrArg Prod.fst gC_9) dX9_lay_70 rfl ?_
          refine Ci.mono K (fun v15 σ14 K => ?_)
          refine wp_if_eq 90 dX9_lay_73 (by decide) rfl (fun h16 => ?_) (fun h16 => ?_)
          · rw [if_pos h16] at K
            refine wp_ldc dX9_lay_90 rfl tw_591 ?_
            exact wp_ret .int rfl rfl (Nat.le_refl 0) (Nat.le_refl 0) dX9_lay_92 ⟨rfl, _, rfl, K⟩
          · rw [if_neg h16] at K
            refine wp_iload 4 dX9_lay_76 rfl rfl ?_
            refine wp_aload_n 0 dX9_lay_78 rfl rfl rfl ?_
            refine wp_getR 9 1 kcX9 kfX9_25 rfl lC_0 (congrArg Prod.fst gC_0) rC_0_1 dX9_lay_79 rfl ?_
            refine wp_getR 5 8 kcX5 kfX9_160 rfl lC_1 (congrArg Prod.fst gC_1) rC_1_8 dX9_lay_82 rfl ?_
            refine wp_iload_n 2 dX9_lay_85 rfl rfl rfl ?_
            obtain ⟨k17, K⟩ := K
            refine wn_iald lC_4 gC_4 k17 dX9_lay_86 rfl ?_
            refine wp_icmp_le 93 dX9_lay_87 (by decide) rfl (fun h18 => ?_) (fun h18 => ?_)
            · rw [if_pos h18] at K
              refine wp_aload_n 0 dX9_lay_93 rfl rfl rfl ?_
              refine wp_getR 9 3 kcX9 kfX9_36 rfl lC_0 (congrArg Prod.fst gC_0) rC_0_3 dX9_lay_94 rfl ?_
              refine wp_aload_n 0 dX9_lay_97 rfl rfl rfl ?_
              refine wp_getR 9 2 kcX9 kfX9_29 rfl lC_0 (congrArg Prod.fst gC_0) rC_0_2 dX9_lay_98 rfl ?_
              refine wn_callVv (As := [.ref 9]) (rest := []) 4 kmX9_201 (by decide) rfl rfl (Nat.le_of_ble_eq_true rfl) lC_37 (congrArg Prod.fst gC_37) dX9_lay_101 rfl ?_
              refine Cv.mono K (fun σ19 K => ?_)
              refine wp_aload_n 0 dX9_lay_104 rfl rfl rfl ?_
              refine wp_getR 9 2 kcX9 kfX9_29 rfl lC_0 (congrArg Prod.fst gC_0) rC_0_2 dX9_lay_105 rfl ?_
              refine wp_iload_n 1 dX9_lay_108 rfl rfl rfl ?_
              refine wp_iload_n 2 dX9_lay_109 rfl rfl rfl ?_
              refine wp_iload_n 3 dX9_lay_110 rfl rfl rfl ?_
              refine wn_callSi (As := [.int x2, .int x3]) (rest := [.int x1, .ref 9]) kmX9_164 (by decide) rfl rfl (Nat.le_of_ble_eq_true rfl) dX9_lay_111 rfl ?_
              refine Ci.mono K (fun v21 σ20 K => ?_)
              refine wn_callVv (As := [.int x1, .int v21]) (rest := []) 8 kmX9_227 (by decide) rfl rfl (Nat.le_of_ble_eq_true rfl) lC_9 (congrArg Prod.fst gC_9) dX9_lay_114 rfl ?_
              refine Cv.mono K (fun σ22 K => ?_)
              refine wp_iload 4 dX9_lay_117 rfl rfl ?_
              exact wp_ret .int rfl rfl (Nat.le_refl 0) (Nat.le_refl 0) dX9_lay_119 ⟨rfl, _, rfl, K⟩
            · rw [if_neg h18] at K
              refine wp_ldc dX9_lay_90 rfl tw_591 ?_
              exact wp_ret .int rfl rfl (Nat.le_refl 0) (Nat.le_refl 0) dX9_lay_92 ⟨rfl, _, rfl, K⟩
        · rw [if_neg h8] at K
          refine wp_ldc dX9_lay_34 rfl tw_378 ?_
          exact wp_ret .int rfl rfl (Nat.le_refl 0) (Nat.le_refl 0) dX9_lay_36 ⟨rfl, _, rfl, K⟩
    · rw [if_pos h6] at K
      refine wp_ldc dX9_lay_22 rfl tw_512 ?_
      exact wp_ret .int rfl rfl (Nat.le_refl 0) (Nat.le_refl 0) dX9_lay_24 ⟨rfl, _, rfl, K⟩
theorem eX9_lay {E : tp_E} {d : Nat} {Q : Int32 → tp_M → Prop} {σ : tp_M}   (x1 : Int32) (x2 : Int32) (x3 : Int32) (K : Ci E TC yX5_hasThing iX5_hasThing d [.ref 1, .int x1] σ (fun v2 σ1 => if v2 = 0 then (Q (-1000000001) σ1) else (Ci E TC yX5_hasWaiter iX5_hasWaiter d [.ref 1, .int x2] σ1 (fun v5 σ4 => if v5 = 0 then (Q (-1000000001) σ4) else (if x3 < 0 then (Q (-1000000002) σ4) else (if x3 ≤ 1 then (Ci E TC yX8_thingsOf iX8_thingsOf d [.ref 9, .int x2] σ4 (fun v10 σ9 => Ci E TC yX5_weightOf iX5_weightOf d [.ref 1, .int v10] σ9 (fun v12 σ11 => vp_in x1 8 ∧ (Ci E TC yX8_isAtHand iX8_isAtHand d [.ref 9, .int x1, .int x2] σ11 (fun v15 σ14 => if v15 = 0 then (Q (-1000000003) σ14) else (vp_in x2 4 ∧ (if (v12 + (σ11 5 (Int32.toNatClampNeg x1))) ≤ (σ14 4 (Int32.toNatClampNeg x2)) then (Cv E TC yX4_remember iX4_remember d [.ref 37, .ref 9] σ14 (fun σ19 => Ci E TC yX9_sideOf iX9_sideOf d [.int x2, .int x3] σ19 (fun v21 σ20 => Cv E TC yX8_put iX8_put d [.ref 9, .int x1, .int v21] σ20 (fun σ22 => Q (v12 + (σ11 5 (Int32.toNatClampNeg x1))) σ22)))) else (Q (-1000000003) σ14)))))))) else (Q (-1000000002) σ4))))))) : Ci E TC yX9_lay iX9_lay (d + 1) [.ref 0, .int x1, .int x2, .int x3] σ Q := Ci.of ⟨by decide +kernel, rfl, rfl⟩ (Nat.le_of_ble_eq_true rfl) (bX9_lay_0  x1 x2 x3 K)
theorem bX9_takeOff_0 {E : tp_E} {d : Nat} {Q : Int32 → tp_M → Prop} {σ : tp_M}   (x1 : Int32) (K : Ci E TC yX5_hasThing iX5_hasThing d [.ref 1, .int x1] σ (fun v2 σ1 => if v2 = 0 then (Q (-1000000001) σ1) else (Ci E TC yX8_bearerOf iX8_bearerOf d [.ref 9, .int x1] σ1 (fun v5 σ4 => if v5 = (-1) then (Q (-1000000003) σ4) else (Cv E TC yX4_remember iX4_remember d [.ref 37, .ref 9] σ4 (fun σ7 => Cv E TC yX8_put iX8_put d [.ref 9, .int x1, .int (-1)] σ7 (fun σ8 => Q v5 σ8))))))) : Wi E TC iX9_takeOff (d + 1) Q 0 [(0, .ref 0), (1, .int x1)] [] σ := by
  refine wp_aload_n 0 dX9_takeOff_0 rfl rfl rfl ?_
  refine wp_getR 9 1 kcX9 kfX9_25 rfl lC_0 (congrArg Prod.fst gC_0) rC_0_1 dX9_takeOff_1 rfl ?_
  refine wp_iload_n 1 dX9_takeOff_4 rfl rfl rfl ?_
  refine wn_callVi (As := [.int x1]) (rest := []) 5 kmX9_186 (by decide) rfl rfl (Nat.le_of_ble_eq_true rfl) lC_1 (congrArg Prod.fst gC_1) dX9_takeOff_5 rfl ?_
  refine Ci.mono K (fun v2 σ1 K => ?_)
  refine wp_if_ne 14 dX9_takeOff_8 (by decide) rfl (fun h3 => ?_) (fun h3 => ?_)
  · rw [if_neg h3] at K
    refine wp_aload_n 0 dX9_takeOff_14 rfl rfl rfl ?_
    refine wp_getR 9 2 kcX9 kfX9_29 rfl lC_0 (congrArg Prod.fst gC_0) rC_0_2 dX9_takeOff_15 rfl ?_
    refine wp_iload_n 1 dX9_takeOff_18 rfl rfl rfl ?_
    refine wn_callVi (As := [.int x1]) (rest := []) 8 kmX9_195 (by decide) rfl rfl (Nat.le_of_ble_eq_true rfl) lC_9 (congrArg Prod.fst gC_9) dX9_takeOff_19 rfl ?_
    refine Ci.mono K (fun v5 σ4 K => ?_)
    refine wp_istore_n [1, 2, 0] dX9_takeOff_22 rfl rfl (by decide) rfl ?_
    show WP _ _ _ _ _ _ _ 23 [(0, .ref 0), (1, .int x1), (2, .int v5)] _ _ _
    refine wp_iload_n 2 dX9_takeOff_23 rfl rfl rfl ?_
    refine wp_iconst (v := (-1)) dX9_takeOff_24 rfl (by decide) ?_
    refine wp_icmp_ne 31 dX9_takeOff_25 (by decide) rfl (fun h6 => ?_) (fun h6 => ?_)
    · rw [if_neg h6] at K
      refine wp_aload_n 0 dX9_takeOff_31 rfl rfl rfl ?_
      refine wp_getR 9 3 kcX9 kfX9_36 rfl lC_0 (congrArg Prod.fst gC_0) rC_0_3 dX9_takeOff_32 rfl ?_
      refine wp_aload_n 0 dX9_takeOff_35 rfl rfl rfl ?_
      refine wp_getR 9 2 kcX9 kfX9_29 rfl lC_0 (congrArg Prod.fst gC_0) rC_0_2 dX9_takeOff_36 rfl ?_
      refine wn_callVv (As := [.ref 9]) (rest := []) 4 kmX9_201 (by decide) rfl rfl (Nat.le_of_ble_eq_true rfl) lC_37 (congrArg Prod.fst gC_37) dX9_takeOff_39 rfl ?_
      refine Cv.mono K (fun σ7 K => ?_)
      refine wp_aload_n 0 dX9_takeOff_42 rfl rfl rfl ?_
      refine wp_getR 9 2 kcX9 kfX9_29 rfl lC_0 (congrArg Prod.fst gC_0) rC_0_2 dX9_takeOff_43 rfl ?_
      refine wp_iload_n 1 dX9_takeOff_46 rfl rfl rfl ?_
      refine wp_iconst (v := (-1)) dX9_takeOff_47 rfl (by decide) ?_
      refine wn_callVv (As := [.int x1, .int (-1)]) (rest := []) 8 kmX9_227 (by decide) rfl rfl (Nat.le_of_ble_eq_true rfl) lC_9 (congrArg Prod.fst gC_9) dX9_takeOff_48 rfl ?_
      refine Cv.mono K (fun σ8 K => ?_)
      refine wp_iload_n 2 dX9_takeOff_51 rfl rfl rfl ?_
      exact wp_ret .int rfl rfl (Nat.le_refl 0) (Nat.le_refl 0) dX9_takeOff_52 ⟨rfl, _, rfl, K⟩
    · rw [if_pos h6] at K
      refine wp_ldc dX9_takeOff_28 rfl tw_591 ?_
      exact wp_ret .int rfl rfl (Nat.le_refl 0) (Nat.le_refl 0) dX9_takeOff_30 ⟨rfl, _, rfl, K⟩
  · rw [if_pos h3] at K
    refine wp_ldc dX9_takeOff_11 rfl tw_512 ?_
    exact wp_ret .int rfl rfl (Nat.le_refl 0) (Nat.le_refl 0) dX9_takeOff_13 ⟨rfl, _, rfl, K⟩
theorem eX9_takeOff {E : tp_E} {d : Nat} {Q : Int32 → tp_M → Prop} {σ : tp_M}   (x1 : Int32) (K : Ci E TC yX5_hasThing iX5_hasThing d [.ref 1, .int x1] σ (fun v2 σ1 => if v2 = 0 then (Q (-1000000001) σ1) else (Ci E TC yX8_bearerOf iX8_bearerOf d [.ref 9, .int x1] σ1 (fun v5 σ4 => if v5 = (-1) then (Q (-1000000003) σ4) else (Cv E TC yX4_remember iX4_remember d [.ref 37, .ref 9] σ4 (fun σ7 => Cv E TC yX8_put iX8_put d [.ref 9, .int x1, .int (-1)] σ7 (fun σ8 => Q v5 σ8))))))) : Ci E TC yX9_takeOff iX9_takeOff (d + 1) [.ref 0, .int x1] σ Q := Ci.of ⟨by decide +kernel, rfl, rfl⟩ (Nat.le_of_ble_eq_true rfl) (bX9_takeOff_0  x1 K)
theorem bX9_treaty_0 {E : tp_E} {d : Nat} {Q : Int32 → tp_M → Prop} {σ : tp_M}   (x1 : Int32) (x2 : Int32) (x3 : Int32) (K : Ci E TC yX5_hasTwoWaiters iX5_hasTwoWaiters d [.ref 1, .int x1, .int x2] σ (fun v2 σ1 => if v2 = 0 then (Q (-1000000001) σ1) else (Cv E TC yX4_remember iX4_remember d [.ref 37, .ref 9] σ1 (fun σ4 => Ci E TC yX8_treatiesOf iX8_treatiesOf d [.ref 9, .int x1] σ4 (fun v6 σ5 => Ci E TC yX9_has iX9_has d [.int v6, .int x2] σ5 (fun v8 σ7 => if v8 = 0 then (Wi E TC iX9_treaty (d + 1) Q 46 [(0, .ref 0), (1, .int x1), (2, .int x2), (3, .int x3)] [.int 0] σ7) else (Wi E TC iX9_treaty (d + 1) Q 46 [(0, .ref 0), (1, .int x1), (2, .int x2), (3, .int x3)] [.int 1] σ7))))))) : Wi E TC iX9_treaty (d + 1) Q 0 [(0, .ref 0), (1, .int x1), (2, .int x2), (3, .int x3)] [] σ := by
  refine wp_aload_n 0 dX9_treaty_0 rfl rfl rfl ?_
  refine wp_getR 9 1 kcX9 kfX9_25 rfl lC_0 (congrArg Prod.fst gC_0) rC_0_1 dX9_treaty_1 rfl ?_
  refine wp_iload_n 1 dX9_treaty_4 rfl rfl rfl ?_
  refine wp_iload_n 2 dX9_treaty_5 rfl rfl rfl ?_
  refine wn_callVi (As := [.int x1, .int x2]) (rest := []) 5 kmX9_230 (by decide) rfl rfl (Nat.le_of_ble_eq_true rfl) lC_1 (congrArg Prod.fst gC_1) dX9_treaty_6 rfl ?_
  refine Ci.mono K (fun v2 σ1 K => ?_)
  refine wp_if_ne 15 dX9_treaty_9 (by decide) rfl (fun h3 => ?_) (fun h3 => ?_)
  · rw [if_neg h3] at K
    refine wp_aload_n 0 dX9_treaty_15 rfl rfl rfl ?_
    refine wp_getR 9 3 kcX9 kfX9_36 rfl lC_0 (congrArg Prod.fst gC_0) rC_0_3 dX9_treaty_16 rfl ?_
    refine wp_aload_n 0 dX9_treaty_19 rfl rfl rfl ?_
    refine wp_getR 9 2 kcX9 kfX9_29 rfl lC_0 (congrArg Prod.fst gC_0) rC_0_2 dX9_treaty_20 rfl ?_
    refine wn_callVv (As := [.ref 9]) (rest := []) 4 kmX9_201 (by decide) rfl rfl (Nat.le_of_ble_eq_true rfl) lC_37 (congrArg Prod.fst gC_37) dX9_treaty_23 rfl ?_
    refine Cv.mono K (fun σ4 K => ?_)
    refine wp_aload_n 0 dX9_treaty_26 rfl rfl rfl ?_
    refine wp_getR 9 2 kcX9 kfX9_29 rfl lC_0 (congrArg Prod.fst gC_0) rC_0_2 dX9_treaty_27 rfl ?_
    refine wp_iload_n 1 dX9_treaty_30 rfl rfl rfl ?_
    refine wn_callVi (As := [.int x1]) (rest := []) 8 kmX9_183 (by decide) rfl rfl (Nat.le_of_ble_eq_true rfl) lC_9 (congrArg Prod.fst gC_9) dX9_treaty_31 rfl ?_
    refine Ci.mono K (fun v6 σ5 K => ?_)
    refine wp_iload_n 2 dX9_treaty_34 rfl rfl rfl ?_
    refine wn_callSi (As := [.int v6, .int x2]) (rest := []) kmX9_233 (by decide) rfl rfl (Nat.le_of_ble_eq_true rfl) dX9_treaty_35 rfl ?_
    refine Ci.mono K (fun v8 σ7 K => ?_)
    refine wp_if_eq 45 dX9_treaty_38 (by decide) rfl (fun h9 => ?_) (fun h9 => ?_)
    · rw [if_pos h9] at K
      refine wp_iconst (v := 0) dX9_treaty_45 rfl (by decide) ?_
      exact K
    · rw [if_neg h9] at K
      refine wp_iconst (v := 1) dX9_treaty_41 rfl (by decide) ?_
      refine wp_goto 46 dX9_treaty_42 (by decide) ?_
      exact K
  · rw [if_pos h3] at K
    refine wp_ldc dX9_treaty_12 rfl tw_512 ?_
    exact wp_ret .int rfl rfl (Nat.le_refl 0) (Nat.le_refl 0) dX9_treaty_14 ⟨rfl, _, rfl, K⟩
theorem eX9_treaty {E : tp_E} {d : Nat} {Q : Int32 → tp_M → Prop} {σ : tp_M}   (x1 : Int32) (x2 : Int32) (x3 : Int32) (K : Ci E TC yX5_hasTwoWaiters iX5_hasTwoWaiters d [.ref 1, .int x1, .int x2] σ (fun v2 σ1 => if v2 = 0 then (Q (-1000000001) σ1) else (Cv E TC yX4_remember iX4_remember d [.ref 37, .ref 9] σ1 (fun σ4 => Ci E TC yX8_treatiesOf iX8_treatiesOf d [.ref 9, .int x1] σ4 (fun v6 σ5 => Ci E TC yX9_has iX9_has d [.int v6, .int x2] σ5 (fun v8 σ7 => if v8 = 0 then (Wi E TC iX9_treaty (d + 1) Q 46 [(0, .ref 0), (1, .int x1), (2, .int x2), (3, .int x3)] [.int 0] σ7) else (Wi E TC iX9_treaty (d + 1) Q 46 [(0, .ref 0), (1, .int x1), (2, .int x2), (3, .int x3)] [.int 1] σ7))))))) : Ci E TC yX9_treaty iX9_treaty (d + 1) [.ref 0, .int x1, .int x2, .int x3] σ Q := Ci.of ⟨by decide +kernel, rfl, rfl⟩ (Nat.le_of_ble_eq_true rfl) (bX9_treaty_0  x1 x2 x3 K)
theorem bX9_treaty_46 {E : tp_E} {d : Nat} {Q : Int32 → tp_M → Prop} {σ : tp_M}   (x1 : Int32) (x2 : Int32) (x3 : Int32) (s0 : Int32) (K : Cv E TC yX8_setTreaty iX8_setTreaty d [.ref 9, .int x1, .int x2, .int x3] σ (fun σ1 => Cv E TC yX8_setTreaty iX8_setTreaty d [.ref 9, .int x2, .int x1, .int x3] σ1 (fun σ2 => Q s0 σ2))) : Wi E TC iX9_treaty (d + 1) Q 46 [(0, .ref 0), (1, .int x1), (2, .int x2), (3, .int x3)] [.int s0] σ := by
  refine wp_istore [1, 2, 3, 4, 0] dX9_treaty_46 rfl (by decide) rfl ?_
  show WP _ _ _ _ _ _ _ 48 [(0, .ref 0), (1, .int x1), (2, .int x2), (3, .int x3), (4, .int s0)] _ _ _
  refine wp_aload_n 0 dX9_treaty_48 rfl rfl rfl ?_
  refine wp_getR 9 2 kcX9 kfX9_29 rfl lC_0 (congrArg Prod.fst gC_0) rC_0_2 dX9_treaty_49 rfl ?_
  refine wp_iload_n 1 dX9_treaty_52 rfl rfl rfl ?_
  refine wp_iload_n 2 dX9_treaty_53 rfl rfl rfl ?_
  refine wp_iload_n 3 dX9_treaty_54 rfl rfl rfl ?_
  refine wn_callVv (As := [.int x1, .int x2, .int x3]) (rest := []) 8 kmX9_236 (by decide) rfl rfl (Nat.le_of_ble_eq_true rfl) lC_9 (congrArg Prod.fst gC_9) dX9_treaty_55 rfl ?_
  refine Cv.mono K (fun σ1 K => ?_)
  refine wp_aload_n 0 dX9_treaty_58 rfl rfl rfl ?_
  refine wp_getR 9 2 kcX9 kfX9_29 rfl lC_0 (congrArg Prod.fst gC_0) rC_0_2 dX9_treaty_59 rfl ?_
  refine wp_iload_n 2 dX9_treaty_62 rfl rfl rfl ?_
  refine wp_iload_n 1 dX9_treaty_63 rfl rfl rfl ?_
  refine wp_iload_n 3 dX9_treaty_64 rfl rfl rfl ?_
  refine wn_callVv (As := [.int x2, .int x1, .int x3]) (rest := []) 8 kmX9_236 (by decide) rfl rfl (Nat.le_of_ble_eq_true rfl) lC_9 (congrArg Prod.fst gC_9) dX9_treaty_65 rfl ?_
  refine Cv.mono K (fun σ2 K => ?_)
  refine wp_iload 4 dX9_treaty_68 rfl rfl ?_
  exact wp_ret .int rfl rfl (Nat.le_refl 0) (Nat.le_refl 0) dX9_treaty_70 ⟨rfl, _, rfl, K⟩
theorem bX9_drift_0 {E : tp_E} {d : Nat} {Q : Int32 → tp_M → Prop} {σ : tp_M}   (x1 : Int32) (K : Ci E TC yX9_refusalOfMinutes iX9_refusalOfMinutes d [.ref 0, .int x1] σ (fun v2 σ1 => if v2 = 0 then (Cv E TC yX4_remember iX4_remember d [.ref 37, .ref 9] σ1 (fun σ4 => Wi E TC iX9_drift (d + 1) Q 25 [(0, .ref 0), (1, .int x1), (3, .int 0)] [] σ4)) else (Q v2 σ1))) : Wi E TC iX9_drift (d + 1) Q 0 [(0, .ref 0), (1, .int x1)] [] σ := by
  refine wp_aload_n 0 dX9_drift_0 rfl rfl rfl ?_
  refine wp_iload_n 1 dX9_drift_1 rfl rfl rfl ?_
  refine wn_callVi (As := [.int x1]) (rest := []) 9 kmX9_198 (by decide) rfl rfl (Nat.le_of_ble_eq_true rfl) lC_0 (congrArg Prod.fst gC_0) dX9_drift_2 rfl ?_
  refine Ci.mono K (fun v2 σ1 K => ?_)
  refine wp_istore_n [1, 2, 0] dX9_drift_5 rfl rfl (by decide) rfl ?_
  show WP _ _ _ _ _ _ _ 6 [(0, .ref 0), (1, .int x1), (2, .int v2)] _ _ _
  refine wp_iload_n 2 dX9_drift_6 rfl rfl rfl ?_
  refine wp_if_eq 12 dX9_drift_7 (by decide) rfl (fun h3 => ?_) (fun h3 => ?_)
  · rw [if_pos h3] at K
    refine wp_aload_n 0 dX9_drift_12 rfl rfl rfl ?_
    refine wp_getR 9 3 kcX9 kfX9_36 rfl lC_0 (congrArg Prod.fst gC_0) rC_0_3 dX9_drift_13 rfl ?_
    refine wp_aload_n 0 dX9_drift_16 rfl rfl rfl ?_
    refine wp_getR 9 2 kcX9 kfX9_29 rfl lC_0 (congrArg Prod.fst gC_0) rC_0_2 dX9_drift_17 rfl ?_
    refine wn_callVv (As := [.ref 9]) (rest := []) 4 kmX9_201 (by decide) rfl rfl (Nat.le_of_ble_eq_true rfl) lC_37 (congrArg Prod.fst gC_37) dX9_drift_20 rfl ?_
    refine Cv.mono K (fun σ4 K => ?_)
    refine wp_iconst (v := 0) dX9_drift_23 rfl (by decide) ?_
    refine wp_istore_n [1, 2, 3, 0] dX9_drift_24 rfl rfl (by decide) rfl ?_
    show WP _ _ _ _ _ _ _ 25 [(0, .ref 0), (1, .int x1), (2, .int v2), (3, .int 0)] _ _ _
    refine wp_lv [0, 1, 3] rfl ?_
    exact K
  · rw [if_neg h3] at K
    refine wp_iload_n 2 dX9_drift_10 rfl rfl rfl ?_
    exact wp_ret .int rfl rfl (Nat.le_refl 0) (Nat.le_refl 0) dX9_drift_11 ⟨rfl, _, rfl, K⟩
theorem eX9_drift {E : tp_E} {d : Nat} {Q : Int32 → tp_M → Prop} {σ : tp_M}   (x1 : Int32) (K : Ci E TC yX9_refusalOfMinutes iX9_refusalOfMinutes d [.ref 0, .int x1] σ (fun v2 σ1 => if v2 = 0 then (Cv E TC yX4_remember iX4_remember d [.ref 37, .ref 9] σ1 (fun σ4 => Wi E TC iX9_drift (d + 1) Q 25 [(0, .ref 0), (1, .int x1), (3, .int 0)] [] σ4)) else (Q v2 σ1))) : Ci E TC yX9_drift iX9_drift (d + 1) [.ref 0, .int x1] σ Q := Ci.of ⟨by decide +kernel, rfl, rfl⟩ (Nat.le_of_ble_eq_true rfl) (bX9_drift_0  x1 K)
theorem bX9_drift_25 {E : tp_E} {d : Nat} {Q : Int32 → tp_M → Prop} {σ : tp_M}   (x1 : Int32) (x3 : Int32) (K : if x1 ≤ x3 then (Q (σ 9 1) σ) else (Cv E TC yX0_drawRoute iX0_drawRoute d [.ref 139] σ (fun σ2 => Cv E TC yX0_tick iX0_tick d [.ref 139] σ2 (fun σ3 => Wi E TC iX9_drift (d + 1) Q 25 [(0, .ref 0), (1, .int x1), (3, .int (x3 + 1))] [] σ3)))) : Wi E TC iX9_drift (d + 1) Q 25 [(0, .ref 0), (1, .int x1), (3, .int x3)] [] σ := by
  refine wp_iload_n 2 dX9_drift_25 rfl rfl rfl ?_
  refine wp_iload_n 1 dX9_drift_26 rfl rfl rfl ?_
  refine wp_icmp_ge 50 dX9_drift_27 (by decide) rfl (fun h1 => ?_) (fun h1 => ?_)
  · rw [if_pos h1] at K
    refine wp_aload_n 0 dX9_drift_50 rfl rfl rfl ?_
    refine wp_getR 9 2 kcX9 kfX9_29 rfl lC_0 (congrArg Prod.fst gC_0) rC_0_2 dX9_drift_51 rfl ?_
    refine wp_getI 8 1 kcX8 kfX9_129 rfl lC_9 (congrArg Prod.fst gC_9) dX9_drift_54 rfl ?_
    exact wp_ret .int rfl rfl (Nat.le_refl 0) (Nat.le_refl 0) dX9_drift_57 ⟨rfl, _, rfl, K⟩
  · rw [if_neg h1] at K
    refine wp_aload_n 0 dX9_drift_30 rfl rfl rfl ?_
    refine wp_getR 9 4 kcX9 kfX9_45 rfl lC_0 (congrArg Prod.fst gC_0) rC_0_4 dX9_drift_31 rfl ?_
    refine wn_callVv (As := []) (rest := []) 0 kmX9_240 (by decide) rfl rfl (Nat.le_of_ble_eq_true rfl) lC_139 (congrArg Prod.fst gC_139) dX9_drift_34 rfl ?_
    refine Cv.mono K (fun σ2 K => ?_)
    refine wp_aload_n 0 dX9_drift_37 rfl rfl rfl ?_
    refine wp_getR 9 4 kcX9 kfX9_45 rfl lC_0 (congrArg Prod.fst gC_0) rC_0_4 dX9_drift_38 rfl ?_
    refine wn_callVv (As := []) (rest := []) 0 kmX9_205 (by decide) rfl rfl (Nat.le_of_ble_eq_true rfl) lC_139 (congrArg Prod.fst gC_139) dX9_drift_41 rfl ?_
    refine Cv.mono K (fun σ3 K => ?_)
    refine wp_iinc (v := x3 + 1) 2 [1, 2, 0] dX9_drift_44 rfl (by decide) rfl rfl rfl ?_
    show WP _ _ _ _ _ _ _ 47 [(0, .ref 0), (1, .int x1), (3, .int (x3 + 1))] _ _ _
    refine wp_goto 25 dX9_drift_47 (by decide) ?_
    exact K
theorem bX9_undo_0 {E : tp_E} {d : Nat} {Q : Int32 → tp_M → Prop} {σ : tp_M}    (K : Ci E TC yX4_bringBack iX4_bringBack d [.ref 37, .ref 9] σ (fun v2 σ1 => if v2 = 0 then (Q (-1000000003) σ1) else (Q (σ1 37 2) σ1))) : Wi E TC iX9_undo (d + 1) Q 0 [(0, .ref 0)] [] σ := by
  refine wp_aload_n 0 dX9_undo_0 rfl rfl rfl ?_
  refine wp_getR 9 3 kcX9 kfX9_36 rfl lC_0 (congrArg Prod.fst gC_0) rC_0_3 dX9_undo_1 rfl ?_
  refine wp_aload_n 0 dX9_undo_4 rfl rfl rfl ?_
  refine wp_getR 9 2 kcX9 kfX9_29 rfl lC_0 (congrArg Prod.fst gC_0) rC_0_2 dX9_undo_5 rfl ?_
  refine wn_callVi (As := [.ref 9]) (rest := []) 4 kmX9_243 (by decide) rfl rfl (Nat.le_of_ble_eq_true rfl) lC_37 (congrArg Prod.fst gC_37) dX9_undo_8 rfl ?_
  refine Ci.mono K (fun v2 σ1 K => ?_)
  refine wp_if_eq 24 dX9_undo_11 (by decide) rfl (fun h3 => ?_) (fun h3 => ?_)
  · rw [if_pos h3] at K
    refine wp_ldc dX9_undo_24 rfl tw_591 ?_
    exact wp_ret .int rfl rfl (Nat.le_refl 0) (Nat.le_refl 0) dX9_undo_26 ⟨rfl, _, rfl, K⟩
  · rw [if_neg h3] at K
    refine wp_aload_n 0 dX9_undo_14 rfl rfl rfl ?_
    refine wp_getR 9 3 kcX9 kfX9_36 rfl lC_0 (congrArg Prod.fst gC_0) rC_0_3 dX9_undo_15 rfl ?_
    refine wp_getI 4 2 kcX4 kfX9_145 rfl lC_37 (congrArg Prod.fst gC_37) dX9_undo_18 rfl ?_
    refine wp_goto 26 dX9_undo_21 (by decide) ?_
    exact wp_ret .int rfl rfl (Nat.le_refl 0) (Nat.le_refl 0) dX9_undo_26 ⟨rfl, _, rfl, K⟩
theorem eX9_undo {E : tp_E} {d : Nat} {Q : Int32 → tp_M → Prop} {σ : tp_M}    (K : Ci E TC yX4_bringBack iX4_bringBack d [.ref 37, .ref 9] σ (fun v2 σ1 => if v2 = 0 then (Q (-1000000003) σ1) else (Q (σ1 37 2) σ1))) : Ci E TC yX9_undo iX9_undo (d + 1) [.ref 0] σ Q := Ci.of ⟨by decide +kernel, rfl, rfl⟩ (Nat.le_of_ble_eq_true rfl) (bX9_undo_0   K)
theorem bX9_where_0 {E : tp_E} {d : Nat} {Q : Int32 → tp_M → Prop} {σ : tp_M}   (x1 : Int32) (x2 : Int32) (K : Ci E TC yX5_hasWaiter iX5_hasWaiter d [.ref 1, .int x1] σ (fun v2 σ1 => if v2 = 0 then (Q (-1000000001) σ1) else (Ci E TC yX9_isForeseen iX9_isForeseen d [.int x2, .int 0] σ1 (fun v5 σ4 => if v5 = 0 then (Q (-1000000002) σ4) else (Ci E TC yX8_roomAfter iX8_roomAfter d [.ref 9, .int x1, .int x2] σ4 (fun v8 σ7 => Q v8 σ7)))))) : Wi E TC iX9_where (d + 1) Q 0 [(0, .ref 0), (1, .int x1), (2, .int x2)] [] σ := by
  refine wp_aload_n 0 dX9_where_0 rfl rfl rfl ?_
  refine wp_getR 9 1 kcX9 kfX9_25 rfl lC_0 (congrArg Prod.fst gC_0) rC_0_1 dX9_where_1 rfl ?_
  refine wp_iload_n 1 dX9_where_4 rfl rfl rfl ?_
  refine wn_callVi (As := [.int x1]) (rest := []) 5 kmX9_154 (by decide) rfl rfl (Nat.le_of_ble_eq_true rfl) lC_1 (congrArg Prod.fst gC_1) dX9_where_5 rfl ?_
  refine Ci.mono K (fun v2 σ1 K => ?_)
  refine wp_if_ne 14 dX9_where_8 (by decide) rfl (fun h3 => ?_) (fun h3 => ?_)
  · rw [if_neg h3] at K
    refine wp_iload_n 2 dX9_where_14 rfl rfl rfl ?_
    refine wp_iconst (v := 0) dX9_where_15 rfl (by decide) ?_
    refine wn_callSi (As := [.int x2, .int 0]) (rest := []) kmX9_247 (by decide) rfl rfl (Nat.le_of_ble_eq_true rfl) dX9_where_16 rfl ?_
    refine Ci.mono K (fun v5 σ4 K => ?_)
    refine wp_if_eq 34 dX9_where_19 (by decide) rfl (fun h6 => ?_) (fun h6 => ?_)
    · rw [if_pos h6] at K
      refine wp_ldc dX9_where_34 rfl tw_378 ?_
      exact wp_ret .int rfl rfl (Nat.le_refl 0) (Nat.le_refl 0) dX9_where_36 ⟨rfl, _, rfl, K⟩
    · rw [if_neg h6] at K
      refine wp_aload_n 0 dX9_where_22 rfl rfl rfl ?_
      refine wp_getR 9 2 kcX9 kfX9_29 rfl lC_0 (congrArg Prod.fst gC_0) rC_0_2 dX9_where_23 rfl ?_
      refine wp_iload_n 1 dX9_where_26 rfl rfl rfl ?_
      refine wp_iload_n 2 dX9_where_27 rfl rfl rfl ?_
      refine wn_callVi (As := [.int x1, .int x2]) (rest := []) 8 kmX9_250 (by decide) rfl rfl (Nat.le_of_ble_eq_true rfl) lC_9 (congrArg Prod.fst gC_9) dX9_where_28 rfl ?_
      refine Ci.mono K (fun v8 σ7 K => ?_)
      refine wp_goto 36 dX9_where_31 (by decide) ?_
      exact wp_ret .int rfl rfl (Nat.le_refl 0) (Nat.le_refl 0) dX9_where_36 ⟨rfl, _, rfl, K⟩
  · rw [if_pos h3] at K
    refine wp_ldc dX9_where_11 rfl tw_512 ?_
    exact wp_ret .int rfl rfl (Nat.le_refl 0) (Nat.le_refl 0) dX9_where_13 ⟨rfl, _, rfl, K⟩
theorem eX9_where {E : tp_E} {d : Nat} {Q : Int32 → tp_M → Prop} {σ : tp_M}   (x1 : Int32) (x2 : Int32) (K : Ci E TC yX5_hasWaiter iX5_hasWaiter d [.ref 1, .int x1] σ (fun v2 σ1 => if v2 = 0 then (Q (-1000000001) σ1) else (Ci E TC yX9_isForeseen iX9_isForeseen d [.int x2, .int 0] σ1 (fun v5 σ4 => if v5 = 0 then (Q (-1000000002) σ4) else (Ci E TC yX8_roomAfter iX8_roomAfter d [.ref 9, .int x1, .int x2] σ4 (fun v8 σ7 => Q v8 σ7)))))) : Ci E TC yX9_where iX9_where (d + 1) [.ref 0, .int x1, .int x2] σ Q := Ci.of ⟨by decide +kernel, rfl, rfl⟩ (Nat.le_of_ble_eq_true rfl) (bX9_where_0  x1 x2 K)
theorem bX9_meets_0 {E : tp_E} {d : Nat} {Q : Int32 → tp_M → Prop} {σ : tp_M}   (x1 : Int32) (x2 : Int32) (K : Ci E TC yX5_hasTwoWaiters iX5_hasTwoWaiters d [.ref 1, .int x1, .int x2] σ (fun v2 σ1 => if v2 = 0 then (Q (-1000000001) σ1) else (Ci E TC yX1_firstMeeting iX1_firstMeeting d [.ref 141, .int x1, .int x2] σ1 (fun v5 σ4 => Q v5 σ4)))) : Wi E TC iX9_meets (d + 1) Q 0 [(0, .ref 0), (1, .int x1), (2, .int x2)] [] σ := by
  refine wp_aload_n 0 dX9_meets_0 rfl rfl rfl ?_
  refine wp_getR 9 1 kcX9 kfX9_25 rfl lC_0 (congrArg Prod.fst gC_0) rC_0_1 dX9_meets_1 rfl ?_
  refine wp_iload_n 1 dX9_meets_4 rfl rfl rfl ?_
  refine wp_iload_n 2 dX9_meets_5 rfl rfl rfl ?_
  refine wn_callVi (As := [.int x1, .int x2]) (rest := []) 5 kmX9_230 (by decide) rfl rfl (Nat.le_of_ble_eq_true rfl) lC_1 (congrArg Prod.fst gC_1) dX9_meets_6 rfl ?_
  refine Ci.mono K (fun v2 σ1 K => ?_)
  refine wp_if_eq 24 dX9_meets_9 (by decide) rfl (fun h3 => ?_) (fun h3 => ?_)
  · rw [if_pos h3] at K
    refine wp_ldc dX9_meets_24 rfl tw_512 ?_
    exact wp_ret .int rfl rfl (Nat.le_refl 0) (Nat.le_refl 0) dX9_meets_26 ⟨rfl, _, rfl, K⟩
  · rw [if_neg h3] at K
    refine wp_aload_n 0 dX9_meets_12 rfl rfl rfl ?_
    refine wp_getR 9 5 kcX9 kfX9_52 rfl lC_0 (congrArg Prod.fst gC_0) rC_0_5 dX9_meets_13 rfl ?_
    refine wp_iload_n 1 dX9_meets_16 rfl rfl rfl ?_
    refine wp_iload_n 2 dX9_meets_17 rfl rfl rfl ?_
    refine wn_callVi (As := [.int x1, .int x2]) (rest := []) 1 kmX9_253 (by decide) rfl rfl (Nat.le_of_ble_eq_true rfl) lC_141 (congrArg Prod.fst gC_141) dX9_meets_18 rfl ?_
    refine Ci.mono K (fun v5 σ4 K => ?_)
    refine wp_goto 26 dX9_meets_21 (by decide) ?_
    exact wp_ret .int rfl rfl (Nat.le_refl 0) (Nat.le_refl 0) dX9_meets_26 ⟨rfl, _, rfl, K⟩
theorem eX9_meets {E : tp_E} {d : Nat} {Q : Int32 → tp_M → Prop} {σ : tp_M}   (x1 : Int32) (x2 : Int32) (K : Ci E TC yX5_hasTwoWaiters iX5_hasTwoWaiters d [.ref 1, .int x1, .int x2] σ (fun v2 σ1 => if v2 = 0 then (Q (-1000000001) σ1) else (Ci E TC yX1_firstMeeting iX1_firstMeeting d [.ref 141, .int x1, .int x2] σ1 (fun v5 σ4 => Q v5 σ4)))) : Ci E TC yX9_meets iX9_meets (d + 1) [.ref 0, .int x1, .int x2] σ Q := Ci.of ⟨by decide +kernel, rfl, rfl⟩ (Nat.le_of_ble_eq_true rfl) (bX9_meets_0  x1 x2 K)
theorem bX9_way_0 {E : tp_E} {d : Nat} {Q : Int32 → tp_M → Prop} {σ : tp_M}   (x1 : Int32) (x2 : Int32) (x3 : Int32) (K : Ci E TC yX5_hasRoom iX5_hasRoom d [.ref 1, .int x1] σ (fun v2 σ1 => if v2 = 0 then (Q (-1000000001) σ1) else (Ci E TC yX5_hasRoom iX5_hasRoom d [.ref 1, .int x2] σ1 (fun v5 σ4 => if v5 = 0 then (Q (-1000000001) σ4) else (if x3 = 0 then (Ci E TC yX5_distance iX5_distance d [.ref 1, .int x1, .int x2] σ4 (fun v9 σ8 => Q v9 σ8)) else (if x3 = 1 then (Ci E TC yX5_nextTowards iX5_nextTowards d [.ref 1, .int x1, .int x2] σ4 (fun v12 σ11 => Q v12 σ11)) else (Q (-1000000002) σ4))))))) : Wi E TC iX9_way (d + 1) Q 0 [(0, .ref 0), (1, .int x1), (2, .int x2), (3, .int x3)] [] σ := by
  refine wp_aload_n 0 dX9_way_0 rfl rfl rfl ?_
  refine wp_getR 9 1 kcX9 kfX9_25 rfl lC_0 (congrArg Prod.fst gC_0) rC_0_1 dX9_way_1 rfl ?_
  refine wp_iload_n 1 dX9_way_4 rfl rfl rfl ?_
  refine wn_callVi (As := [.int x1]) (rest := []) 5 kmX9_147 (by decide) rfl rfl (Nat.le_of_ble_eq_true rfl) lC_1 (congrArg Prod.fst gC_1) dX9_way_5 rfl ?_
  refine Ci.mono K (fun v2 σ1 K => ?_)
  refine wp_if_eq 22 dX9_way_8 (by decide) rfl (fun h3 => ?_) (fun h3 => ?_)
  · rw [if_pos h3] at K
    refine wp_ldc dX9_way_22 rfl tw_512 ?_
    exact wp_ret .int rfl rfl (Nat.le_refl 0) (Nat.le_refl 0) dX9_way_24 ⟨rfl, _, rfl, K⟩
  · rw [if_neg h3] at K
    refine wp_aload_n 0 dX9_way_11 rfl rfl rfl ?_
    refine wp_getR 9 1 kcX9 kfX9_25 rfl lC_0 (congrArg Prod.fst gC_0) rC_0_1 dX9_way_12 rfl ?_
    refine wp_iload_n 2 dX9_way_15 rfl rfl rfl ?_
    refine wn_callVi (As := [.int x2]) (rest := []) 5 kmX9_147 (by decide) rfl rfl (Nat.le_of_ble_eq_true rfl) lC_1 (congrArg Prod.fst gC_1) dX9_way_16 rfl ?_
    refine Ci.mono K (fun v5 σ4 K => ?_)
    refine wp_if_ne 25 dX9_way_19 (by decide) rfl (fun h6 => ?_) (fun h6 => ?_)
    · rw [if_neg h6] at K
      refine wp_iload_n 3 dX9_way_25 rfl rfl rfl ?_
      by_cases h7 : x3 = 0
      · rw [if_pos h7] at K
        refine wp_lookup 26 52 dX9_way_26 (by decide) (by rw [h7]; rfl) (by decide) ?_
        refine wp_aload_n 0 dX9_way_52 rfl rfl rfl ?_
        refine wp_getR 9 1 kcX9 kfX9_25 rfl lC_0 (congrArg Prod.fst gC_0) rC_0_1 dX9_way_53 rfl ?_
        refine wp_iload_n 1 dX9_way_56 rfl rfl rfl ?_
        refine wp_iload_n 2 dX9_way_57 rfl rfl rfl ?_
        refine wn_callVi (As := [.int x1, .int x2]) (rest := []) 5 kmX9_256 (by decide) rfl rfl (Nat.le_of_ble_eq_true rfl) lC_1 (congrArg Prod.fst gC_1) dX9_way_58 rfl ?_
        refine Ci.mono K (fun v9 σ8 K => ?_)
        exact wp_ret .int rfl rfl (Nat.le_refl 0) (Nat.le_refl 0) dX9_way_61 ⟨rfl, _, rfl, K⟩
      rw [if_neg h7] at K
      by_cases h10 : x3 = 1
      · rw [if_pos h10] at K
        refine wp_lookup 36 62 dX9_way_26 (by decide) (by rw [h10]; rfl) (by decide) ?_
        refine wp_aload_n 0 dX9_way_62 rfl rfl rfl ?_
        refine wp_getR 9 1 kcX9 kfX9_25 rfl lC_0 (congrArg Prod.fst gC_0) rC_0_1 dX9_way_63 rfl ?_
        refine wp_iload_n 1 dX9_way_66 rfl rfl rfl ?_
        refine wp_iload_n 2 dX9_way_67 rfl rfl rfl ?_
        refine wn_callVi (As := [.int x1, .int x2]) (rest := []) 5 kmX9_259 (by decide) rfl rfl (Nat.le_of_ble_eq_true rfl) lC_1 (congrArg Prod.fst gC_1) dX9_way_68 rfl ?_
        refine Ci.mono K (fun v12 σ11 K => ?_)
        exact wp_ret .int rfl rfl (Nat.le_refl 0) (Nat.le_refl 0) dX9_way_71 ⟨rfl, _, rfl, K⟩
      rw [if_neg h10] at K
      refine wp_lookup 46 72 dX9_way_26 (by decide) (by rw [lv_osw h7 (by decide), lv_osw h10 (by decide)]; rfl) (by decide) ?_
      refine wp_ldc dX9_way_72 rfl tw_378 ?_
      exact wp_ret .int rfl rfl (Nat.le_refl 0) (Nat.le_refl 0) dX9_way_74 ⟨rfl, _, rfl, K⟩
    · rw [if_pos h6] at K
      refine wp_ldc dX9_way_22 rfl tw_512 ?_
      exact wp_ret .int rfl rfl (Nat.le_refl 0) (Nat.le_refl 0) dX9_way_24 ⟨rfl, _, rfl, K⟩
theorem eX9_way {E : tp_E} {d : Nat} {Q : Int32 → tp_M → Prop} {σ : tp_M}   (x1 : Int32) (x2 : Int32) (x3 : Int32) (K : Ci E TC yX5_hasRoom iX5_hasRoom d [.ref 1, .int x1] σ (fun v2 σ1 => if v2 = 0 then (Q (-1000000001) σ1) else (Ci E TC yX5_hasRoom iX5_hasRoom d [.ref 1, .int x2] σ1 (fun v5 σ4 => if v5 = 0 then (Q (-1000000001) σ4) else (if x3 = 0 then (Ci E TC yX5_distance iX5_distance d [.ref 1, .int x1, .int x2] σ4 (fun v9 σ8 => Q v9 σ8)) else (if x3 = 1 then (Ci E TC yX5_nextTowards iX5_nextTowards d [.ref 1, .int x1, .int x2] σ4 (fun v12 σ11 => Q v12 σ11)) else (Q (-1000000002) σ4))))))) : Ci E TC yX9_way iX9_way (d + 1) [.ref 0, .int x1, .int x2, .int x3] σ Q := Ci.of ⟨by decide +kernel, rfl, rfl⟩ (Nat.le_of_ble_eq_true rfl) (bX9_way_0  x1 x2 x3 K)
theorem bX9_delays_0 {E : tp_E} {d : Nat} {Q : Int32 → tp_M → Prop} {σ : tp_M}   (x1 : Int32) (K : if x1 = (-1) then (Cv E TC yX1_seek iX1_seek d [.ref 141] σ (fun σ2 => Ci E TC yX1_answer iX1_answer d [.ref 141, .int x1] σ2 (fun v4 σ3 => Q v4 σ3))) else (Ci E TC yX5_hasWaiter iX5_hasWaiter d [.ref 1, .int x1] σ (fun v6 σ5 => if v6 = 0 then (Q (-1000000001) σ5) else (Cv E TC yX1_seek iX1_seek d [.ref 141] σ5 (fun σ8 => Ci E TC yX1_answer iX1_answer d [.ref 141, .int x1] σ8 (fun v10 σ9 => Q v10 σ9)))))) : Wi E TC iX9_delays (d + 1) Q 0 [(0, .ref 0), (1, .int x1)] [] σ := by
  refine wp_iload_n 1 dX9_delays_0 rfl rfl rfl ?_
  refine wp_iconst (v := (-1)) dX9_delays_1 rfl (by decide) ?_
  refine wp_icmp_eq 19 dX9_delays_2 (by decide) rfl (fun h1 => ?_) (fun h1 => ?_)
  · rw [if_pos h1] at K
    refine wp_aload_n 0 dX9_delays_19 rfl rfl rfl ?_
    refine wp_getR 9 5 kcX9 kfX9_52 rfl lC_0 (congrArg Prod.fst gC_0) rC_0_5 dX9_delays_20 rfl ?_
    refine wn_callVv (As := []) (rest := []) 1 kmX9_262 (by decide) rfl rfl (Nat.le_of_ble_eq_true rfl) lC_141 (congrArg Prod.fst gC_141) dX9_delays_23 rfl ?_
    refine Cv.mono K (fun σ2 K => ?_)
    refine wp_aload_n 0 dX9_delays_26 rfl rfl rfl ?_
    refine wp_getR 9 5 kcX9 kfX9_52 rfl lC_0 (congrArg Prod.fst gC_0) rC_0_5 dX9_delays_27 rfl ?_
    refine wp_iload_n 1 dX9_delays_30 rfl rfl rfl ?_
    refine wn_callVi (As := [.int x1]) (rest := []) 1 kmX9_265 (by decide) rfl rfl (Nat.le_of_ble_eq_true rfl) lC_141 (congrArg Prod.fst gC_141) dX9_delays_31 rfl ?_
    refine Ci.mono K (fun v4 σ3 K => ?_)
    exact wp_ret .int rfl rfl (Nat.le_refl 0) (Nat.le_refl 0) dX9_delays_34 ⟨rfl, _, rfl, K⟩
  · rw [if_neg h1] at K
    refine wp_aload_n 0 dX9_delays_5 rfl rfl rfl ?_
    refine wp_getR 9 1 kcX9 kfX9_25 rfl lC_0 (congrArg Prod.fst gC_0) rC_0_1 dX9_delays_6 rfl ?_
    refine wp_iload_n 1 dX9_delays_9 rfl rfl rfl ?_
    refine wn_callVi (As := [.int x1]) (rest := []) 5 kmX9_154 (by decide) rfl rfl (Nat.le_of_ble_eq_true rfl) lC_1 (congrArg Prod.fst gC_1) dX9_delays_10 rfl ?_
    refine Ci.mono K (fun v6 σ5 K => ?_)
    refine wp_if_ne 19 dX9_delays_13 (by decide) rfl (fun h7 => ?_) (fun h7 => ?_)
    · rw [if_neg h7] at K
      refine wp_aload_n 0 dX9_delays_19 rfl rfl rfl ?_
      refine wp_getR 9 5 kcX9 kfX9_52 rfl lC_0 (congrArg Prod.fst gC_0) rC_0_5 dX9_delays_20 rfl ?_
      refine wn_callVv (As := []) (rest := []) 1 kmX9_262 (by decide) rfl rfl (Nat.le_of_ble_eq_true rfl) lC_141 (congrArg Prod.fst gC_141) dX9_delays_23 rfl ?_
      refine Cv.mono K (fun σ8 K => ?_)
      refine wp_aload_n 0 dX9_delays_26 rfl rfl rfl ?_
      refine wp_getR 9 5 kcX9 kfX9_52 rfl lC_0 (congrArg Prod.fst gC_0) rC_0_5 dX9_delays_27 rfl ?_
      refine wp_iload_n 1 dX9_delays_30 rfl rfl rfl ?_
      refine wn_callVi (As := [.int x1]) (rest := []) 1 kmX9_265 (by decide) rfl rfl (Nat.le_of_ble_eq_true rfl) lC_141 (congrArg Prod.fst gC_141) dX9_delays_31 rfl ?_
      refine Ci.mono K (fun v10 σ9 K => ?_)
      exact wp_ret .int rfl rfl (Nat.le_refl 0) (Nat.le_refl 0) dX9_delays_34 ⟨rfl, _, rfl, K⟩
    · rw [if_pos h7] at K
      refine wp_ldc dX9_delays_16 rfl tw_512 ?_
      exact wp_ret .int rfl rfl (Nat.le_refl 0) (Nat.le_refl 0) dX9_delays_18 ⟨rfl, _, rfl, K⟩
theorem eX9_delays {E : tp_E} {d : Nat} {Q : Int32 → tp_M → Prop} {σ : tp_M}   (x1 : Int32) (K : if x1 = (-1) then (Cv E TC yX1_seek iX1_seek d [.ref 141] σ (fun σ2 => Ci E TC yX1_answer iX1_answer d [.ref 141, .int x1] σ2 (fun v4 σ3 => Q v4 σ3))) else (Ci E TC yX5_hasWaiter iX5_hasWaiter d [.ref 1, .int x1] σ (fun v6 σ5 => if v6 = 0 then (Q (-1000000001) σ5) else (Cv E TC yX1_seek iX1_seek d [.ref 141] σ5 (fun σ8 => Ci E TC yX1_answer iX1_answer d [.ref 141, .int x1] σ8 (fun v10 σ9 => Q v10 σ9)))))) : Ci E TC yX9_delays iX9_delays (d + 1) [.ref 0, .int x1] σ Q := Ci.of ⟨by decide +kernel, rfl, rfl⟩ (Nat.le_of_ble_eq_true rfl) (bX9_delays_0  x1 K)
theorem bX9_served_0 {E : tp_E} {d : Nat} {Q : Int32 → tp_M → Prop} {σ : tp_M}   (x1 : Int32) (K : if x1 = (-1) then (Cv E TC yX7_seek iX7_seek d [.ref 147] σ (fun σ2 => Ci E TC yX7_answer iX7_answer d [.ref 147, .int x1] σ2 (fun v4 σ3 => Q v4 σ3))) else (Ci E TC yX5_hasOrder iX5_hasOrder d [.ref 1, .int x1] σ (fun v6 σ5 => if v6 = 0 then (Q (-1000000001) σ5) else (Cv E TC yX7_seek iX7_seek d [.ref 147] σ5 (fun σ8 => Ci E TC yX7_answer iX7_answer d [.ref 147, .int x1] σ8 (fun v10 σ9 => Q v10 σ9)))))) : Wi E TC iX9_served (d + 1) Q 0 [(0, .ref 0), (1, .int x1)] [] σ := by
  refine wp_iload_n 1 dX9_served_0 rfl rfl rfl ?_
  refine wp_iconst (v := (-1)) dX9_served_1 rfl (by decide) ?_
  refine wp_icmp_eq 19 dX9_served_2 (by decide) rfl (fun h1 => ?_) (fun h1 => ?_)
  · rw [if_pos h1] at K
    refine wp_aload_n 0 dX9_served_19 rfl rfl rfl ?_
    refine wp_getR 9 6 kcX9 kfX9_59 rfl lC_0 (congrArg Prod.fst gC_0) rC_0_6 dX9_served_20 rfl ?_
    refine wn_callVv (As := []) (rest := []) 7 kmX9_271 (by decide) rfl rfl (Nat.le_of_ble_eq_true rfl) lC_147 (congrArg Prod.fst gC_147) dX9_served_23 rfl ?_
    refine Cv.mono K (fun σ2 K => ?_)
    refine wp_aload_n 0 dX9_served_26 rfl rfl rfl ?_
    refine wp_getR 9 6 kcX9 kfX9_59 rfl lC_0 (congrArg Prod.fst gC_0) rC_0_6 dX9_served_27 rfl ?_
    refine wp_iload_n 1 dX9_served_30 rfl rfl rfl ?_
    refine wn_callVi (As := [.int x1]) (rest := []) 7 kmX9_272 (by decide) rfl rfl (Nat.le_of_ble_eq_true rfl) lC_147 (congrArg Prod.fst gC_147) dX9_served_31 rfl ?_
    refine Ci.mono K (fun v4 σ3 K => ?_)
    exact wp_ret .int rfl rfl (Nat.le_refl 0) (Nat.le_refl 0) dX9_served_34 ⟨rfl, _, rfl, K⟩
  · rw [if_neg h1] at K
    refine wp_aload_n 0 dX9_served_5 rfl rfl rfl ?_
    refine wp_getR 9 1 kcX9 kfX9_25 rfl lC_0 (congrArg Prod.fst gC_0) rC_0_1 dX9_served_6 rfl ?_
    refine wp_iload_n 1 dX9_served_9 rfl rfl rfl ?_
    refine wn_callVi (As := [.int x1]) (rest := []) 5 kmX9_268 (by decide) rfl rfl (Nat.le_of_ble_eq_true rfl) lC_1 (congrArg Prod.fst gC_1) dX9_served_10 rfl ?_
    refine Ci.mono K (fun v6 σ5 K => ?_)
    refine wp_if_ne 19 dX9_served_13 (by decide) rfl (fun h7 => ?_) (fun h7 => ?_)
    · rw [if_neg h7] at K
      refine wp_aload_n 0 dX9_served_19 rfl rfl rfl ?_
      refine wp_getR 9 6 kcX9 kfX9_59 rfl lC_0 (congrArg Prod.fst gC_0) rC_0_6 dX9_served_20 rfl ?_
      refine wn_callVv (As := []) (rest := []) 7 kmX9_271 (by decide) rfl rfl (Nat.le_of_ble_eq_true rfl) lC_147 (congrArg Prod.fst gC_147) dX9_served_23 rfl ?_
      refine Cv.mono K (fun σ8 K => ?_)
      refine wp_aload_n 0 dX9_served_26 rfl rfl rfl ?_
      refine wp_getR 9 6 kcX9 kfX9_59 rfl lC_0 (congrArg Prod.fst gC_0) rC_0_6 dX9_served_27 rfl ?_
      refine wp_iload_n 1 dX9_served_30 rfl rfl rfl ?_
      refine wn_callVi (As := [.int x1]) (rest := []) 7 kmX9_272 (by decide) rfl rfl (Nat.le_of_ble_eq_true rfl) lC_147 (congrArg Prod.fst gC_147) dX9_served_31 rfl ?_
      refine Ci.mono K (fun v10 σ9 K => ?_)
      exact wp_ret .int rfl rfl (Nat.le_refl 0) (Nat.le_refl 0) dX9_served_34 ⟨rfl, _, rfl, K⟩
    · rw [if_pos h7] at K
      refine wp_ldc dX9_served_16 rfl tw_512 ?_
      exact wp_ret .int rfl rfl (Nat.le_refl 0) (Nat.le_refl 0) dX9_served_18 ⟨rfl, _, rfl, K⟩
theorem eX9_served {E : tp_E} {d : Nat} {Q : Int32 → tp_M → Prop} {σ : tp_M}   (x1 : Int32) (K : if x1 = (-1) then (Cv E TC yX7_seek iX7_seek d [.ref 147] σ (fun σ2 => Ci E TC yX7_answer iX7_answer d [.ref 147, .int x1] σ2 (fun v4 σ3 => Q v4 σ3))) else (Ci E TC yX5_hasOrder iX5_hasOrder d [.ref 1, .int x1] σ (fun v6 σ5 => if v6 = 0 then (Q (-1000000001) σ5) else (Cv E TC yX7_seek iX7_seek d [.ref 147] σ5 (fun σ8 => Ci E TC yX7_answer iX7_answer d [.ref 147, .int x1] σ8 (fun v10 σ9 => Q v10 σ9)))))) : Ci E TC yX9_served iX9_served (d + 1) [.ref 0, .int x1] σ Q := Ci.of ⟨by decide +kernel, rfl, rfl⟩ (Nat.le_of_ble_eq_true rfl) (bX9_served_0  x1 K)
theorem bX9_evened_0 {E : tp_E} {d : Nat} {Q : Int32 → tp_M → Prop} {σ : tp_M}   (x1 : Int32) (x2 : Int32) (K : Ci E TC yX5_hasWaiter iX5_hasWaiter d [.ref 1, .int x1] σ (fun v2 σ1 => if v2 = 0 then (Q (-1000000001) σ1) else (Ci E TC yX8_thingsOf iX8_thingsOf d [.ref 9, .int x1] σ1 (fun v5 σ4 => if x2 = 0 then (Ci E TC yX5_evenestLeft iX5_evenestLeft d [.ref 1, .int v5] σ4 (fun v8 σ7 => Q v8 σ7)) else (if x2 = 1 then (Ci E TC yX5_evenestLeft iX5_evenestLeft d [.ref 1, .int v5] σ4 (fun v11 σ10 => Ci E TC yX5_difference iX5_difference d [.ref 1, .int v5, .int v11] σ10 (fun v13 σ12 => Q v13 σ12))) else (Q (-1000000002) σ4)))))) : Wi E TC iX9_evened (d + 1) Q 0 [(0, .ref 0), (1, .int x1), (2, .int x2)] [] σ := by
  refine wp_aload_n 0 dX9_evened_0 rfl rfl rfl ?_
  refine wp_getR 9 1 kcX9 kfX9_25 rfl lC_0 (congrArg Prod.fst gC_0) rC_0_1 dX9_evened_1 rfl ?_
  refine wp_iload_n 1 dX9_evened_4 rfl rfl rfl ?_
  refine wn_callVi (As := [.int x1]) (rest := []) 5 kmX9_154 (by decide) rfl rfl (Nat.le_of_ble_eq_true rfl) lC_1 (congrArg Prod.fst gC_1) dX9_evened_5 rfl ?_
  refine Ci.mono K (fun v2 σ1 K => ?_)
  refine wp_if_ne 14 dX9_evened_8 (by decide) rfl (fun h3 => ?_) (fun h3 => ?_)
  · rw [if_neg h3] at K
    refine wp_aload_n 0 dX9_evened_14 rfl rfl rfl ?_
    refine wp_getR 9 2 kcX9 kfX9_29 rfl lC_0 (congrArg Prod.fst gC_0) rC_0_2 dX9_evened_15 rfl ?_
    refine wp_iload_n 1 dX9_evened_18 rfl rfl rfl ?_
    refine wn_callVi (As := [.int x1]) (rest := []) 8 kmX9_168 (by decide) rfl rfl (Nat.le_of_ble_eq_true rfl) lC_9 (congrArg Prod.fst gC_9) dX9_evened_19 rfl ?_
    refine Ci.mono K (fun v5 σ4 K => ?_)
    refine wp_istore_n [1, 2, 3, 0] dX9_evened_22 rfl rfl (by decide) rfl ?_
    show WP _ _ _ _ _ _ _ 23 [(0, .ref 0), (1, .int x1), (2, .int x2), (3, .int v5)] _ _ _
    refine wp_iload_n 2 dX9_evened_23 rfl rfl rfl ?_
    by_cases h6 : x2 = 0
    · rw [if_pos h6] at K
      refine wp_lookup 28 52 dX9_evened_24 (by decide) (by rw [h6]; rfl) (by decide) ?_
      refine wp_aload_n 0 dX9_evened_52 rfl rfl rfl ?_
      refine wp_getR 9 1 kcX9 kfX9_25 rfl lC_0 (congrArg Prod.fst gC_0) rC_0_1 dX9_evened_53 rfl ?_
      refine wp_iload_n 3 dX9_evened_56 rfl rfl rfl ?_
      refine wn_callVi (As := [.int v5]) (rest := []) 5 kmX9_273 (by decide) rfl rfl (Nat.le_of_ble_eq_true rfl) lC_1 (congrArg Prod.fst gC_1) dX9_evened_57 rfl ?_
      refine Ci.mono K (fun v8 σ7 K => ?_)
      exact wp_ret .int rfl rfl (Nat.le_refl 0) (Nat.le_refl 0) dX9_evened_60 ⟨rfl, _, rfl, K⟩
    rw [if_neg h6] at K
    by_cases h9 : x2 = 1
    · rw [if_pos h9] at K
      refine wp_lookup 37 61 dX9_evened_24 (by decide) (by rw [h9]; rfl) (by decide) ?_
      refine wp_aload_n 0 dX9_evened_61 rfl rfl rfl ?_
      refine wp_getR 9 1 kcX9 kfX9_25 rfl lC_0 (congrArg Prod.fst gC_0) rC_0_1 dX9_evened_62 rfl ?_
      refine wp_iload_n 3 dX9_evened_65 rfl rfl rfl ?_
      refine wp_aload_n 0 dX9_evened_66 rfl rfl rfl ?_
      refine wp_getR 9 1 kcX9 kfX9_25 rfl lC_0 (congrArg Prod.fst gC_0) rC_0_1 dX9_evened_67 rfl ?_
      refine wp_iload_n 3 dX9_evened_70 rfl rfl rfl ?_
      refine wn_callVi (As := [.int v5]) (rest := [.int v5, .ref 1]) 5 kmX9_273 (by decide) rfl rfl (Nat.le_of_ble_eq_true rfl) lC_1 (congrArg Prod.fst gC_1) dX9_evened_71 rfl ?_
      refine Ci.mono K (fun v11 σ10 K => ?_)
      refine wn_callVi (As := [.int v5, .int v11]) (rest := []) 5 kmX9_276 (by decide) rfl rfl (Nat.le_of_ble_eq_true rfl) lC_1 (congrArg Prod.fst gC_1) dX9_evened_74 rfl ?_
      refine Ci.mono K (fun v13 σ12 K => ?_)
      exact wp_ret .int rfl rfl (Nat.le_refl 0) (Nat.le_refl 0) dX9_evened_77 ⟨rfl, _, rfl, K⟩
    rw [if_neg h9] at K
    refine wp_lookup 54 78 dX9_evened_24 (by decide) (by rw [lv_osw h6 (by decide), lv_osw h9 (by decide)]; rfl) (by decide) ?_
    refine wp_ldc dX9_evened_78 rfl tw_378 ?_
    exact wp_ret .int rfl rfl (Nat.le_refl 0) (Nat.le_refl 0) dX9_evened_80 ⟨rfl, _, rfl, K⟩
  · rw [if_pos h3] at K
    refine wp_ldc dX9_evened_11 rfl tw_512 ?_
    exact wp_ret .int rfl rfl (Nat.le_refl 0) (Nat.le_refl 0) dX9_evened_13 ⟨rfl, _, rfl, K⟩
theorem eX9_evened {E : tp_E} {d : Nat} {Q : Int32 → tp_M → Prop} {σ : tp_M}   (x1 : Int32) (x2 : Int32) (K : Ci E TC yX5_hasWaiter iX5_hasWaiter d [.ref 1, .int x1] σ (fun v2 σ1 => if v2 = 0 then (Q (-1000000001) σ1) else (Ci E TC yX8_thingsOf iX8_thingsOf d [.ref 9, .int x1] σ1 (fun v5 σ4 => if x2 = 0 then (Ci E TC yX5_evenestLeft iX5_evenestLeft d [.ref 1, .int v5] σ4 (fun v8 σ7 => Q v8 σ7)) else (if x2 = 1 then (Ci E TC yX5_evenestLeft iX5_evenestLeft d [.ref 1, .int v5] σ4 (fun v11 σ10 => Ci E TC yX5_difference iX5_difference d [.ref 1, .int v5, .int v11] σ10 (fun v13 σ12 => Q v13 σ12))) else (Q (-1000000002) σ4)))))) : Ci E TC yX9_evened iX9_evened (d + 1) [.ref 0, .int x1, .int x2] σ Q := Ci.of ⟨by decide +kernel, rfl, rfl⟩ (Nat.le_of_ble_eq_true rfl) (bX9_evened_0  x1 x2 K)
theorem bX9_packed_0 {E : tp_E} {d : Nat} {Q : Int32 → tp_M → Prop} {σ : tp_M}   (x1 : Int32) (x2 : Int32) (K : Ci E TC yX5_hasWaiter iX5_hasWaiter d [.ref 1, .int x1] σ (fun v2 σ1 => if v2 = 0 then (Q (-1000000001) σ1) else (vp_in x1 4 ∧ (Ci E TC yX8_thingsOf iX8_thingsOf d [.ref 9, .int x1] σ1 (fun v6 σ5 => Ci E TC yX5_weightOf iX5_weightOf d [.ref 1, .int v6] σ5 (fun v8 σ7 => Ci E TC yX8_thingsAt iX8_thingsAt d [.ref 9, .int (-1)] σ7 (fun v10 σ9 => if x2 = 0 then (Ci E TC yX5_worthiest iX5_worthiest d [.ref 1, .int v10, .int ((σ1 4 (Int32.toNatClampNeg x1)) - v8)] σ9 (fun v13 σ12 => Q v13 σ12)) else (if x2 = 1 then (Ci E TC yX5_worthiest iX5_worthiest d [.ref 1, .int v10, .int ((σ1 4 (Int32.toNatClampNeg x1)) - v8)] σ9 (fun v16 σ15 => Ci E TC yX5_worthOf iX5_worthOf d [.ref 1, .int v16] σ15 (fun v18 σ17 => Q v18 σ17))) else (Q (-1000000002) σ9))))))))) : Wi E TC iX9_packed (d + 1) Q 0 [(0, .ref 0), (1, .int x1), (2, .int x2)] [] σ := by
  refine wp_aload_n 0 dX9_packed_0 rfl rfl rfl ?_
  refine wp_getR 9 1 kcX9 kfX9_25 rfl lC_0 (congrArg Prod.fst gC_0) rC_0_1 dX9_packed_1 rfl ?_
  refine wp_iload_n 1 dX9_packed_4 rfl rfl rfl ?_
  refine wn_callVi (As := [.int x1]) (rest := []) 5 kmX9_154 (by decide) rfl rfl (Nat.le_of_ble_eq_true rfl) lC_1 (congrArg Prod.fst gC_1) dX9_packed_5 rfl ?_
  refine Ci.mono K (fun v2 σ1 K => ?_)
  refine wp_if_ne 14 dX9_packed_8 (by decide) rfl (fun h3 => ?_) (fun h3 => ?_)
  · rw [if_neg h3] at K
    refine wp_aload_n 0 dX9_packed_14 rfl rfl rfl ?_
    refine wp_getR 9 1 kcX9 kfX9_25 rfl lC_0 (congrArg Prod.fst gC_0) rC_0_1 dX9_packed_15 rfl ?_
    refine wp_getR 5 8 kcX5 kfX9_160 rfl lC_1 (congrArg Prod.fst gC_1) rC_1_8 dX9_packed_18 rfl ?_
    refine wp_iload_n 1 dX9_packed_21 rfl rfl rfl ?_
    obtain ⟨k4, K⟩ := K
    refine wn_iald lC_4 gC_4 k4 dX9_packed_22 rfl ?_
    refine wp_aload_n 0 dX9_packed_23 rfl rfl rfl ?_
    refine wp_getR 9 1 kcX9 kfX9_25 rfl lC_0 (congrArg Prod.fst gC_0) rC_0_1 dX9_packed_24 rfl ?_
    refine wp_aload_n 0 dX9_packed_27 rfl rfl rfl ?_
    refine wp_getR 9 2 kcX9 kfX9_29 rfl lC_0 (congrArg Prod.fst gC_0) rC_0_2 dX9_packed_28 rfl ?_
    refine wp_iload_n 1 dX9_packed_31 rfl rfl rfl ?_
    refine wn_callVi (As := [.int x1]) (rest := [.ref 1, .int (σ1 4 (Int32.toNatClampNeg x1))]) 8 kmX9_168 (by decide) rfl rfl (Nat.le_of_ble_eq_true rfl) lC_9 (congrArg Prod.fst gC_9) dX9_packed_32 rfl ?_
    refine Ci.mono K (fun v6 σ5 K => ?_)
    refine wn_callVi (As := [.int v6]) (rest := [.int (σ1 4 (Int32.toNatClampNeg x1))]) 5 kmX9_171 (by decide) rfl rfl (Nat.le_of_ble_eq_true rfl) lC_1 (congrArg Prod.fst gC_1) dX9_packed_35 rfl ?_
    refine Ci.mono K (fun v8 σ7 K => ?_)
    refine wp_isub dX9_packed_38 rfl ?_
    refine wp_istore_n [1, 2, 3, 0] dX9_packed_39 rfl rfl (by decide) rfl ?_
    show WP _ _ _ _ _ _ _ 40 [(0, .ref 0), (1, .int x1), (2, .int x2), (3, .int ((σ1 4 (Int32.toNatClampNeg x1)) - v8))] _ _ _
    refine wp_aload_n 0 dX9_packed_40 rfl rfl rfl ?_
    refine wp_getR 9 2 kcX9 kfX9_29 rfl lC_0 (congrArg Prod.fst gC_0) rC_0_2 dX9_packed_41 rfl ?_
    refine wp_iconst (v := (-1)) dX9_packed_44 rfl (by decide) ?_
    refine wn_callVi (As := [.int (-1)]) (rest := []) 8 kmX9_132 (by decide) rfl rfl (Nat.le_of_ble_eq_true rfl) lC_9 (congrArg Prod.fst gC_9) dX9_packed_45 rfl ?_
    refine Ci.mono K (fun v10 σ9 K => ?_)
    refine wp_istore [1, 2, 3, 4, 0] dX9_packed_48 rfl (by decide) rfl ?_
    show WP _ _ _ _ _ _ _ 50 [(0, .ref 0), (1, .int x1), (2, .int x2), (3, .int ((σ1 4 (Int32.toNatClampNeg x1)) - v8)), (4, .int v10)] _ _ _
    refine wp_iload_n 2 dX9_packed_50 rfl rfl rfl ?_
    by_cases h11 : x2 = 0
    · rw [if_pos h11] at K
      refine wp_lookup 25 76 dX9_packed_51 (by decide) (by rw [h11]; rfl) (by decide) ?_
      refine wp_aload_n 0 dX9_packed_76 rfl rfl rfl ?_
      refine wp_getR 9 1 kcX9 kfX9_25 rfl lC_0 (congrArg Prod.fst gC_0) rC_0_1 dX9_packed_77 rfl ?_
      refine wp_iload 4 dX9_packed_80 rfl rfl ?_
      refine wp_iload_n 3 dX9_packed_82 rfl rfl rfl ?_
      refine wn_callVi (As := [.int v10, .int ((σ1 4 (Int32.toNatClampNeg x1)) - v8)]) (rest := []) 5 kmX9_279 (by decide) rfl rfl (Nat.le_of_ble_eq_true rfl) lC_1 (congrArg Prod.fst gC_1) dX9_packed_83 rfl ?_
      refine Ci.mono K (fun v13 σ12 K => ?_)
      exact wp_ret .int rfl rfl (Nat.le_refl 0) (Nat.le_refl 0) dX9_packed_86 ⟨rfl, _, rfl, K⟩
    rw [if_neg h11] at K
    by_cases h14 : x2 = 1
    · rw [if_pos h14] at K
      refine wp_lookup 36 87 dX9_packed_51 (by decide) (by rw [h14]; rfl) (by decide) ?_
      refine wp_aload_n 0 dX9_packed_87 rfl rfl rfl ?_
      refine wp_getR 9 1 kcX9 kfX9_25 rfl lC_0 (congrArg Prod.fst gC_0) rC_0_1 dX9_packed_88 rfl ?_
      refine wp_aload_n 0 dX9_packed_91 rfl rfl rfl ?_
      refine wp_getR 9 1 kcX9 kfX9_25 rfl lC_0 (congrArg Prod.fst gC_0) rC_0_1 dX9_packed_92 rfl ?_
      refine wp_iload 4 dX9_packed_95 rfl rfl ?_
      refine wp_iload_n 3 dX9_packed_97 rfl rfl rfl ?_
      refine wn_callVi (As := [.int v10, .int ((σ1 4 (Int32.toNatClampNeg x1)) - v8)]) (rest := [.ref 1]) 5 kmX9_279 (by decide) rfl rfl (Nat.le_of_ble_eq_true rfl) lC_1 (congrArg Prod.fst gC_1) dX9_packed_98 rfl ?_
      refine Ci.mono K (fun v16 σ15 K => ?_)
      refine wn_callVi (As := [.int v16]) (rest := []) 5 kmX9_136 (by decide) rfl rfl (Nat.le_of_ble_eq_true rfl) lC_1 (congrArg Prod.fst gC_1) dX9_packed_101 rfl ?_
      refine Ci.mono K (fun v18 σ17 K => ?_)
      exact wp_ret .int rfl rfl (Nat.le_refl 0) (Nat.le_refl 0) dX9_packed_104 ⟨rfl, _, rfl, K⟩
    rw [if_neg h14] at K
    refine wp_lookup 54 105 dX9_packed_51 (by decide) (by rw [lv_osw h11 (by decide), lv_osw h14 (by decide)]; rfl) (by decide) ?_
    refine wp_ldc dX9_packed_105 rfl tw_378 ?_
    exact wp_ret .int rfl rfl (Nat.le_refl 0) (Nat.le_refl 0) dX9_packed_107 ⟨rfl, _, rfl, K⟩
  · rw [if_pos h3] at K
    refine wp_ldc dX9_packed_11 rfl tw_512 ?_
    exact wp_ret .int rfl rfl (Nat.le_refl 0) (Nat.le_refl 0) dX9_packed_13 ⟨rfl, _, rfl, K⟩
theorem eX9_packed {E : tp_E} {d : Nat} {Q : Int32 → tp_M → Prop} {σ : tp_M}   (x1 : Int32) (x2 : Int32) (K : Ci E TC yX5_hasWaiter iX5_hasWaiter d [.ref 1, .int x1] σ (fun v2 σ1 => if v2 = 0 then (Q (-1000000001) σ1) else (vp_in x1 4 ∧ (Ci E TC yX8_thingsOf iX8_thingsOf d [.ref 9, .int x1] σ1 (fun v6 σ5 => Ci E TC yX5_weightOf iX5_weightOf d [.ref 1, .int v6] σ5 (fun v8 σ7 => Ci E TC yX8_thingsAt iX8_thingsAt d [.ref 9, .int (-1)] σ7 (fun v10 σ9 => if x2 = 0 then (Ci E TC yX5_worthiest iX5_worthiest d [.ref 1, .int v10, .int ((σ1 4 (Int32.toNatClampNeg x1)) - v8)] σ9 (fun v13 σ12 => Q v13 σ12)) else (if x2 = 1 then (Ci E TC yX5_worthiest iX5_worthiest d [.ref 1, .int v10, .int ((σ1 4 (Int32.toNatClampNeg x1)) - v8)] σ9 (fun v16 σ15 => Ci E TC yX5_worthOf iX5_worthOf d [.ref 1, .int v16] σ15 (fun v18 σ17 => Q v18 σ17))) else (Q (-1000000002) σ9))))))))) : Ci E TC yX9_packed iX9_packed (d + 1) [.ref 0, .int x1, .int x2] σ Q := Ci.of ⟨by decide +kernel, rfl, rfl⟩ (Nat.le_of_ble_eq_true rfl) (bX9_packed_0  x1 x2 K)
theorem bX9_covered_0 {E : tp_E} {d : Nat} {Q : Int32 → tp_M → Prop} {σ : tp_M}   (x1 : Int32) (x2 : Int32) (K : Ci E TC yX5_hasRoom iX5_hasRoom d [.ref 1, .int x1] σ (fun v2 σ1 => if v2 = 0 then (Q (-1000000001) σ1) else (Ci E TC yX9_isForeseen iX9_isForeseen d [.int x2, .int 0] σ1 (fun v5 σ4 => if v5 = 0 then (Q (-1000000002) σ4) else (Wi E TC iX9_covered (d + 1) Q 32 [(0, .ref 0), (2, .int x2), (3, .int (1 <<< (x1 &&& 31))), (4, .int 0)] [] σ4))))) : Wi E TC iX9_covered (d + 1) Q 0 [(0, .ref 0), (1, .int x1), (2, .int x2)] [] σ := by
  refine wp_aload_n 0 dX9_covered_0 rfl rfl rfl ?_
  refine wp_getR 9 1 kcX9 kfX9_25 rfl lC_0 (congrArg Prod.fst gC_0) rC_0_1 dX9_covered_1 rfl ?_
  refine wp_iload_n 1 dX9_covered_4 rfl rfl rfl ?_
  refine wn_callVi (As := [.int x1]) (rest := []) 5 kmX9_147 (by decide) rfl rfl (Nat.le_of_ble_eq_true rfl) lC_1 (congrArg Prod.fst gC_1) dX9_covered_5 rfl ?_
  refine Ci.mono K (fun v2 σ1 K => ?_)
  refine wp_if_ne 14 dX9_covered_8 (by decide) rfl (fun h3 => ?_) (fun h3 => ?_)
  · rw [if_neg h3] at K
    refine wp_iload_n 2 dX9_covered_14 rfl rfl rfl ?_
    refine wp_iconst (v := 0) dX9_covered_15 rfl (by decide) ?_
    refine wn_callSi (As := [.int x2, .int 0]) (rest := []) kmX9_247 (by decide) rfl rfl (Nat.le_of_ble_eq_true rfl) dX9_covered_16 rfl ?_
    refine Ci.mono K (fun v5 σ4 K => ?_)
    refine wp_if_ne 25 dX9_covered_19 (by decide) rfl (fun h6 => ?_) (fun h6 => ?_)
    · rw [if_neg h6] at K
      refine wp_iconst (v := 1) dX9_covered_25 rfl (by decide) ?_
      refine wp_iload_n 1 dX9_covered_26 rfl rfl rfl ?_
      refine wp_ishl dX9_covered_27 rfl ?_
      refine wp_istore_n [1, 2, 3, 0] dX9_covered_28 rfl rfl (by decide) rfl ?_
      show WP _ _ _ _ _ _ _ 29 [(0, .ref 0), (1, .int x1), (2, .int x2), (3, .int (1 <<< (x1 &&& 31)))] _ _ _
      refine wp_iconst (v := 0) dX9_covered_29 rfl (by decide) ?_
      refine wp_istore [1, 2, 3, 4, 0] dX9_covered_30 rfl (by decide) rfl ?_
      show WP _ _ _ _ _ _ _ 32 [(0, .ref 0), (1, .int x1), (2, .int x2), (3, .int (1 <<< (x1 &&& 31))), (4, .int 0)] _ _ _
      refine wp_lv [0, 2, 3, 4] rfl ?_
      exact K
    · rw [if_pos h6] at K
      refine wp_ldc dX9_covered_22 rfl tw_378 ?_
      exact wp_ret .int rfl rfl (Nat.le_refl 0) (Nat.le_refl 0) dX9_covered_24 ⟨rfl, _, rfl, K⟩
  · rw [if_pos h3] at K
    refine wp_ldc dX9_covered_11 rfl tw_512 ?_
    exact wp_ret .int rfl rfl (Nat.le_refl 0) (Nat.le_refl 0) dX9_covered_13 ⟨rfl, _, rfl, K⟩
theorem eX9_covered {E : tp_E} {d : Nat} {Q : Int32 → tp_M → Prop} {σ : tp_M}   (x1 : Int32) (x2 : Int32) (K : Ci E TC yX5_hasRoom iX5_hasRoom d [.ref 1, .int x1] σ (fun v2 σ1 => if v2 = 0 then (Q (-1000000001) σ1) else (Ci E TC yX9_isForeseen iX9_isForeseen d [.int x2, .int 0] σ1 (fun v5 σ4 => if v5 = 0 then (Q (-1000000002) σ4) else (Wi E TC iX9_covered (d + 1) Q 32 [(0, .ref 0), (2, .int x2), (3, .int (1 <<< (x1 &&& 31))), (4, .int 0)] [] σ4))))) : Ci E TC yX9_covered iX9_covered (d + 1) [.ref 0, .int x1, .int x2] σ Q := Ci.of ⟨by decide +kernel, rfl, rfl⟩ (Nat.le_of_ble_eq_true rfl) (bX9_covered_0  x1 x2 K)
theorem bX9_covered_32 {E : tp_E} {d : Nat} {Q : Int32 → tp_M → Prop} {σ : tp_M}   (x2 : Int32) (x3 : Int32) (x4 : Int32) (K : if x2 ≤ x4 then (Q x3 σ) else (Ci E TC yX5_joinedToAny iX5_joinedToAny d [.ref 1, .int x3] σ (fun v3 σ2 => Wi E TC iX9_covered (d + 1) Q 32 [(0, .ref 0), (2, .int x2), (3, .int v3), (4, .int (x4 + 1))] [] σ2))) : Wi E TC iX9_covered (d + 1) Q 32 [(0, .ref 0), (2, .int x2), (3, .int x3), (4, .int x4)] [] σ := by
  refine wp_iload 3 dX9_covered_32 rfl rfl ?_
  refine wp_iload_n 1 dX9_covered_34 rfl rfl rfl ?_
  refine wp_icmp_ge 53 dX9_covered_35 (by decide) rfl (fun h1 => ?_) (fun h1 => ?_)
  · rw [if_pos h1] at K
    refine wp_iload_n 2 dX9_covered_53 rfl rfl rfl ?_
    exact wp_ret .int rfl rfl (Nat.le_refl 0) (Nat.le_refl 0) dX9_covered_54 ⟨rfl, _, rfl, K⟩
  · rw [if_neg h1] at K
    refine wp_aload_n 0 dX9_covered_38 rfl rfl rfl ?_
    refine wp_getR 9 1 kcX9 kfX9_25 rfl lC_0 (congrArg Prod.fst gC_0) rC_0_1 dX9_covered_39 rfl ?_
    refine wp_iload_n 2 dX9_covered_42 rfl rfl rfl ?_
    refine wn_callVi (As := [.int x3]) (rest := []) 5 kmX9_282 (by decide) rfl rfl (Nat.le_of_ble_eq_true rfl) lC_1 (congrArg Prod.fst gC_1) dX9_covered_43 rfl ?_
    refine Ci.mono K (fun v3 σ2 K => ?_)
    refine wp_istore_n [1, 2, 0, 3] dX9_covered_46 rfl rfl (by decide) rfl ?_
    show WP _ _ _ _ _ _ _ 47 [(0, .ref 0), (2, .int x2), (3, .int v3), (4, .int x4)] _ _ _
    refine wp_iinc (v := x4 + 1) 3 [1, 2, 3, 0] dX9_covered_47 rfl (by decide) rfl rfl rfl ?_
    show WP _ _ _ _ _ _ _ 50 [(0, .ref 0), (2, .int x2), (3, .int v3), (4, .int (x4 + 1))] _ _ _
    refine wp_goto 32 dX9_covered_50 (by decide) ?_
    exact K
theorem bX9_calm_0 {E : tp_E} {d : Nat} {Q : Int32 → tp_M → Prop} {σ : tp_M}   (x1 : Int32) (x2 : Int32) (K : if x1 < 0 then (Q (-1000000002) σ) else (if 60 < x1 then (Q (-1000000002) σ) else (if x2 < 0 then (Q (-1000000002) σ) else (if x2 ≤ 100 then (Wi E TC iX9_calm d Q 30 [(1, .int x1), (2, .int x2), (3, .long 1000000000), (5, .int 0)] [] σ) else (Q (-1000000002) σ))))) : Wi E TC iX9_calm d Q 0 [(0, .ref 0), (1, .int x1), (2, .int x2)] [] σ := by
  refine wp_iload_n 1 dX9_calm_0 rfl rfl rfl ?_
  refine wp_if_lt 20 dX9_calm_1 (by decide) rfl (fun h1 => ?_) (fun h1 => ?_)
  · rw [if_pos h1] at K
    refine wp_ldc dX9_calm_20 rfl tw_378 ?_
    exact wp_ret .int rfl rfl (Nat.le_refl 0) (Nat.le_refl 0) dX9_calm_22 ⟨rfl, _, rfl, K⟩
  · rw [if_neg h1] at K
    refine wp_iload_n 1 dX9_calm_4 rfl rfl rfl ?_
    refine wp_bipush (v := 60) dX9_calm_5 rfl (by decide) ?_
    refine wp_icmp_gt 20 dX9_calm_7 (by decide) rfl (fun h2 => ?_) (fun h2 => ?_)
    · rw [if_pos h2] at K
      refine wp_ldc dX9_calm_20 rfl tw_378 ?_
      exact wp_ret .int rfl rfl (Nat.le_refl 0) (Nat.le_refl 0) dX9_calm_22 ⟨rfl, _, rfl, K⟩
    · rw [if_neg h2] at K
      refine wp_iload_n 2 dX9_calm_10 rfl rfl rfl ?_
      refine wp_if_lt 20 dX9_calm_11 (by decide) rfl (fun h3 => ?_) (fun h3 => ?_)
      · rw [if_pos h3] at K
        refine wp_ldc dX9_calm_20 rfl tw_378 ?_
        exact wp_ret .int rfl rfl (Nat.le_refl 0) (Nat.le_refl 0) dX9_calm_22 ⟨rfl, _, rfl, K⟩
      · rw [if_neg h3] at K
        refine wp_iload_n 2 dX9_calm_14 rfl rfl rfl ?_
        refine wp_bipush (v := 100) dX9_calm_15 rfl (by decide) ?_
        refine wp_icmp_le 23 dX9_calm_17 (by decide) rfl (fun h4 => ?_) (fun h4 => ?_)
        · rw [if_pos h4] at K
          refine wp_ldc2 dX9_calm_23 rfl tw_879 ?_
          refine wp_lstore_n [1, 2, 3, 0] dX9_calm_26 rfl rfl (by decide) rfl ?_
          show WP _ _ _ _ _ _ _ 27 [(0, .ref 0), (1, .int x1), (2, .int x2), (3, .long 1000000000)] _ _ _
          refine wp_iconst (v := 0) dX9_calm_27 rfl (by decide) ?_
          refine wp_istore [1, 2, 3, 4, 0] dX9_calm_28 rfl (by decide) rfl ?_
          show WP _ _ _ _ _ _ _ 30 [(0, .ref 0), (1, .int x1), (2, .int x2), (3, .long 1000000000), (5, .int 0)] _ _ _
          refine wp_lv [1, 2, 3, 4] rfl ?_
          exact K
        · rw [if_neg h4] at K
          refine wp_ldc dX9_calm_20 rfl tw_378 ?_
          exact wp_ret .int rfl rfl (Nat.le_refl 0) (Nat.le_refl 0) dX9_calm_22 ⟨rfl, _, rfl, K⟩
theorem eX9_calm {E : tp_E} {d : Nat} {Q : Int32 → tp_M → Prop} {σ : tp_M}   (x1 : Int32) (x2 : Int32) (K : if x1 < 0 then (Q (-1000000002) σ) else (if 60 < x1 then (Q (-1000000002) σ) else (if x2 < 0 then (Q (-1000000002) σ) else (if x2 ≤ 100 then (Wi E TC iX9_calm d Q 30 [(1, .int x1), (2, .int x2), (3, .long 1000000000), (5, .int 0)] [] σ) else (Q (-1000000002) σ))))) : Ci E TC yX9_calm iX9_calm d [.ref 0, .int x1, .int x2] σ Q := Ci.of ⟨by decide +kernel, rfl, rfl⟩ (Nat.le_of_ble_eq_true rfl) (bX9_calm_0  x1 x2 K)
theorem bX9_calm_30 {E : tp_E} {d : Nat} {Q : Int32 → tp_M → Prop} {σ : tp_M}   (x1 : Int32) (x2 : Int32) (x3 : Int64) (x5 : Int32) (K : if x1 ≤ x5 then (Q (Int64.toInt32 x3) σ) else (Wi E TC iX9_calm d Q 30 [(1, .int x1), (2, .int x2), (3, .long ((x3 * (Int32.toInt64 (100 - x2))) / 100)), (5, .int (x5 + 1))] [] σ)) : Wi E TC iX9_calm d Q 30 [(1, .int x1), (2, .int x2), (3, .long x3), (5, .int x5)] [] σ := by
  refine wp_iload 3 dX9_calm_30 rfl rfl ?_
  refine wp_iload_n 0 dX9_calm_32 rfl rfl rfl ?_
  refine wp_icmp_ge 54 dX9_calm_33 (by decide) rfl (fun h1 => ?_) (fun h1 => ?_)
  · rw [if_pos h1] at K
    refine wp_lload_n 2 dX9_calm_54 rfl rfl rfl ?_
    refine wp_l2i dX9_calm_55 rfl ?_
    exact wp_ret .int rfl rfl (Nat.le_refl 0) (Nat.le_refl 0) dX9_calm_56 ⟨rfl, _, rfl, K⟩
  · rw [if_neg h1] at K
    refine wp_lload_n 2 dX9_calm_36 rfl rfl rfl ?_
    refine wp_bipush (v := 100) dX9_calm_37 rfl (by decide) ?_
    refine wp_iload_n 1 dX9_calm_39 rfl rfl rfl ?_
    refine wp_isub dX9_calm_40 rfl ?_
    refine wp_i2l dX9_calm_41 rfl ?_
    refine wp_lmul dX9_calm_42 rfl ?_
    refine wp_ldc2 dX9_calm_43 rfl tw_880 ?_
    refine wp_ldiv dX9_calm_46 rfl (by decide) ?_
    refine wp_lstore_n [1, 2, 0, 3] dX9_calm_47 rfl rfl (by decide) rfl ?_
    show WP _ _ _ _ _ _ _ 48 [(1, .int x1), (2, .int x2), (3, .long ((x3 * (Int32.toInt64 (100 - x2))) / 100)), (5, .int x5)] _ _ _
    refine wp_iinc (v := x5 + 1) 3 [1, 2, 3, 0] dX9_calm_48 rfl (by decide) rfl rfl rfl ?_
    show WP _ _ _ _ _ _ _ 51 [(1, .int x1), (2, .int x2), (3, .long ((x3 * (Int32.toInt64 (100 - x2))) / 100)), (5, .int (x5 + 1))] _ _ _
    refine wp_goto 30 dX9_calm_51 (by decide) ?_
    exact K
theorem bX9_see_0 {E : tp_E} {d : Nat} {Q : Int32 → tp_M → Prop} {σ : tp_M}   (x1 : Int32) (x2 : Int32) (x3 : Int32) (K : Ci E TC yX5_hasRoom iX5_hasRoom d [.ref 1, .int x1] σ (fun v2 σ1 => if v2 = 0 then (Q (-1000000001) σ1) else (Ci E TC yX9_isForeseen iX9_isForeseen d [.int x2, .int 1] σ1 (fun v5 σ4 => if v5 = 0 then (Q (-1000000002) σ4) else (Ci E TC yX3_addSight iX3_addSight d [.ref 151, .int x1, .int x2, .int x3] σ4 (fun v8 σ7 => if v8 = 0 then (Q (-1000000004) σ7) else (Q (σ7 151 7) σ7))))))) : Wi E TC iX9_see (d + 1) Q 0 [(0, .ref 0), (1, .int x1), (2, .int x2), (3, .int x3)] [] σ := by
  refine wp_aload_n 0 dX9_see_0 rfl rfl rfl ?_
  refine wp_getR 9 1 kcX9 kfX9_25 rfl lC_0 (congrArg Prod.fst gC_0) rC_0_1 dX9_see_1 rfl ?_
  refine wp_iload_n 1 dX9_see_4 rfl rfl rfl ?_
  refine wn_callVi (As := [.int x1]) (rest := []) 5 kmX9_147 (by decide) rfl rfl (Nat.le_of_ble_eq_true rfl) lC_1 (congrArg Prod.fst gC_1) dX9_see_5 rfl ?_
  refine Ci.mono K (fun v2 σ1 K => ?_)
  refine wp_if_ne 14 dX9_see_8 (by decide) rfl (fun h3 => ?_) (fun h3 => ?_)
  · rw [if_neg h3] at K
    refine wp_iload_n 2 dX9_see_14 rfl rfl rfl ?_
    refine wp_iconst (v := 1) dX9_see_15 rfl (by decide) ?_
    refine wn_callSi (As := [.int x2, .int 1]) (rest := []) kmX9_247 (by decide) rfl rfl (Nat.le_of_ble_eq_true rfl) dX9_see_16 rfl ?_
    refine Ci.mono K (fun v5 σ4 K => ?_)
    refine wp_if_ne 25 dX9_see_19 (by decide) rfl (fun h6 => ?_) (fun h6 => ?_)
    · rw [if_neg h6] at K
      refine wp_aload_n 0 dX9_see_25 rfl rfl rfl ?_
      refine wp_getR 9 7 kcX9 kfX9_66 rfl lC_0 (congrArg Prod.fst gC_0) rC_0_7 dX9_see_26 rfl ?_
      refine wp_iload_n 1 dX9_see_29 rfl rfl rfl ?_
      refine wp_iload_n 2 dX9_see_30 rfl rfl rfl ?_
      refine wp_iload_n 3 dX9_see_31 rfl rfl rfl ?_
      refine wn_callVi (As := [.int x1, .int x2, .int x3]) (rest := []) 3 kmX9_289 (by decide) rfl rfl (Nat.le_of_ble_eq_true rfl) lC_151 (congrArg Prod.fst gC_151) dX9_see_32 rfl ?_
      refine Ci.mono K (fun v8 σ7 K => ?_)
      refine wp_if_eq 48 dX9_see_35 (by decide) rfl (fun h9 => ?_) (fun h9 => ?_)
      · rw [if_pos h9] at K
        refine wp_ldc dX9_see_48 rfl tw_383 ?_
        exact wp_ret .int rfl rfl (Nat.le_refl 0) (Nat.le_refl 0) dX9_see_50 ⟨rfl, _, rfl, K⟩
      · rw [if_neg h9] at K
        refine wp_aload_n 0 dX9_see_38 rfl rfl rfl ?_
        refine wp_getR 9 7 kcX9 kfX9_66 rfl lC_0 (congrArg Prod.fst gC_0) rC_0_7 dX9_see_39 rfl ?_
        refine wp_getI 3 7 kcX3 kfX9_139 rfl lC_151 (congrArg Prod.fst gC_151) dX9_see_42 rfl ?_
        refine wp_goto 50 dX9_see_45 (by decide) ?_
        exact wp_ret .int rfl rfl (Nat.le_refl 0) (Nat.le_refl 0) dX9_see_50 ⟨rfl, _, rfl, K⟩
    · rw [if_pos h6] at K
      refine wp_ldc dX9_see_22 rfl tw_378 ?_
      exact wp_ret .int rfl rfl (Nat.le_refl 0) (Nat.le_refl 0) dX9_see_24 ⟨rfl, _, rfl, K⟩
  · rw [if_pos h3] at K
    refine wp_ldc dX9_see_11 rfl tw_512 ?_
    exact wp_ret .int rfl rfl (Nat.le_refl 0) (Nat.le_refl 0) dX9_see_13 ⟨rfl, _, rfl, K⟩
theorem eX9_see {E : tp_E} {d : Nat} {Q : Int32 → tp_M → Prop} {σ : tp_M}   (x1 : Int32) (x2 : Int32) (x3 : Int32) (K : Ci E TC yX5_hasRoom iX5_hasRoom d [.ref 1, .int x1] σ (fun v2 σ1 => if v2 = 0 then (Q (-1000000001) σ1) else (Ci E TC yX9_isForeseen iX9_isForeseen d [.int x2, .int 1] σ1 (fun v5 σ4 => if v5 = 0 then (Q (-1000000002) σ4) else (Ci E TC yX3_addSight iX3_addSight d [.ref 151, .int x1, .int x2, .int x3] σ4 (fun v8 σ7 => if v8 = 0 then (Q (-1000000004) σ7) else (Q (σ7 151 7) σ7))))))) : Ci E TC yX9_see iX9_see (d + 1) [.ref 0, .int x1, .int x2, .int x3] σ Q := Ci.of ⟨by decide +kernel, rfl, rfl⟩ (Nat.le_of_ble_eq_true rfl) (bX9_see_0  x1 x2 x3 K)
theorem bX9_spiller_0 {E : tp_E} {d : Nat} {Q : Int32 → tp_M → Prop} {σ : tp_M}    (K : Ci E TC yX3_suspects iX3_suspects d [.ref 151] σ (fun v2 σ1 => Q v2 σ1)) : Wi E TC iX9_spiller (d + 1) Q 0 [(0, .ref 0)] [] σ := by
  refine wp_aload_n 0 dX9_spiller_0 rfl rfl rfl ?_
  refine wp_getR 9 7 kcX9 kfX9_66 rfl lC_0 (congrArg Prod.fst gC_0) rC_0_7 dX9_spiller_1 rfl ?_
  refine wn_callVi (As := []) (rest := []) 3 kmX9_293 (by decide) rfl rfl (Nat.le_of_ble_eq_true rfl) lC_151 (congrArg Prod.fst gC_151) dX9_spiller_4 rfl ?_
  refine Ci.mono K (fun v2 σ1 K => ?_)
  exact wp_ret .int rfl rfl (Nat.le_refl 0) (Nat.le_refl 0) dX9_spiller_7 ⟨rfl, _, rfl, K⟩
theorem eX9_spiller {E : tp_E} {d : Nat} {Q : Int32 → tp_M → Prop} {σ : tp_M}    (K : Ci E TC yX3_suspects iX3_suspects d [.ref 151] σ (fun v2 σ1 => Q v2 σ1)) : Ci E TC yX9_spiller iX9_spiller (d + 1) [.ref 0] σ Q := Ci.of ⟨by decide +kernel, rfl, rfl⟩ (Nat.le_of_ble_eq_true rfl) (bX9_spiller_0   K)
theorem bX9_look_0 {E : tp_E} {d : Nat} {Q : Int32 → tp_M → Prop} {σ : tp_M}    (K : Ci E TC yX3_bestRoom iX3_bestRoom d [.ref 151] σ (fun v2 σ1 => Q v2 σ1)) : Wi E TC iX9_look (d + 1) Q 0 [(0, .ref 0)] [] σ := by
  refine wp_aload_n 0 dX9_look_0 rfl rfl rfl ?_
  refine wp_getR 9 7 kcX9 kfX9_66 rfl lC_0 (congrArg Prod.fst gC_0) rC_0_7 dX9_look_1 rfl ?_
  refine wn_callVi (As := []) (rest := []) 3 kmX9_296 (by decide) rfl rfl (Nat.le_of_ble_eq_true rfl) lC_151 (congrArg Prod.fst gC_151) dX9_look_4 rfl ?_
  refine Ci.mono K (fun v2 σ1 K => ?_)
  exact wp_ret .int rfl rfl (Nat.le_refl 0) (Nat.le_refl 0) dX9_look_7 ⟨rfl, _, rfl, K⟩
theorem eX9_look {E : tp_E} {d : Nat} {Q : Int32 → tp_M → Prop} {σ : tp_M}    (K : Ci E TC yX3_bestRoom iX3_bestRoom d [.ref 151] σ (fun v2 σ1 => Q v2 σ1)) : Ci E TC yX9_look iX9_look (d + 1) [.ref 0] σ Q := Ci.of ⟨by decide +kernel, rfl, rfl⟩ (Nat.le_of_ble_eq_true rfl) (bX9_look_0   K)
theorem bX9_write_0 {E : tp_E} {d : Nat} {Q : Int32 → tp_M → Prop} {σ : tp_M}   (x1 : Int32) (x2 : Int32) (K : Ci E TC yX5_hasWaiter iX5_hasWaiter d [.ref 1, .int x1] σ (fun v2 σ1 => if v2 = 0 then (Q (-1000000001) σ1) else (Ci E TC yX5_hasRoom iX5_hasRoom d [.ref 1, .int x2] σ1 (fun v5 σ4 => if v5 = 0 then (Q (-1000000001) σ4) else (Ci E TC yX3_addEntry iX3_addEntry d [.ref 151, .int x1, .int x2] σ4 (fun v8 σ7 => if v8 = 0 then (Q (-1000000004) σ7) else (Q (σ7 151 8) σ7))))))) : Wi E TC iX9_write (d + 1) Q 0 [(0, .ref 0), (1, .int x1), (2, .int x2)] [] σ := by
  refine wp_aload_n 0 dX9_write_0 rfl rfl rfl ?_
  refine wp_getR 9 1 kcX9 kfX9_25 rfl lC_0 (congrArg Prod.fst gC_0) rC_0_1 dX9_write_1 rfl ?_
  refine wp_iload_n 1 dX9_write_4 rfl rfl rfl ?_
  refine wn_callVi (As := [.int x1]) (rest := []) 5 kmX9_154 (by decide) rfl rfl (Nat.le_of_ble_eq_true rfl) lC_1 (congrArg Prod.fst gC_1) dX9_write_5 rfl ?_
  refine Ci.mono K (fun v2 σ1 K => ?_)
  refine wp_if_eq 22 dX9_write_8 (by decide) rfl (fun h3 => ?_) (fun h3 => ?_)
  · rw [if_pos h3] at K
    refine wp_ldc dX9_write_22 rfl tw_512 ?_
    exact wp_ret .int rfl rfl (Nat.le_refl 0) (Nat.le_refl 0) dX9_write_24 ⟨rfl, _, rfl, K⟩
  · rw [if_neg h3] at K
    refine wp_aload_n 0 dX9_write_11 rfl rfl rfl ?_
    refine wp_getR 9 1 kcX9 kfX9_25 rfl lC_0 (congrArg Prod.fst gC_0) rC_0_1 dX9_write_12 rfl ?_
    refine wp_iload_n 2 dX9_write_15 rfl rfl rfl ?_
    refine wn_callVi (As := [.int x2]) (rest := []) 5 kmX9_147 (by decide) rfl rfl (Nat.le_of_ble_eq_true rfl) lC_1 (congrArg Prod.fst gC_1) dX9_write_16 rfl ?_
    refine Ci.mono K (fun v5 σ4 K => ?_)
    refine wp_if_ne 25 dX9_write_19 (by decide) rfl (fun h6 => ?_) (fun h6 => ?_)
    · rw [if_neg h6] at K
      refine wp_aload_n 0 dX9_write_25 rfl rfl rfl ?_
      refine wp_getR 9 7 kcX9 kfX9_66 rfl lC_0 (congrArg Prod.fst gC_0) rC_0_7 dX9_write_26 rfl ?_
      refine wp_iload_n 1 dX9_write_29 rfl rfl rfl ?_
      refine wp_iload_n 2 dX9_write_30 rfl rfl rfl ?_
      refine wn_callVi (As := [.int x1, .int x2]) (rest := []) 3 kmX9_299 (by decide) rfl rfl (Nat.le_of_ble_eq_true rfl) lC_151 (congrArg Prod.fst gC_151) dX9_write_31 rfl ?_
      refine Ci.mono K (fun v8 σ7 K => ?_)
      refine wp_if_eq 47 dX9_write_34 (by decide) rfl (fun h9 => ?_) (fun h9 => ?_)
      · rw [if_pos h9] at K
        refine wp_ldc dX9_write_47 rfl tw_383 ?_
        exact wp_ret .int rfl rfl (Nat.le_refl 0) (Nat.le_refl 0) dX9_write_49 ⟨rfl, _, rfl, K⟩
      · rw [if_neg h9] at K
        refine wp_aload_n 0 dX9_write_37 rfl rfl rfl ?_
        refine wp_getR 9 7 kcX9 kfX9_66 rfl lC_0 (congrArg Prod.fst gC_0) rC_0_7 dX9_write_38 rfl ?_
        refine wp_getI 3 8 kcX3 kfX9_142 rfl lC_151 (congrArg Prod.fst gC_151) dX9_write_41 rfl ?_
        refine wp_goto 49 dX9_write_44 (by decide) ?_
        exact wp_ret .int rfl rfl (Nat.le_refl 0) (Nat.le_refl 0) dX9_write_49 ⟨rfl, _, rfl, K⟩
    · rw [if_pos h6] at K
      refine wp_ldc dX9_write_22 rfl tw_512 ?_
      exact wp_ret .int rfl rfl (Nat.le_refl 0) (Nat.le_refl 0) dX9_write_24 ⟨rfl, _, rfl, K⟩
theorem eX9_write {E : tp_E} {d : Nat} {Q : Int32 → tp_M → Prop} {σ : tp_M}   (x1 : Int32) (x2 : Int32) (K : Ci E TC yX5_hasWaiter iX5_hasWaiter d [.ref 1, .int x1] σ (fun v2 σ1 => if v2 = 0 then (Q (-1000000001) σ1) else (Ci E TC yX5_hasRoom iX5_hasRoom d [.ref 1, .int x2] σ1 (fun v5 σ4 => if v5 = 0 then (Q (-1000000001) σ4) else (Ci E TC yX3_addEntry iX3_addEntry d [.ref 151, .int x1, .int x2] σ4 (fun v8 σ7 => if v8 = 0 then (Q (-1000000004) σ7) else (Q (σ7 151 8) σ7))))))) : Ci E TC yX9_write iX9_write (d + 1) [.ref 0, .int x1, .int x2] σ Q := Ci.of ⟨by decide +kernel, rfl, rfl⟩ (Nat.le_of_ble_eq_true rfl) (bX9_write_0  x1 x2 K)
theorem bX9_tear_0 {E : tp_E} {d : Nat} {Q : Int32 → tp_M → Prop} {σ : tp_M}    (K : Cv E TC yX3_clear iX3_clear d [.ref 151] σ (fun σ1 => Q ((σ 151 7) + (σ 151 8)) σ1)) : Wi E TC iX9_tear (d + 1) Q 0 [(0, .ref 0)] [] σ := by
  refine wp_aload_n 0 dX9_tear_0 rfl rfl rfl ?_
  refine wp_getR 9 7 kcX9 kfX9_66 rfl lC_0 (congrArg Prod.fst gC_0) rC_0_7 dX9_tear_1 rfl ?_
  refine wp_getI 3 7 kcX3 kfX9_139 rfl lC_151 (congrArg Prod.fst gC_151) dX9_tear_4 rfl ?_
  refine wp_aload_n 0 dX9_tear_7 rfl rfl rfl ?_
  refine wp_getR 9 7 kcX9 kfX9_66 rfl lC_0 (congrArg Prod.fst gC_0) rC_0_7 dX9_tear_8 rfl ?_
  refine wp_getI 3 8 kcX3 kfX9_142 rfl lC_151 (congrArg Prod.fst gC_151) dX9_tear_11 rfl ?_
  refine wp_iadd dX9_tear_14 rfl ?_
  refine wp_istore_n [1, 0] dX9_tear_15 rfl rfl (by decide) rfl ?_
  show WP _ _ _ _ _ _ _ 16 [(0, .ref 0), (1, .int ((σ 151 7) + (σ 151 8)))] _ _ _
  refine wp_aload_n 0 dX9_tear_16 rfl rfl rfl ?_
  refine wp_getR 9 7 kcX9 kfX9_66 rfl lC_0 (congrArg Prod.fst gC_0) rC_0_7 dX9_tear_17 rfl ?_
  refine wn_callVv (As := []) (rest := []) 3 kmX9_101 (by decide) rfl rfl (Nat.le_of_ble_eq_true rfl) lC_151 (congrArg Prod.fst gC_151) dX9_tear_20 rfl ?_
  refine Cv.mono K (fun σ1 K => ?_)
  refine wp_iload_n 1 dX9_tear_23 rfl rfl rfl ?_
  exact wp_ret .int rfl rfl (Nat.le_refl 0) (Nat.le_refl 0) dX9_tear_24 ⟨rfl, _, rfl, K⟩
theorem eX9_tear {E : tp_E} {d : Nat} {Q : Int32 → tp_M → Prop} {σ : tp_M}    (K : Cv E TC yX3_clear iX3_clear d [.ref 151] σ (fun σ1 => Q ((σ 151 7) + (σ 151 8)) σ1)) : Ci E TC yX9_tear iX9_tear (d + 1) [.ref 0] σ Q := Ci.of ⟨by decide +kernel, rfl, rfl⟩ (Nat.le_of_ble_eq_true rfl) (bX9_tear_0   K)
theorem bX9_judge_0 {E : tp_E} {d : Nat} {Q : Int32 → tp_M → Prop} {σ : tp_M}    (K : Ci E TC yX3_firstWrong iX3_firstWrong d [.ref 151] σ (fun v2 σ1 => Q v2 σ1)) : Wi E TC iX9_judge (d + 1) Q 0 [(0, .ref 0)] [] σ := by
  refine wp_aload_n 0 dX9_judge_0 rfl rfl rfl ?_
  refine wp_getR 9 7 kcX9 kfX9_66 rfl lC_0 (congrArg Prod.fst gC_0) rC_0_7 dX9_judge_1 rfl ?_
  refine wn_callVi (As := []) (rest := []) 3 kmX9_302 (by decide) rfl rfl (Nat.le_of_ble_eq_true rfl) lC_151 (congrArg Prod.fst gC_151) dX9_judge_4 rfl ?_
  refine Ci.mono K (fun v2 σ1 K => ?_)
  exact wp_ret .int rfl rfl (Nat.le_refl 0) (Nat.le_refl 0) dX9_judge_7 ⟨rfl, _, rfl, K⟩
theorem eX9_judge {E : tp_E} {d : Nat} {Q : Int32 → tp_M → Prop} {σ : tp_M}    (K : Ci E TC yX3_firstWrong iX3_firstWrong d [.ref 151] σ (fun v2 σ1 => Q v2 σ1)) : Ci E TC yX9_judge iX9_judge (d + 1) [.ref 0] σ Q := Ci.of ⟨by decide +kernel, rfl, rfl⟩ (Nat.le_of_ble_eq_true rfl) (bX9_judge_0   K)
theorem bX9_seed_0 {E : tp_E} {d : Nat} {Q : Int32 → tp_M → Prop} {σ : tp_M}   (x1 : Int32) (K : if 0 ≤ x1 then (Q (σ 139 3) (tp_u σ 139 3 x1)) else (Q (-1000000002) σ)) : Wi E TC iX9_seed d Q 0 [(0, .ref 0), (1, .int x1)] [] σ := by
  refine wp_iload_n 1 dX9_seed_0 rfl rfl rfl ?_
  refine wp_if_ge 7 dX9_seed_1 (by decide) rfl (fun h1 => ?_) (fun h1 => ?_)
  · rw [if_pos h1] at K
    refine wp_aload_n 0 dX9_seed_7 rfl rfl rfl ?_
    refine wp_getR 9 4 kcX9 kfX9_45 rfl lC_0 (congrArg Prod.fst gC_0) rC_0_4 dX9_seed_8 rfl ?_
    refine wp_getI 0 3 kcX0 kfX9_305 rfl lC_139 (congrArg Prod.fst gC_139) dX9_seed_11 rfl ?_
    refine wp_istore_n [1, 2, 0] dX9_seed_14 rfl rfl (by decide) rfl ?_
    show WP _ _ _ _ _ _ _ 15 [(0, .ref 0), (1, .int x1), (2, .int (σ 139 3))] _ _ _
    refine wp_aload_n 0 dX9_seed_15 rfl rfl rfl ?_
    refine wp_getR 9 4 kcX9 kfX9_45 rfl lC_0 (congrArg Prod.fst gC_0) rC_0_4 dX9_seed_16 rfl ?_
    refine wp_iload_n 1 dX9_seed_19 rfl rfl rfl ?_
    refine wp_putI 0 3 kcX0 kfX9_305 rfl rfl rfl rfl lC_139 (congrArg Prod.fst gC_139) dX9_seed_20 rfl ?_
    refine wp_iload_n 2 dX9_seed_23 rfl rfl rfl ?_
    exact wp_ret .int rfl rfl (Nat.le_refl 0) (Nat.le_refl 0) dX9_seed_24 ⟨rfl, _, rfl, K⟩
  · rw [if_neg h1] at K
    refine wp_ldc dX9_seed_4 rfl tw_378 ?_
    exact wp_ret .int rfl rfl (Nat.le_refl 0) (Nat.le_refl 0) dX9_seed_6 ⟨rfl, _, rfl, K⟩
theorem eX9_seed {E : tp_E} {d : Nat} {Q : Int32 → tp_M → Prop} {σ : tp_M}   (x1 : Int32) (K : if 0 ≤ x1 then (Q (σ 139 3) (tp_u σ 139 3 x1)) else (Q (-1000000002) σ)) : Ci E TC yX9_seed iX9_seed d [.ref 0, .int x1] σ Q := Ci.of ⟨by decide +kernel, rfl, rfl⟩ (Nat.le_of_ble_eq_true rfl) (bX9_seed_0  x1 K)
theorem bX9_keep_0 {E : tp_E} {d : Nat} {Q : Int32 → tp_M → Prop} {σ : tp_M}   (x1 : Int32) (K : if x1 < 0 then (Q (-1000000001) σ) else (if x1 < 2 then (vp_in x1 2 ∧ (∀ o4 : Nat, 15 + 6 * (Int32.toNatClampNeg x1) = o4 → (Cv E TC yX8_become iX8_become d [.ref (o4 + 1), .ref 9] σ (fun σ5 => Cv E TC yX4_forget iX4_forget d [.ref 37] (tp_u (tp_u σ5 o4 1 (σ5 139 3)) o4 2 1) (fun σ6 => Q 1 σ6))))) else (Q (-1000000001) σ))) : Wi E TC iX9_keep (d + 1) Q 0 [(0, .ref 0), (1, .int x1)] [] σ := by
  refine wp_iload_n 1 dX9_keep_0 rfl rfl rfl ?_
  refine wp_if_lt 13 dX9_keep_1 (by decide) rfl (fun h1 => ?_) (fun h1 => ?_)
  · rw [if_pos h1] at K
    refine wp_ldc dX9_keep_13 rfl tw_512 ?_
    exact wp_ret .int rfl rfl (Nat.le_refl 0) (Nat.le_refl 0) dX9_keep_15 ⟨rfl, _, rfl, K⟩
  · rw [if_neg h1] at K
    refine wp_iload_n 1 dX9_keep_4 rfl rfl rfl ?_
    refine wp_aload_n 0 dX9_keep_5 rfl rfl rfl ?_
    refine wp_getR 9 8 kcX9 kfX9_70 rfl lC_0 (congrArg Prod.fst gC_0) rC_0_8 dX9_keep_6 rfl ?_
    refine wp_alen (v := 2) 4 (by decide) lC_14 gC_14 rfl dX9_keep_9 rfl ?_
    refine wp_icmp_lt 16 dX9_keep_10 (by decide) rfl (fun h2 => ?_) (fun h2 => ?_)
    · rw [if_pos h2] at K
      refine wp_aload_n 0 dX9_keep_16 rfl rfl rfl ?_
      refine wp_getR 9 8 kcX9 kfX9_70 rfl lC_0 (congrArg Prod.fst gC_0) rC_0_8 dX9_keep_17 rfl ?_
      refine wp_iload_n 1 dX9_keep_20 rfl rfl rfl ?_
      obtain ⟨k3, K⟩ := K
      obtain ⟨o4, hzo4⟩ : ∃ z, 15 + 6 * (Int32.toNatClampNeg x1) = z := ⟨_, rfl⟩
      have ho4 : isIm o4 := by rw [← hzo4]; exact imgs_ok k3
      refine wp_aald 4 (by decide) lC_14 (congrArg Prod.fst gC_14) (by rw [gC_14]; exact k3) ((imgs_rf k3).trans (by rw [hzo4])) dX9_keep_21 rfl ?_
      replace K := K o4 hzo4
      refine wp_astore_n [1, 2, 0] dX9_keep_22 rfl rfl (by decide) rfl ?_
      show WP _ _ _ _ _ _ _ 23 [(0, .ref 0), (1, .int x1), (2, .ref o4)] _ _ _
      refine wp_aload_n 2 dX9_keep_23 rfl rfl rfl ?_
      refine wp_getR 2 0 kcX2 kfX9_308 rfl (im_l0 ho4) (congrArg Prod.fst (im_g0 ho4)) (im_r0 ho4) dX9_keep_24 rfl ?_
      refine wp_aload_n 0 dX9_keep_27 rfl rfl rfl ?_
      refine wp_getR 9 2 kcX9 kfX9_29 rfl lC_0 (congrArg Prod.fst gC_0) rC_0_2 dX9_keep_28 rfl ?_
      refine wn_callVv (As := [.ref 9]) (rest := []) 8 kmX9_311 (by decide) rfl rfl (Nat.le_of_ble_eq_true rfl) (im_l1 ho4) (congrArg Prod.fst (im_g1 ho4)) dX9_keep_31 rfl ?_
      refine Cv.mono K (fun σ5 K => ?_)
      refine wp_aload_n 2 dX9_keep_34 rfl rfl rfl ?_
      refine wp_aload_n 0 dX9_keep_35 rfl rfl rfl ?_
      refine wp_getR 9 4 kcX9 kfX9_45 rfl lC_0 (congrArg Prod.fst gC_0) rC_0_4 dX9_keep_36 rfl ?_
      refine wp_getI 0 3 kcX0 kfX9_305 rfl lC_139 (congrArg Prod.fst gC_139) dX9_keep_39 rfl ?_
      refine wp_putI 2 1 kcX2 kfX9_313 rfl rfl rfl rfl (im_l0 ho4) (congrArg Prod.fst (im_g0 ho4)) dX9_keep_42 rfl ?_
      refine wp_aload_n 2 dX9_keep_45 rfl rfl rfl ?_
      refine wp_iconst (v := 1) dX9_keep_46 rfl (by decide) ?_
      refine wp_putI 2 2 kcX2 kfX9_104 rfl rfl rfl rfl (im_l0 ho4) (congrArg Prod.fst (im_g0 ho4)) dX9_keep_47 rfl ?_
      refine wp_aload_n 0 dX9_keep_50 rfl rfl rfl ?_
      refine wp_getR 9 3 kcX9 kfX9_36 rfl lC_0 (congrArg Prod.fst gC_0) rC_0_3 dX9_keep_51 rfl ?_
      refine wn_callVv (As := []) (rest := []) 4 kmX9_98 (by decide) rfl rfl (Nat.le_of_ble_eq_true rfl) lC_37 (congrArg Prod.fst gC_37) dX9_keep_54 rfl ?_
      refine Cv.mono K (fun σ6 K => ?_)
      refine wp_iconst (v := 1) dX9_keep_57 rfl (by decide) ?_
      exact wp_ret .int rfl rfl (Nat.le_refl 0) (Nat.le_refl 0) dX9_keep_58 ⟨rfl, _, rfl, K⟩
    · rw [if_neg h2] at K
      refine wp_ldc dX9_keep_13 rfl tw_512 ?_
      exact wp_ret .int rfl rfl (Nat.le_refl 0) (Nat.le_refl 0) dX9_keep_15 ⟨rfl, _, rfl, K⟩
theorem eX9_keep {E : tp_E} {d : Nat} {Q : Int32 → tp_M → Prop} {σ : tp_M}   (x1 : Int32) (K : if x1 < 0 then (Q (-1000000001) σ) else (if x1 < 2 then (vp_in x1 2 ∧ (∀ o4 : Nat, 15 + 6 * (Int32.toNatClampNeg x1) = o4 → (Cv E TC yX8_become iX8_become d [.ref (o4 + 1), .ref 9] σ (fun σ5 => Cv E TC yX4_forget iX4_forget d [.ref 37] (tp_u (tp_u σ5 o4 1 (σ5 139 3)) o4 2 1) (fun σ6 => Q 1 σ6))))) else (Q (-1000000001) σ))) : Ci E TC yX9_keep iX9_keep (d + 1) [.ref 0, .int x1] σ Q := Ci.of ⟨by decide +kernel, rfl, rfl⟩ (Nat.le_of_ble_eq_true rfl) (bX9_keep_0  x1 K)
theorem bX9_goBack_0 {E : tp_E} {d : Nat} {Q : Int32 → tp_M → Prop} {σ : tp_M}   (x1 : Int32) (K : if x1 < 0 then (Q (-1000000001) σ) else (if x1 < 2 then (vp_in x1 2 ∧ (∀ o4 : Nat, 15 + 6 * (Int32.toNatClampNeg x1) = o4 → (if (σ o4 2) = 0 then (Q (-1000000003) σ) else (Cv E TC yX8_become iX8_become d [.ref 9, .ref (o4 + 1)] σ (fun σ6 => Cv E TC yX4_forget iX4_forget d [.ref 37] (tp_u σ6 139 3 (σ6 o4 1)) (fun σ7 => Q 1 σ7)))))) else (Q (-1000000001) σ))) : Wi E TC iX9_goBack (d + 1) Q 0 [(0, .ref 0), (1, .int x1)] [] σ := by
  refine wp_iload_n 1 dX9_goBack_0 rfl rfl rfl ?_
  refine wp_if_lt 13 dX9_goBack_1 (by decide) rfl (fun h1 => ?_) (fun h1 => ?_)
  · rw [if_pos h1] at K
    refine wp_ldc dX9_goBack_13 rfl tw_512 ?_
    exact wp_ret .int rfl rfl (Nat.le_refl 0) (Nat.le_refl 0) dX9_goBack_15 ⟨rfl, _, rfl, K⟩
  · rw [if_neg h1] at K
    refine wp_iload_n 1 dX9_goBack_4 rfl rfl rfl ?_
    refine wp_aload_n 0 dX9_goBack_5 rfl rfl rfl ?_
    refine wp_getR 9 8 kcX9 kfX9_70 rfl lC_0 (congrArg Prod.fst gC_0) rC_0_8 dX9_goBack_6 rfl ?_
    refine wp_alen (v := 2) 4 (by decide) lC_14 gC_14 rfl dX9_goBack_9 rfl ?_
    refine wp_icmp_lt 16 dX9_goBack_10 (by decide) rfl (fun h2 => ?_) (fun h2 => ?_)
    · rw [if_pos h2] at K
      refine wp_aload_n 0 dX9_goBack_16 rfl rfl rfl ?_
      refine wp_getR 9 8 kcX9 kfX9_70 rfl lC_0 (congrArg Prod.fst gC_0) rC_0_8 dX9_goBack_17 rfl ?_
      refine wp_iload_n 1 dX9_goBack_20 rfl rfl rfl ?_
      obtain ⟨k3, K⟩ := K
      obtain ⟨o4, hzo4⟩ : ∃ z, 15 + 6 * (Int32.toNatClampNeg x1) = z := ⟨_, rfl⟩
      have ho4 : isIm o4 := by rw [← hzo4]; exact imgs_ok k3
      refine wp_aald 4 (by decide) lC_14 (congrArg Prod.fst gC_14) (by rw [gC_14]; exact k3) ((imgs_rf k3).trans (by rw [hzo4])) dX9_goBack_21 rfl ?_
      replace K := K o4 hzo4
      refine wp_astore_n [1, 2, 0] dX9_goBack_22 rfl rfl (by decide) rfl ?_
      show WP _ _ _ _ _ _ _ 23 [(0, .ref 0), (1, .int x1), (2, .ref o4)] _ _ _
      refine wp_aload_n 2 dX9_goBack_23 rfl rfl rfl ?_
      refine wp_getI 2 2 kcX2 kfX9_104 rfl (im_l0 ho4) (congrArg Prod.fst (im_g0 ho4)) dX9_goBack_24 rfl ?_
      refine wp_if_ne 33 dX9_goBack_27 (by decide) rfl (fun h5 => ?_) (fun h5 => ?_)
      · rw [if_neg h5] at K
        refine wp_aload_n 0 dX9_goBack_33 rfl rfl rfl ?_
        refine wp_getR 9 2 kcX9 kfX9_29 rfl lC_0 (congrArg Prod.fst gC_0) rC_0_2 dX9_goBack_34 rfl ?_
        refine wp_aload_n 2 dX9_goBack_37 rfl rfl rfl ?_
        refine wp_getR 2 0 kcX2 kfX9_308 rfl (im_l0 ho4) (congrArg Prod.fst (im_g0 ho4)) (im_r0 ho4) dX9_goBack_38 rfl ?_
        refine wn_callVv (As := [.ref (o4 + 1)]) (rest := []) 8 kmX9_311 (by decide) rfl rfl (Nat.le_of_ble_eq_true rfl) lC_9 (congrArg Prod.fst gC_9) dX9_goBack_41 rfl ?_
        refine Cv.mono K (fun σ6 K => ?_)
        refine wp_aload_n 0 dX9_goBack_44 rfl rfl rfl ?_
        refine wp_getR 9 4 kcX9 kfX9_45 rfl lC_0 (congrArg Prod.fst gC_0) rC_0_4 dX9_goBack_45 rfl ?_
        refine wp_aload_n 2 dX9_goBack_48 rfl rfl rfl ?_
        refine wp_getI 2 1 kcX2 kfX9_313 rfl (im_l0 ho4) (congrArg Prod.fst (im_g0 ho4)) dX9_goBack_49 rfl ?_
        refine wp_putI 0 3 kcX0 kfX9_305 rfl rfl rfl rfl lC_139 (congrArg Prod.fst gC_139) dX9_goBack_52 rfl ?_
        refine wp_aload_n 0 dX9_goBack_55 rfl rfl rfl ?_
        refine wp_getR 9 3 kcX9 kfX9_36 rfl lC_0 (congrArg Prod.fst gC_0) rC_0_3 dX9_goBack_56 rfl ?_
        refine wn_callVv (As := []) (rest := []) 4 kmX9_98 (by decide) rfl rfl (Nat.le_of_ble_eq_true rfl) lC_37 (congrArg Prod.fst gC_37) dX9_goBack_59 rfl ?_
        refine Cv.mono K (fun σ7 K => ?_)
        refine wp_iconst (v := 1) dX9_goBack_62 rfl (by decide) ?_
        exact wp_ret .int rfl rfl (Nat.le_refl 0) (Nat.le_refl 0) dX9_goBack_63 ⟨rfl, _, rfl, K⟩
      · rw [if_pos h5] at K
        refine wp_ldc dX9_goBack_30 rfl tw_591 ?_
        exact wp_ret .int rfl rfl (Nat.le_refl 0) (Nat.le_refl 0) dX9_goBack_32 ⟨rfl, _, rfl, K⟩
    · rw [if_neg h2] at K
      refine wp_ldc dX9_goBack_13 rfl tw_512 ?_
      exact wp_ret .int rfl rfl (Nat.le_refl 0) (Nat.le_refl 0) dX9_goBack_15 ⟨rfl, _, rfl, K⟩
theorem eX9_goBack {E : tp_E} {d : Nat} {Q : Int32 → tp_M → Prop} {σ : tp_M}   (x1 : Int32) (K : if x1 < 0 then (Q (-1000000001) σ) else (if x1 < 2 then (vp_in x1 2 ∧ (∀ o4 : Nat, 15 + 6 * (Int32.toNatClampNeg x1) = o4 → (if (σ o4 2) = 0 then (Q (-1000000003) σ) else (Cv E TC yX8_become iX8_become d [.ref 9, .ref (o4 + 1)] σ (fun σ6 => Cv E TC yX4_forget iX4_forget d [.ref 37] (tp_u σ6 139 3 (σ6 o4 1)) (fun σ7 => Q 1 σ7)))))) else (Q (-1000000001) σ))) : Ci E TC yX9_goBack iX9_goBack (d + 1) [.ref 0, .int x1] σ Q := Ci.of ⟨by decide +kernel, rfl, rfl⟩ (Nat.le_of_ble_eq_true rfl) (bX9_goBack_0  x1 K)

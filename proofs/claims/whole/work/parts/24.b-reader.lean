theorem bX6_append_0 {E : tp_E} {d : Nat} {Q : Int32 → tp_M → Prop} {σ : tp_M}   (x1 : Int32) (K : if (σ 27 2) < 240 then (vp_in (σ 27 2) 240 ∧ (narrow .char (.int ((Int32.toUInt32 x1 % 65536).toInt32)) = .int ((Int32.toUInt32 x1 % 65536).toInt32) ∧ (Q 1 (tp_u (tp_u σ 36 (Int32.toNatClampNeg (σ 27 2)) ((Int32.toUInt32 x1 % 65536).toInt32)) 27 2 (((tp_u σ 36 (Int32.toNatClampNeg (σ 27 2)) ((Int32.toUInt32 x1 % 65536).toInt32)) 27 2) + 1))))) else (Q 0 σ)) : Wi E TC iX6_append d Q 0 [(0, .ref 27), (1, .int x1)] [] σ := by
  refine wp_aload_n 0 dX6_append_0 rfl rfl rfl ?_
  refine wp_getI 6 2 kcX6 kfX6_26 rfl lC_27 (congrArg Prod.fst gC_27) dX6_append_1 rfl ?_
  refine wp_sipush (v := 240) dX6_append_4 rfl (by decide) ?_
  refine wp_icmp_lt 12 dX6_append_7 (by decide) rfl (fun h1 => ?_) (fun h1 => ?_)
  · rw [if_pos h1] at K
    refine wp_aload_n 0 dX6_append_12 rfl rfl rfl ?_
    refine wp_getR 6 1 kcX6 kfX6_18 rfl lC_27 (congrArg Prod.fst gC_27) rC_27_1 dX6_append_13 rfl ?_
    refine wp_aload_n 0 dX6_append_16 rfl rfl rfl ?_
    refine wp_getI 6 2 kcX6 kfX6_26 rfl lC_27 (congrArg Prod.fst gC_27) dX6_append_17 rfl ?_
    refine wp_iload_n 1 dX6_append_20 rfl rfl rfl ?_
    refine wp_i2c dX6_append_21 rfl ?_
    obtain ⟨k2, K⟩ := K
    obtain ⟨k3, K⟩ := K
    refine wn_cast lC_36 gC_36 k2 k3 dX6_append_22 rfl ?_
    refine wp_aload_n 0 dX6_append_23 rfl rfl rfl ?_
    refine wp_dup dX6_append_24 rfl rfl ?_
    refine wp_getI 6 2 kcX6 kfX6_26 rfl lC_27 (congrArg Prod.fst gC_27) dX6_append_25 rfl ?_
    refine wp_iconst (v := 1) dX6_append_28 rfl (by decide) ?_
    refine wp_iadd dX6_append_29 rfl ?_
    refine wp_putI 6 2 kcX6 kfX6_26 rfl rfl rfl rfl lC_27 (congrArg Prod.fst gC_27) dX6_append_30 rfl ?_
    refine wp_iconst (v := 1) dX6_append_33 rfl (by decide) ?_
    exact wp_ret .boolean rfl rfl (Nat.le_refl 0) (Nat.le_refl 0) dX6_append_34 ⟨rfl, _, rfl, K⟩
  · rw [if_neg h1] at K
    refine wp_iconst (v := 0) dX6_append_10 rfl (by decide) ?_
    exact wp_ret .boolean rfl rfl (Nat.le_refl 0) (Nat.le_refl 0) dX6_append_11 ⟨rfl, _, rfl, K⟩
theorem eX6_append {E : tp_E} {d : Nat} {Q : Int32 → tp_M → Prop} {σ : tp_M}   (x1 : Int32) (K : if (σ 27 2) < 240 then (vp_in (σ 27 2) 240 ∧ (narrow .char (.int ((Int32.toUInt32 x1 % 65536).toInt32)) = .int ((Int32.toUInt32 x1 % 65536).toInt32) ∧ (Q 1 (tp_u (tp_u σ 36 (Int32.toNatClampNeg (σ 27 2)) ((Int32.toUInt32 x1 % 65536).toInt32)) 27 2 (((tp_u σ 36 (Int32.toNatClampNeg (σ 27 2)) ((Int32.toUInt32 x1 % 65536).toInt32)) 27 2) + 1))))) else (Q 0 σ)) : Ci E TC yX6_append iX6_append d [.ref 27, .int x1] σ Q := Ci.of ⟨by decide +kernel, rfl, rfl⟩ (Nat.le_of_ble_eq_true rfl) (bX6_append_0  x1 K)
theorem bX6_readAll_0 {E : tp_E} {d : Nat} {Q : Int32 → tp_M → Prop} {σ : tp_M}    (K : Cv E TC yX5_clear iX5_clear d [.ref 28] σ (fun σ1 => Cv E TC yX6_skipBlanks iX6_skipBlanks d [.ref 27] (tp_u (tp_u (tp_u σ1 27 4 0) 27 3 (-1)) 27 5 0) (fun σ2 => Wi E TC iX6_readAll (d + 1) Q 28 [(0, .ref 27), (1, .int 0)] [] σ2))) : Wi E TC iX6_readAll (d + 1) Q 0 [(0, .ref 27)] [] σ := by
  refine wp_aload_n 0 dX6_readAll_0 rfl rfl rfl ?_
  refine wp_getR 6 0 kcX6 kfX6_12 rfl lC_27 (congrArg Prod.fst gC_27) rC_27_0 dX6_readAll_1 rfl ?_
  refine wn_callVv (As := []) (rest := []) 5 kmX6_29 (by decide) rfl rfl (Nat.le_of_ble_eq_true rfl) lC_28 (congrArg Prod.fst gC_28) dX6_readAll_4 rfl ?_
  refine Cv.mono K (fun σ1 K => ?_)
  refine wp_aload_n 0 dX6_readAll_7 rfl rfl rfl ?_
  refine wp_iconst (v := 0) dX6_readAll_8 rfl (by decide) ?_
  refine wp_putI 6 4 kcX6 kfX6_32 rfl rfl rfl rfl lC_27 (congrArg Prod.fst gC_27) dX6_readAll_9 rfl ?_
  refine wp_aload_n 0 dX6_readAll_12 rfl rfl rfl ?_
  refine wp_iconst (v := (-1)) dX6_readAll_13 rfl (by decide) ?_
  refine wp_putI 6 3 kcX6 kfX6_22 rfl rfl rfl rfl lC_27 (congrArg Prod.fst gC_27) dX6_readAll_14 rfl ?_
  refine wp_aload_n 0 dX6_readAll_17 rfl rfl rfl ?_
  refine wp_iconst (v := 0) dX6_readAll_18 rfl (by decide) ?_
  refine wp_putI 6 5 kcX6 kfX6_35 rfl rfl rfl rfl lC_27 (congrArg Prod.fst gC_27) dX6_readAll_19 rfl ?_
  refine wp_aload_n 0 dX6_readAll_22 rfl rfl rfl ?_
  refine wn_callVv (As := []) (rest := []) 6 kmX6_38 (by decide) rfl rfl (Nat.le_of_ble_eq_true rfl) lC_27 (congrArg Prod.fst gC_27) dX6_readAll_23 rfl ?_
  refine Cv.mono K (fun σ2 K => ?_)
  refine wp_iconst (v := 0) dX6_readAll_26 rfl (by decide) ?_
  refine wp_istore_n [1, 0] dX6_readAll_27 rfl rfl (by decide) rfl ?_
  show WP _ _ _ _ _ _ _ 28 [(0, .ref 27), (1, .int 0)] _ _ _
  exact K
theorem eX6_readAll {E : tp_E} {d : Nat} {Q : Int32 → tp_M → Prop} {σ : tp_M}    (K : Cv E TC yX5_clear iX5_clear d [.ref 28] σ (fun σ1 => Cv E TC yX6_skipBlanks iX6_skipBlanks d [.ref 27] (tp_u (tp_u (tp_u σ1 27 4 0) 27 3 (-1)) 27 5 0) (fun σ2 => Wi E TC iX6_readAll (d + 1) Q 28 [(0, .ref 27), (1, .int 0)] [] σ2))) : Ci E TC yX6_readAll iX6_readAll (d + 1) [.ref 27] σ Q := Ci.of ⟨by decide +kernel, rfl, rfl⟩ (Nat.le_of_ble_eq_true rfl) (bX6_readAll_0   K)
theorem bX6_readAll_28 {E : tp_E} {d : Nat} {Q : Int32 → tp_M → Prop} {σ : tp_M}   (x1 : Int32) (K : if 240 ≤ x1 then (Q ((tp_u σ 27 2 0) 27 4) (tp_u σ 27 2 0)) else (if (σ 27 2) ≤ (σ 27 5) then (Q ((tp_u σ 27 2 0) 27 4) (tp_u σ 27 2 0)) else (if (σ 27 4) = 0 then (Cv E TC yX6_readClause iX6_readClause d [.ref 27] σ (fun σ4 => Cv E TC yX6_skipBlanks iX6_skipBlanks d [.ref 27] σ4 (fun σ5 => Wi E TC iX6_readAll (d + 1) Q 28 [(0, .ref 27), (1, .int (x1 + 1))] [] σ5))) else (Q ((tp_u σ 27 2 0) 27 4) (tp_u σ 27 2 0))))) : Wi E TC iX6_readAll (d + 1) Q 28 [(0, .ref 27), (1, .int x1)] [] σ := by
  refine wp_iload_n 1 dX6_readAll_28 rfl rfl rfl ?_
  refine wp_sipush (v := 240) dX6_readAll_29 rfl (by decide) ?_
  refine wp_icmp_ge 67 dX6_readAll_32 (by decide) rfl (fun h1 => ?_) (fun h1 => ?_)
  · rw [if_pos h1] at K
    refine wp_aload_n 0 dX6_readAll_67 rfl rfl rfl ?_
    refine wp_iconst (v := 0) dX6_readAll_68 rfl (by decide) ?_
    refine wp_putI 6 2 kcX6 kfX6_26 rfl rfl rfl rfl lC_27 (congrArg Prod.fst gC_27) dX6_readAll_69 rfl ?_
    refine wp_aload_n 0 dX6_readAll_72 rfl rfl rfl ?_
    refine wp_getI 6 4 kcX6 kfX6_32 rfl lC_27 (congrArg Prod.fst gC_27) dX6_readAll_73 rfl ?_
    exact wp_ret .int rfl rfl (Nat.le_refl 0) (Nat.le_refl 0) dX6_readAll_76 ⟨rfl, _, rfl, K⟩
  · rw [if_neg h1] at K
    refine wp_aload_n 0 dX6_readAll_35 rfl rfl rfl ?_
    refine wp_getI 6 5 kcX6 kfX6_35 rfl lC_27 (congrArg Prod.fst gC_27) dX6_readAll_36 rfl ?_
    refine wp_aload_n 0 dX6_readAll_39 rfl rfl rfl ?_
    refine wp_getI 6 2 kcX6 kfX6_26 rfl lC_27 (congrArg Prod.fst gC_27) dX6_readAll_40 rfl ?_
    refine wp_icmp_ge 67 dX6_readAll_43 (by decide) rfl (fun h2 => ?_) (fun h2 => ?_)
    · rw [if_pos h2] at K
      refine wp_aload_n 0 dX6_readAll_67 rfl rfl rfl ?_
      refine wp_iconst (v := 0) dX6_readAll_68 rfl (by decide) ?_
      refine wp_putI 6 2 kcX6 kfX6_26 rfl rfl rfl rfl lC_27 (congrArg Prod.fst gC_27) dX6_readAll_69 rfl ?_
      refine wp_aload_n 0 dX6_readAll_72 rfl rfl rfl ?_
      refine wp_getI 6 4 kcX6 kfX6_32 rfl lC_27 (congrArg Prod.fst gC_27) dX6_readAll_73 rfl ?_
      exact wp_ret .int rfl rfl (Nat.le_refl 0) (Nat.le_refl 0) dX6_readAll_76 ⟨rfl, _, rfl, K⟩
    · rw [if_neg h2] at K
      refine wp_aload_n 0 dX6_readAll_46 rfl rfl rfl ?_
      refine wp_getI 6 4 kcX6 kfX6_32 rfl lC_27 (congrArg Prod.fst gC_27) dX6_readAll_47 rfl ?_
      refine wp_if_ne 67 dX6_readAll_50 (by decide) rfl (fun h3 => ?_) (fun h3 => ?_)
      · rw [if_neg h3] at K
        refine wp_aload_n 0 dX6_readAll_67 rfl rfl rfl ?_
        refine wp_iconst (v := 0) dX6_readAll_68 rfl (by decide) ?_
        refine wp_putI 6 2 kcX6 kfX6_26 rfl rfl rfl rfl lC_27 (congrArg Prod.fst gC_27) dX6_readAll_69 rfl ?_
        refine wp_aload_n 0 dX6_readAll_72 rfl rfl rfl ?_
        refine wp_getI 6 4 kcX6 kfX6_32 rfl lC_27 (congrArg Prod.fst gC_27) dX6_readAll_73 rfl ?_
        exact wp_ret .int rfl rfl (Nat.le_refl 0) (Nat.le_refl 0) dX6_readAll_76 ⟨rfl, _, rfl, K⟩
      · rw [if_pos h3] at K
        refine wp_aload_n 0 dX6_readAll_53 rfl rfl rfl ?_
        refine wn_callVv (As := []) (rest := []) 6 kmX6_41 (by decide) rfl rfl (Nat.le_of_ble_eq_true rfl) lC_27 (congrArg Prod.fst gC_27) dX6_readAll_54 rfl ?_
        refine Cv.mono K (fun σ4 K => ?_)
        refine wp_aload_n 0 dX6_readAll_57 rfl rfl rfl ?_
        refine wn_callVv (As := []) (rest := []) 6 kmX6_38 (by decide) rfl rfl (Nat.le_of_ble_eq_true rfl) lC_27 (congrArg Prod.fst gC_27) dX6_readAll_58 rfl ?_
        refine Cv.mono K (fun σ5 K => ?_)
        refine wp_iinc (v := x1 + 1) 1 [1, 0] dX6_readAll_61 rfl (by decide) rfl rfl rfl ?_
        show WP _ _ _ _ _ _ _ 64 [(0, .ref 27), (1, .int (x1 + 1))] _ _ _
        refine wp_goto 28 dX6_readAll_64 (by decide) ?_
        exact K
theorem bX6_skipBlanks_0 {E : tp_E} {d : Nat} {Q : tp_M → Prop} {σ : tp_M}    (K : Wv E TC iX6_skipBlanks (d + 1) Q 2 [(0, .ref 27), (1, .int 0)] [] σ) : Wv E TC iX6_skipBlanks (d + 1) Q 0 [(0, .ref 27)] [] σ := by
  refine wp_iconst (v := 0) dX6_skipBlanks_0 rfl (by decide) ?_
  refine wp_istore_n [1, 0] dX6_skipBlanks_1 rfl rfl (by decide) rfl ?_
  show WP _ _ _ _ _ _ _ 2 [(0, .ref 27), (1, .int 0)] _ _ _
  exact K
theorem eX6_skipBlanks {E : tp_E} {d : Nat} {Q : tp_M → Prop} {σ : tp_M}    (K : Wv E TC iX6_skipBlanks (d + 1) Q 2 [(0, .ref 27), (1, .int 0)] [] σ) : Cv E TC yX6_skipBlanks iX6_skipBlanks (d + 1) [.ref 27] σ Q := Cv.of ⟨by decide +kernel, rfl, rfl⟩ (Nat.le_of_ble_eq_true rfl) (bX6_skipBlanks_0   K)
theorem bX6_skipBlanks_2 {E : tp_E} {d : Nat} {Q : tp_M → Prop} {σ : tp_M}   (x1 : Int32) (K : if 240 ≤ x1 then (Q σ) else (Ci E TC yX6_letterAt iX6_letterAt d [.ref 27, .int (σ 27 5)] σ (fun v3 σ2 => if v3 = 32 then (Wv E TC iX6_skipBlanks (d + 1) Q 2 [(0, .ref 27), (1, .int (x1 + 1))] [] (tp_u σ2 27 5 ((σ2 27 5) + 1))) else (Q σ2)))) : Wv E TC iX6_skipBlanks (d + 1) Q 2 [(0, .ref 27), (1, .int x1)] [] σ := by
  refine wp_iload_n 1 dX6_skipBlanks_2 rfl rfl rfl ?_
  refine wp_sipush (v := 240) dX6_skipBlanks_3 rfl (by decide) ?_
  refine wp_icmp_ge 38 dX6_skipBlanks_6 (by decide) rfl (fun h1 => ?_) (fun h1 => ?_)
  · rw [if_pos h1] at K
    exact wp_vret rfl (Nat.le_refl 0) (Nat.le_refl 0) dX6_skipBlanks_38 ⟨rfl, rfl, K⟩
  · rw [if_neg h1] at K
    refine wp_aload_n 0 dX6_skipBlanks_9 rfl rfl rfl ?_
    refine wp_aload_n 0 dX6_skipBlanks_10 rfl rfl rfl ?_
    refine wp_getI 6 5 kcX6 kfX6_35 rfl lC_27 (congrArg Prod.fst gC_27) dX6_skipBlanks_11 rfl ?_
    refine wn_callVi (As := [.int (σ 27 5)]) (rest := []) 6 kmX6_44 (by decide) rfl rfl (Nat.le_of_ble_eq_true rfl) lC_27 (congrArg Prod.fst gC_27) dX6_skipBlanks_14 rfl ?_
    refine Ci.mono K (fun v3 σ2 K => ?_)
    refine wp_bipush (v := 32) dX6_skipBlanks_17 rfl (by decide) ?_
    refine wp_icmp_ne 38 dX6_skipBlanks_19 (by decide) rfl (fun h4 => ?_) (fun h4 => ?_)
    · rw [if_neg h4] at K
      exact wp_vret rfl (Nat.le_refl 0) (Nat.le_refl 0) dX6_skipBlanks_38 ⟨rfl, rfl, K⟩
    · rw [if_pos h4] at K
      refine wp_aload_n 0 dX6_skipBlanks_22 rfl rfl rfl ?_
      refine wp_dup dX6_skipBlanks_23 rfl rfl ?_
      refine wp_getI 6 5 kcX6 kfX6_35 rfl lC_27 (congrArg Prod.fst gC_27) dX6_skipBlanks_24 rfl ?_
      refine wp_iconst (v := 1) dX6_skipBlanks_27 rfl (by decide) ?_
      refine wp_iadd dX6_skipBlanks_28 rfl ?_
      refine wp_putI 6 5 kcX6 kfX6_35 rfl rfl rfl rfl lC_27 (congrArg Prod.fst gC_27) dX6_skipBlanks_29 rfl ?_
      refine wp_iinc (v := x1 + 1) 1 [1, 0] dX6_skipBlanks_32 rfl (by decide) rfl rfl rfl ?_
      show WP _ _ _ _ _ _ _ 35 [(0, .ref 27), (1, .int (x1 + 1))] _ _ _
      refine wp_goto 2 dX6_skipBlanks_35 (by decide) ?_
      exact K
theorem bX6_letterAt_0 {E : tp_E} {d : Nat} {Q : Int32 → tp_M → Prop} {σ : tp_M}   (x1 : Int32) (K : if x1 < 0 then (Q (-1) σ) else (if (σ 27 2) ≤ x1 then (Q (-1) σ) else (if 240 ≤ x1 then (Q (-1) σ) else (vp_in x1 240 ∧ (Q (σ 36 (Int32.toNatClampNeg x1)) σ))))) : Wi E TC iX6_letterAt d Q 0 [(0, .ref 27), (1, .int x1)] [] σ := by
  refine wp_iload_n 1 dX6_letterAt_0 rfl rfl rfl ?_
  refine wp_if_lt 28 dX6_letterAt_1 (by decide) rfl (fun h1 => ?_) (fun h1 => ?_)
  · rw [if_pos h1] at K
    refine wp_iconst (v := (-1)) dX6_letterAt_28 rfl (by decide) ?_
    exact wp_ret .int rfl rfl (Nat.le_refl 0) (Nat.le_refl 0) dX6_letterAt_29 ⟨rfl, _, rfl, K⟩
  · rw [if_neg h1] at K
    refine wp_iload_n 1 dX6_letterAt_4 rfl rfl rfl ?_
    refine wp_aload_n 0 dX6_letterAt_5 rfl rfl rfl ?_
    refine wp_getI 6 2 kcX6 kfX6_26 rfl lC_27 (congrArg Prod.fst gC_27) dX6_letterAt_6 rfl ?_
    refine wp_icmp_ge 28 dX6_letterAt_9 (by decide) rfl (fun h2 => ?_) (fun h2 => ?_)
    · rw [if_pos h2] at K
      refine wp_iconst (v := (-1)) dX6_letterAt_28 rfl (by decide) ?_
      exact wp_ret .int rfl rfl (Nat.le_refl 0) (Nat.le_refl 0) dX6_letterAt_29 ⟨rfl, _, rfl, K⟩
    · rw [if_neg h2] at K
      refine wp_iload_n 1 dX6_letterAt_12 rfl rfl rfl ?_
      refine wp_sipush (v := 240) dX6_letterAt_13 rfl (by decide) ?_
      refine wp_icmp_ge 28 dX6_letterAt_16 (by decide) rfl (fun h3 => ?_) (fun h3 => ?_)
      · rw [if_pos h3] at K
        refine wp_iconst (v := (-1)) dX6_letterAt_28 rfl (by decide) ?_
        exact wp_ret .int rfl rfl (Nat.le_refl 0) (Nat.le_refl 0) dX6_letterAt_29 ⟨rfl, _, rfl, K⟩
      · rw [if_neg h3] at K
        refine wp_aload_n 0 dX6_letterAt_19 rfl rfl rfl ?_
        refine wp_getR 6 1 kcX6 kfX6_18 rfl lC_27 (congrArg Prod.fst gC_27) rC_27_1 dX6_letterAt_20 rfl ?_
        refine wp_iload_n 1 dX6_letterAt_23 rfl rfl rfl ?_
        obtain ⟨k4, K⟩ := K
        refine wn_cald lC_36 gC_36 k4 dX6_letterAt_24 rfl ?_
        refine wp_goto 29 dX6_letterAt_25 (by decide) ?_
        exact wp_ret .int rfl rfl (Nat.le_refl 0) (Nat.le_refl 0) dX6_letterAt_29 ⟨rfl, _, rfl, K⟩
theorem eX6_letterAt {E : tp_E} {d : Nat} {Q : Int32 → tp_M → Prop} {σ : tp_M}   (x1 : Int32) (K : if x1 < 0 then (Q (-1) σ) else (if (σ 27 2) ≤ x1 then (Q (-1) σ) else (if 240 ≤ x1 then (Q (-1) σ) else (vp_in x1 240 ∧ (Q (σ 36 (Int32.toNatClampNeg x1)) σ))))) : Ci E TC yX6_letterAt iX6_letterAt d [.ref 27, .int x1] σ Q := Ci.of ⟨by decide +kernel, rfl, rfl⟩ (Nat.le_of_ble_eq_true rfl) (bX6_letterAt_0  x1 K)
theorem bX6_readClause_0 {E : tp_E} {d : Nat} {Q : tp_M → Prop} {σ : tp_M}    (K : Ci E TC yX6_letterAt iX6_letterAt d [.ref 27, .int (σ 27 5)] σ (fun v2 σ1 => Ci E TC yX6_faultOfWord iX6_faultOfWord d [.ref 27, .int v2] σ1 (fun v4 σ3 => if v4 = 0 then (Ci E TC yX6_firstLeast iX6_firstLeast d [.ref 27, .int v2] (tp_u σ3 27 5 ((σ3 27 5) + 1)) (fun v7 σ6 => Ci E TC yX6_firstMost iX6_firstMost d [.ref 27, .int v2] σ6 (fun v9 σ8 => Ci E TC yX6_readNumber iX6_readNumber d [.ref 27, .int v7, .int v9] σ8 (fun v11 σ10 => if (σ10 27 4) = 0 then (Ci E TC yX6_secondLeast iX6_secondLeast d [.ref 27, .int v2] σ10 (fun v14 σ13 => Ci E TC yX6_secondMost iX6_secondMost d [.ref 27, .int v2] σ13 (fun v16 σ15 => Ci E TC yX6_readNumber iX6_readNumber d [.ref 27, .int v14, .int v16] σ15 (fun v18 σ17 => Wv E TC iX6_readClause (d + 1) Q 79 [(0, .ref 27), (1, .int v2), (3, .int v11)] [.int v18] σ17)))) else (Wv E TC iX6_readClause (d + 1) Q 79 [(0, .ref 27), (1, .int v2), (3, .int v11)] [.int 0] σ10))))) else (Cv E TC yX6_blame iX6_blame d [.ref 27, .int v4, .int (σ3 27 5)] σ3 (fun σ19 => Q σ19))))) : Wv E TC iX6_readClause (d + 1) Q 0 [(0, .ref 27)] [] σ := by
  refine wp_aload_n 0 dX6_readClause_0 rfl rfl rfl ?_
  refine wp_aload_n 0 dX6_readClause_1 rfl rfl rfl ?_
  refine wp_getI 6 5 kcX6 kfX6_35 rfl lC_27 (congrArg Prod.fst gC_27) dX6_readClause_2 rfl ?_
  refine wn_callVi (As := [.int (σ 27 5)]) (rest := []) 6 kmX6_44 (by decide) rfl rfl (Nat.le_of_ble_eq_true rfl) lC_27 (congrArg Prod.fst gC_27) dX6_readClause_5 rfl ?_
  refine Ci.mono K (fun v2 σ1 K => ?_)
  refine wp_istore_n [1, 0] dX6_readClause_8 rfl rfl (by decide) rfl ?_
  show WP _ _ _ _ _ _ _ 9 [(0, .ref 27), (1, .int v2)] _ _ _
  refine wp_aload_n 0 dX6_readClause_9 rfl rfl rfl ?_
  refine wp_iload_n 1 dX6_readClause_10 rfl rfl rfl ?_
  refine wn_callVi (As := [.int v2]) (rest := []) 6 kmX6_48 (by decide) rfl rfl (Nat.le_of_ble_eq_true rfl) lC_27 (congrArg Prod.fst gC_27) dX6_readClause_11 rfl ?_
  refine Ci.mono K (fun v4 σ3 K => ?_)
  refine wp_istore_n [1, 2, 0] dX6_readClause_14 rfl rfl (by decide) rfl ?_
  show WP _ _ _ _ _ _ _ 15 [(0, .ref 27), (1, .int v2), (2, .int v4)] _ _ _
  refine wp_iload_n 2 dX6_readClause_15 rfl rfl rfl ?_
  refine wp_if_eq 29 dX6_readClause_16 (by decide) rfl (fun h5 => ?_) (fun h5 => ?_)
  · rw [if_pos h5] at K
    refine wp_aload_n 0 dX6_readClause_29 rfl rfl rfl ?_
    refine wp_dup dX6_readClause_30 rfl rfl ?_
    refine wp_getI 6 5 kcX6 kfX6_35 rfl lC_27 (congrArg Prod.fst gC_27) dX6_readClause_31 rfl ?_
    refine wp_iconst (v := 1) dX6_readClause_34 rfl (by decide) ?_
    refine wp_iadd dX6_readClause_35 rfl ?_
    refine wp_putI 6 5 kcX6 kfX6_35 rfl rfl rfl rfl lC_27 (congrArg Prod.fst gC_27) dX6_readClause_36 rfl ?_
    refine wp_aload_n 0 dX6_readClause_39 rfl rfl rfl ?_
    refine wp_aload_n 0 dX6_readClause_40 rfl rfl rfl ?_
    refine wp_iload_n 1 dX6_readClause_41 rfl rfl rfl ?_
    refine wn_callVi (As := [.int v2]) (rest := [.ref 27]) 6 kmX6_55 (by decide) rfl rfl (Nat.le_of_ble_eq_true rfl) lC_27 (congrArg Prod.fst gC_27) dX6_readClause_42 rfl ?_
    refine Ci.mono K (fun v7 σ6 K => ?_)
    refine wp_aload_n 0 dX6_readClause_45 rfl rfl rfl ?_
    refine wp_iload_n 1 dX6_readClause_46 rfl rfl rfl ?_
    refine wn_callVi (As := [.int v2]) (rest := [.int v7, .ref 27]) 6 kmX6_58 (by decide) rfl rfl (Nat.le_of_ble_eq_true rfl) lC_27 (congrArg Prod.fst gC_27) dX6_readClause_47 rfl ?_
    refine Ci.mono K (fun v9 σ8 K => ?_)
    refine wn_callVi (As := [.int v7, .int v9]) (rest := []) 6 kmX6_61 (by decide) rfl rfl (Nat.le_of_ble_eq_true rfl) lC_27 (congrArg Prod.fst gC_27) dX6_readClause_50 rfl ?_
    refine Ci.mono K (fun v11 σ10 K => ?_)
    refine wp_istore_n [1, 2, 3, 0] dX6_readClause_53 rfl rfl (by decide) rfl ?_
    show WP _ _ _ _ _ _ _ 54 [(0, .ref 27), (1, .int v2), (2, .int v4), (3, .int v11)] _ _ _
    refine wp_aload_n 0 dX6_readClause_54 rfl rfl rfl ?_
    refine wp_getI 6 4 kcX6 kfX6_32 rfl lC_27 (congrArg Prod.fst gC_27) dX6_readClause_55 rfl ?_
    refine wp_if_ne 78 dX6_readClause_58 (by decide) rfl (fun h12 => ?_) (fun h12 => ?_)
    · rw [if_neg h12] at K
      refine wp_iconst (v := 0) dX6_readClause_78 rfl (by decide) ?_
      refine wp_lv [0, 1, 3] rfl ?_
      exact K
    · rw [if_pos h12] at K
      refine wp_aload_n 0 dX6_readClause_61 rfl rfl rfl ?_
      refine wp_aload_n 0 dX6_readClause_62 rfl rfl rfl ?_
      refine wp_iload_n 1 dX6_readClause_63 rfl rfl rfl ?_
      refine wn_callVi (As := [.int v2]) (rest := [.ref 27]) 6 kmX6_65 (by decide) rfl rfl (Nat.le_of_ble_eq_true rfl) lC_27 (congrArg Prod.fst gC_27) dX6_readClause_64 rfl ?_
      refine Ci.mono K (fun v14 σ13 K => ?_)
      refine wp_aload_n 0 dX6_readClause_67 rfl rfl rfl ?_
      refine wp_iload_n 1 dX6_readClause_68 rfl rfl rfl ?_
      refine wn_callVi (As := [.int v2]) (rest := [.int v14, .ref 27]) 6 kmX6_68 (by decide) rfl rfl (Nat.le_of_ble_eq_true rfl) lC_27 (congrArg Prod.fst gC_27) dX6_readClause_69 rfl ?_
      refine Ci.mono K (fun v16 σ15 K => ?_)
      refine wn_callVi (As := [.int v14, .int v16]) (rest := []) 6 kmX6_61 (by decide) rfl rfl (Nat.le_of_ble_eq_true rfl) lC_27 (congrArg Prod.fst gC_27) dX6_readClause_72 rfl ?_
      refine Ci.mono K (fun v18 σ17 K => ?_)
      refine wp_goto 79 dX6_readClause_75 (by decide) ?_
      refine wp_lv [0, 1, 3] rfl ?_
      exact K
  · rw [if_neg h5] at K
    refine wp_aload_n 0 dX6_readClause_19 rfl rfl rfl ?_
    refine wp_iload_n 2 dX6_readClause_20 rfl rfl rfl ?_
    refine wp_aload_n 0 dX6_readClause_21 rfl rfl rfl ?_
    refine wp_getI 6 5 kcX6 kfX6_35 rfl lC_27 (congrArg Prod.fst gC_27) dX6_readClause_22 rfl ?_
    refine wn_callVv (As := [.int v4, .int (σ3 27 5)]) (rest := []) 6 kmX6_51 (by decide) rfl rfl (Nat.le_of_ble_eq_true rfl) lC_27 (congrArg Prod.fst gC_27) dX6_readClause_25 rfl ?_
    refine Cv.mono K (fun σ19 K => ?_)
    exact wp_vret rfl (Nat.le_refl 0) (Nat.le_refl 0) dX6_readClause_28 ⟨rfl, rfl, K⟩
theorem eX6_readClause {E : tp_E} {d : Nat} {Q : tp_M → Prop} {σ : tp_M}    (K : Ci E TC yX6_letterAt iX6_letterAt d [.ref 27, .int (σ 27 5)] σ (fun v2 σ1 => Ci E TC yX6_faultOfWord iX6_faultOfWord d [.ref 27, .int v2] σ1 (fun v4 σ3 => if v4 = 0 then (Ci E TC yX6_firstLeast iX6_firstLeast d [.ref 27, .int v2] (tp_u σ3 27 5 ((σ3 27 5) + 1)) (fun v7 σ6 => Ci E TC yX6_firstMost iX6_firstMost d [.ref 27, .int v2] σ6 (fun v9 σ8 => Ci E TC yX6_readNumber iX6_readNumber d [.ref 27, .int v7, .int v9] σ8 (fun v11 σ10 => if (σ10 27 4) = 0 then (Ci E TC yX6_secondLeast iX6_secondLeast d [.ref 27, .int v2] σ10 (fun v14 σ13 => Ci E TC yX6_secondMost iX6_secondMost d [.ref 27, .int v2] σ13 (fun v16 σ15 => Ci E TC yX6_readNumber iX6_readNumber d [.ref 27, .int v14, .int v16] σ15 (fun v18 σ17 => Wv E TC iX6_readClause (d + 1) Q 79 [(0, .ref 27), (1, .int v2), (3, .int v11)] [.int v18] σ17)))) else (Wv E TC iX6_readClause (d + 1) Q 79 [(0, .ref 27), (1, .int v2), (3, .int v11)] [.int 0] σ10))))) else (Cv E TC yX6_blame iX6_blame d [.ref 27, .int v4, .int (σ3 27 5)] σ3 (fun σ19 => Q σ19))))) : Cv E TC yX6_readClause iX6_readClause (d + 1) [.ref 27] σ Q := Cv.of ⟨by decide +kernel, rfl, rfl⟩ (Nat.le_of_ble_eq_true rfl) (bX6_readClause_0   K)
theorem bX6_readClause_79 {E : tp_E} {d : Nat} {Q : tp_M → Prop} {σ : tp_M}   (x1 : Int32) (x3 : Int32) (s0 : Int32) (K : if (σ 27 4) = 0 then (if x1 = 112 then (if x3 = s0 then (Cv E TC yX6_blame iX6_blame d [.ref 27, .int 4, .int (σ 27 6)] σ (fun σ4 => Wv E TC iX6_readClause (d + 1) Q 125 [(0, .ref 27), (1, .int x1), (3, .int x3), (4, .int s0)] [] σ4)) else (Ci E TC yX5_joinedTo iX5_joinedTo d [.ref 28, .int x3] σ (fun v6 σ5 => Ci E TC yX9_has iX9_has d [.int v6, .int s0] σ5 (fun v8 σ7 => if v8 = 0 then (Wv E TC iX6_readClause (d + 1) Q 125 [(0, .ref 27), (1, .int x1), (3, .int x3), (4, .int s0)] [] σ7) else (Cv E TC yX6_blame iX6_blame d [.ref 27, .int 4, .int (σ7 27 6)] σ7 (fun σ10 => Wv E TC iX6_readClause (d + 1) Q 125 [(0, .ref 27), (1, .int x1), (3, .int x3), (4, .int s0)] [] σ10)))))) else (Wv E TC iX6_readClause (d + 1) Q 125 [(0, .ref 27), (1, .int x1), (3, .int x3), (4, .int s0)] [] σ)) else (Wv E TC iX6_readClause (d + 1) Q 125 [(0, .ref 27), (1, .int x1), (3, .int x3), (4, .int s0)] [] σ)) : Wv E TC iX6_readClause (d + 1) Q 79 [(0, .ref 27), (1, .int x1), (3, .int x3)] [.int s0] σ := by
  refine wp_istore [1, 2, 3, 0] dX6_readClause_79 rfl (by decide) rfl ?_
  show WP _ _ _ _ _ _ _ 81 [(0, .ref 27), (1, .int x1), (3, .int x3), (4, .int s0)] _ _ _
  refine wp_aload_n 0 dX6_readClause_81 rfl rfl rfl ?_
  refine wp_getI 6 4 kcX6 kfX6_32 rfl lC_27 (congrArg Prod.fst gC_27) dX6_readClause_82 rfl ?_
  refine wp_if_ne 125 dX6_readClause_85 (by decide) rfl (fun h1 => ?_) (fun h1 => ?_)
  · rw [if_neg h1] at K
    exact K
  · rw [if_pos h1] at K
    refine wp_iload_n 1 dX6_readClause_88 rfl rfl rfl ?_
    refine wp_bipush (v := 112) dX6_readClause_89 rfl (by decide) ?_
    refine wp_icmp_ne 125 dX6_readClause_91 (by decide) rfl (fun h2 => ?_) (fun h2 => ?_)
    · rw [if_neg h2] at K
      exact K
    · rw [if_pos h2] at K
      refine wp_iload_n 2 dX6_readClause_94 rfl rfl rfl ?_
      refine wp_iload 3 dX6_readClause_95 rfl rfl ?_
      refine wp_icmp_eq 116 dX6_readClause_97 (by decide) rfl (fun h3 => ?_) (fun h3 => ?_)
      · rw [if_pos h3] at K
        refine wp_aload_n 0 dX6_readClause_116 rfl rfl rfl ?_
        refine wp_iconst (v := 4) dX6_readClause_117 rfl (by decide) ?_
        refine wp_aload_n 0 dX6_readClause_118 rfl rfl rfl ?_
        refine wp_getI 6 6 kcX6 kfX6_78 rfl lC_27 (congrArg Prod.fst gC_27) dX6_readClause_119 rfl ?_
        refine wn_callVv (As := [.int 4, .int (σ 27 6)]) (rest := []) 6 kmX6_51 (by decide) rfl rfl (Nat.le_of_ble_eq_true rfl) lC_27 (congrArg Prod.fst gC_27) dX6_readClause_122 rfl ?_
        refine Cv.mono K (fun σ4 K => ?_)
        exact K
      · rw [if_neg h3] at K
        refine wp_aload_n 0 dX6_readClause_100 rfl rfl rfl ?_
        refine wp_getR 6 0 kcX6 kfX6_12 rfl lC_27 (congrArg Prod.fst gC_27) rC_27_0 dX6_readClause_101 rfl ?_
        refine wp_iload_n 2 dX6_readClause_104 rfl rfl rfl ?_
        refine wn_callVi (As := [.int x3]) (rest := []) 5 kmX6_71 (by decide) rfl rfl (Nat.le_of_ble_eq_true rfl) lC_28 (congrArg Prod.fst gC_28) dX6_readClause_105 rfl ?_
        refine Ci.mono K (fun v6 σ5 K => ?_)
        refine wp_iload 3 dX6_readClause_108 rfl rfl ?_
        refine wn_callNi (As := [.int v6, .int s0]) (rest := []) kmX6_74 (by decide) rfl rfl (Nat.le_of_ble_eq_true rfl) dX6_readClause_110 rfl ?_
        refine Ci.mono K (fun v8 σ7 K => ?_)
        refine wp_if_eq 125 dX6_readClause_113 (by decide) rfl (fun h9 => ?_) (fun h9 => ?_)
        · rw [if_pos h9] at K
          exact K
        · rw [if_neg h9] at K
          refine wp_aload_n 0 dX6_readClause_116 rfl rfl rfl ?_
          refine wp_iconst (v := 4) dX6_readClause_117 rfl (by decide) ?_
          refine wp_aload_n 0 dX6_readClause_118 rfl rfl rfl ?_
          refine wp_getI 6 6 kcX6 kfX6_78 rfl lC_27 (congrArg Prod.fst gC_27) dX6_readClause_119 rfl ?_
          refine wn_callVv (As := [.int 4, .int (σ7 27 6)]) (rest := []) 6 kmX6_51 (by decide) rfl rfl (Nat.le_of_ble_eq_true rfl) lC_27 (congrArg Prod.fst gC_27) dX6_readClause_122 rfl ?_
          refine Cv.mono K (fun σ10 K => ?_)
          exact K
theorem bX6_readClause_125 {E : tp_E} {d : Nat} {Q : tp_M → Prop} {σ : tp_M}   (x1 : Int32) (x3 : Int32) (x4 : Int32) (K : if (σ 27 4) = 0 then (Cv E TC yX6_readEnd iX6_readEnd d [.ref 27] σ (fun σ4 => if (σ4 27 4) = 0 then (Cv E TC yX5_add iX5_add d [.ref 28, .int x1, .int x3, .int x4] σ4 (fun σ6 => Q σ6)) else (Q σ4))) else (if (σ 27 4) = 0 then (Cv E TC yX5_add iX5_add d [.ref 28, .int x1, .int x3, .int x4] σ (fun σ3 => Q σ3)) else (Q σ))) : Wv E TC iX6_readClause (d + 1) Q 125 [(0, .ref 27), (1, .int x1), (3, .int x3), (4, .int x4)] [] σ := by
  refine wp_aload_n 0 dX6_readClause_125 rfl rfl rfl ?_
  refine wp_getI 6 4 kcX6 kfX6_32 rfl lC_27 (congrArg Prod.fst gC_27) dX6_readClause_126 rfl ?_
  refine wp_if_ne 136 dX6_readClause_129 (by decide) rfl (fun h1 => ?_) (fun h1 => ?_)
  · rw [if_neg h1] at K
    refine wp_aload_n 0 dX6_readClause_136 rfl rfl rfl ?_
    refine wp_getI 6 4 kcX6 kfX6_32 rfl lC_27 (congrArg Prod.fst gC_27) dX6_readClause_137 rfl ?_
    refine wp_if_ne 154 dX6_readClause_140 (by decide) rfl (fun h2 => ?_) (fun h2 => ?_)
    · rw [if_neg h2] at K
      exact wp_vret rfl (Nat.le_refl 0) (Nat.le_refl 0) dX6_readClause_154 ⟨rfl, rfl, K⟩
    · rw [if_pos h2] at K
      refine wp_aload_n 0 dX6_readClause_143 rfl rfl rfl ?_
      refine wp_getR 6 0 kcX6 kfX6_12 rfl lC_27 (congrArg Prod.fst gC_27) rC_27_0 dX6_readClause_144 rfl ?_
      refine wp_iload_n 1 dX6_readClause_147 rfl rfl rfl ?_
      refine wp_iload_n 2 dX6_readClause_148 rfl rfl rfl ?_
      refine wp_iload 3 dX6_readClause_149 rfl rfl ?_
      refine wn_callVv (As := [.int x1, .int x3, .int x4]) (rest := []) 5 kmX6_84 (by decide) rfl rfl (Nat.le_of_ble_eq_true rfl) lC_28 (congrArg Prod.fst gC_28) dX6_readClause_151 rfl ?_
      refine Cv.mono K (fun σ3 K => ?_)
      exact wp_vret rfl (Nat.le_refl 0) (Nat.le_refl 0) dX6_readClause_154 ⟨rfl, rfl, K⟩
  · rw [if_pos h1] at K
    refine wp_aload_n 0 dX6_readClause_132 rfl rfl rfl ?_
    refine wn_callVv (As := []) (rest := []) 6 kmX6_81 (by decide) rfl rfl (Nat.le_of_ble_eq_true rfl) lC_27 (congrArg Prod.fst gC_27) dX6_readClause_133 rfl ?_
    refine Cv.mono K (fun σ4 K => ?_)
    refine wp_aload_n 0 dX6_readClause_136 rfl rfl rfl ?_
    refine wp_getI 6 4 kcX6 kfX6_32 rfl lC_27 (congrArg Prod.fst gC_27) dX6_readClause_137 rfl ?_
    refine wp_if_ne 154 dX6_readClause_140 (by decide) rfl (fun h5 => ?_) (fun h5 => ?_)
    · rw [if_neg h5] at K
      exact wp_vret rfl (Nat.le_refl 0) (Nat.le_refl 0) dX6_readClause_154 ⟨rfl, rfl, K⟩
    · rw [if_pos h5] at K
      refine wp_aload_n 0 dX6_readClause_143 rfl rfl rfl ?_
      refine wp_getR 6 0 kcX6 kfX6_12 rfl lC_27 (congrArg Prod.fst gC_27) rC_27_0 dX6_readClause_144 rfl ?_
      refine wp_iload_n 1 dX6_readClause_147 rfl rfl rfl ?_
      refine wp_iload_n 2 dX6_readClause_148 rfl rfl rfl ?_
      refine wp_iload 3 dX6_readClause_149 rfl rfl ?_
      refine wn_callVv (As := [.int x1, .int x3, .int x4]) (rest := []) 5 kmX6_84 (by decide) rfl rfl (Nat.le_of_ble_eq_true rfl) lC_28 (congrArg Prod.fst gC_28) dX6_readClause_151 rfl ?_
      refine Cv.mono K (fun σ6 K => ?_)
      exact wp_vret rfl (Nat.le_refl 0) (Nat.le_refl 0) dX6_readClause_154 ⟨rfl, rfl, K⟩
theorem bX6_faultOfWord_0 {E : tp_E} {d : Nat} {Q : Int32 → tp_M → Prop} {σ : tp_M}   (x1 : Int32) (K : if x1 = 104 then (Wi E TC iX6_faultOfWord (d + 1) Q 35 [(0, .ref 27), (1, .int x1)] [.int 1] σ) else (if x1 = 112 then (Wi E TC iX6_faultOfWord (d + 1) Q 35 [(0, .ref 27), (1, .int x1)] [.int 1] σ) else (if x1 = 119 then (Wi E TC iX6_faultOfWord (d + 1) Q 35 [(0, .ref 27), (1, .int x1)] [.int 1] σ) else (if x1 = 116 then (Wi E TC iX6_faultOfWord (d + 1) Q 35 [(0, .ref 27), (1, .int x1)] [.int 1] σ) else (if x1 = 111 then (Wi E TC iX6_faultOfWord (d + 1) Q 35 [(0, .ref 27), (1, .int x1)] [.int 1] σ) else (Wi E TC iX6_faultOfWord (d + 1) Q 35 [(0, .ref 27), (1, .int x1)] [.int 0] σ)))))) : Wi E TC iX6_faultOfWord (d + 1) Q 0 [(0, .ref 27), (1, .int x1)] [] σ := by
  refine wp_iload_n 1 dX6_faultOfWord_0 rfl rfl rfl ?_
  refine wp_bipush (v := 104) dX6_faultOfWord_1 rfl (by decide) ?_
  refine wp_icmp_eq 30 dX6_faultOfWord_3 (by decide) rfl (fun h1 => ?_) (fun h1 => ?_)
  · rw [if_pos h1] at K
    refine wp_iconst (v := 1) dX6_faultOfWord_30 rfl (by decide) ?_
    refine wp_goto 35 dX6_faultOfWord_31 (by decide) ?_
    exact K
  · rw [if_neg h1] at K
    refine wp_iload_n 1 dX6_faultOfWord_6 rfl rfl rfl ?_
    refine wp_bipush (v := 112) dX6_faultOfWord_7 rfl (by decide) ?_
    refine wp_icmp_eq 30 dX6_faultOfWord_9 (by decide) rfl (fun h2 => ?_) (fun h2 => ?_)
    · rw [if_pos h2] at K
      refine wp_iconst (v := 1) dX6_faultOfWord_30 rfl (by decide) ?_
      refine wp_goto 35 dX6_faultOfWord_31 (by decide) ?_
      exact K
    · rw [if_neg h2] at K
      refine wp_iload_n 1 dX6_faultOfWord_12 rfl rfl rfl ?_
      refine wp_bipush (v := 119) dX6_faultOfWord_13 rfl (by decide) ?_
      refine wp_icmp_eq 30 dX6_faultOfWord_15 (by decide) rfl (fun h3 => ?_) (fun h3 => ?_)
      · rw [if_pos h3] at K
        refine wp_iconst (v := 1) dX6_faultOfWord_30 rfl (by decide) ?_
        refine wp_goto 35 dX6_faultOfWord_31 (by decide) ?_
        exact K
      · rw [if_neg h3] at K
        refine wp_iload_n 1 dX6_faultOfWord_18 rfl rfl rfl ?_
        refine wp_bipush (v := 116) dX6_faultOfWord_19 rfl (by decide) ?_
        refine wp_icmp_eq 30 dX6_faultOfWord_21 (by decide) rfl (fun h4 => ?_) (fun h4 => ?_)
        · rw [if_pos h4] at K
          refine wp_iconst (v := 1) dX6_faultOfWord_30 rfl (by decide) ?_
          refine wp_goto 35 dX6_faultOfWord_31 (by decide) ?_
          exact K
        · rw [if_neg h4] at K
          refine wp_iload_n 1 dX6_faultOfWord_24 rfl rfl rfl ?_
          refine wp_bipush (v := 111) dX6_faultOfWord_25 rfl (by decide) ?_
          refine wp_icmp_ne 34 dX6_faultOfWord_27 (by decide) rfl (fun h5 => ?_) (fun h5 => ?_)
          · rw [if_neg h5] at K
            refine wp_iconst (v := 0) dX6_faultOfWord_34 rfl (by decide) ?_
            exact K
          · rw [if_pos h5] at K
            refine wp_iconst (v := 1) dX6_faultOfWord_30 rfl (by decide) ?_
            refine wp_goto 35 dX6_faultOfWord_31 (by decide) ?_
            exact K
theorem eX6_faultOfWord {E : tp_E} {d : Nat} {Q : Int32 → tp_M → Prop} {σ : tp_M}   (x1 : Int32) (K : if x1 = 104 then (Wi E TC iX6_faultOfWord (d + 1) Q 35 [(0, .ref 27), (1, .int x1)] [.int 1] σ) else (if x1 = 112 then (Wi E TC iX6_faultOfWord (d + 1) Q 35 [(0, .ref 27), (1, .int x1)] [.int 1] σ) else (if x1 = 119 then (Wi E TC iX6_faultOfWord (d + 1) Q 35 [(0, .ref 27), (1, .int x1)] [.int 1] σ) else (if x1 = 116 then (Wi E TC iX6_faultOfWord (d + 1) Q 35 [(0, .ref 27), (1, .int x1)] [.int 1] σ) else (if x1 = 111 then (Wi E TC iX6_faultOfWord (d + 1) Q 35 [(0, .ref 27), (1, .int x1)] [.int 1] σ) else (Wi E TC iX6_faultOfWord (d + 1) Q 35 [(0, .ref 27), (1, .int x1)] [.int 0] σ)))))) : Ci E TC yX6_faultOfWord iX6_faultOfWord (d + 1) [.ref 27, .int x1] σ Q := Ci.of ⟨by decide +kernel, rfl, rfl⟩ (Nat.le_of_ble_eq_true rfl) (bX6_faultOfWord_0  x1 K)
theorem bX6_faultOfWord_35 {E : tp_E} {d : Nat} {Q : Int32 → tp_M → Prop} {σ : tp_M}   (x1 : Int32) (s0 : Int32) (K : if s0 = 0 then (Q 1 σ) else (if (σ 28 0) = 0 then (if x1 = 104 then (Ci E TC yX5_isFull iX5_isFull d [.ref 28, .int x1] σ (fun v8 σ7 => if v8 = 0 then (Q 0 σ7) else (Q 3 σ7))) else (Q 1 σ)) else (Ci E TC yX5_isFull iX5_isFull d [.ref 28, .int x1] σ (fun v4 σ3 => if v4 = 0 then (Q 0 σ3) else (Q 3 σ3))))) : Wi E TC iX6_faultOfWord (d + 1) Q 35 [(0, .ref 27), (1, .int x1)] [.int s0] σ := by
  refine wp_istore_n [1, 2, 0] dX6_faultOfWord_35 rfl rfl (by decide) rfl ?_
  show WP _ _ _ _ _ _ _ 36 [(0, .ref 27), (1, .int x1), (2, .int s0)] _ _ _
  refine wp_iload_n 2 dX6_faultOfWord_36 rfl rfl rfl ?_
  refine wp_if_eq 56 dX6_faultOfWord_37 (by decide) rfl (fun h1 => ?_) (fun h1 => ?_)
  · rw [if_pos h1] at K
    refine wp_iconst (v := 1) dX6_faultOfWord_56 rfl (by decide) ?_
    exact wp_ret .int rfl rfl (Nat.le_refl 0) (Nat.le_refl 0) dX6_faultOfWord_57 ⟨rfl, _, rfl, K⟩
  · rw [if_neg h1] at K
    refine wp_aload_n 0 dX6_faultOfWord_40 rfl rfl rfl ?_
    refine wp_getR 6 0 kcX6 kfX6_12 rfl lC_27 (congrArg Prod.fst gC_27) rC_27_0 dX6_faultOfWord_41 rfl ?_
    refine wp_getI 5 0 kcX5 kfX6_88 rfl lC_28 (congrArg Prod.fst gC_28) dX6_faultOfWord_44 rfl ?_
    refine wp_if_ne 58 dX6_faultOfWord_47 (by decide) rfl (fun h2 => ?_) (fun h2 => ?_)
    · rw [if_neg h2] at K
      refine wp_aload_n 0 dX6_faultOfWord_58 rfl rfl rfl ?_
      refine wp_getR 6 0 kcX6 kfX6_12 rfl lC_27 (congrArg Prod.fst gC_27) rC_27_0 dX6_faultOfWord_59 rfl ?_
      refine wp_iload_n 1 dX6_faultOfWord_62 rfl rfl rfl ?_
      refine wn_callVi (As := [.int x1]) (rest := []) 5 kmX6_91 (by decide) rfl rfl (Nat.le_of_ble_eq_true rfl) lC_28 (congrArg Prod.fst gC_28) dX6_faultOfWord_63 rfl ?_
      refine Ci.mono K (fun v4 σ3 K => ?_)
      refine wp_if_eq 73 dX6_faultOfWord_66 (by decide) rfl (fun h5 => ?_) (fun h5 => ?_)
      · rw [if_pos h5] at K
        refine wp_iconst (v := 0) dX6_faultOfWord_73 rfl (by decide) ?_
        exact wp_ret .int rfl rfl (Nat.le_refl 0) (Nat.le_refl 0) dX6_faultOfWord_74 ⟨rfl, _, rfl, K⟩
      · rw [if_neg h5] at K
        refine wp_iconst (v := 3) dX6_faultOfWord_69 rfl (by decide) ?_
        refine wp_goto 74 dX6_faultOfWord_70 (by decide) ?_
        exact wp_ret .int rfl rfl (Nat.le_refl 0) (Nat.le_refl 0) dX6_faultOfWord_74 ⟨rfl, _, rfl, K⟩
    · rw [if_pos h2] at K
      refine wp_iload_n 1 dX6_faultOfWord_50 rfl rfl rfl ?_
      refine wp_bipush (v := 104) dX6_faultOfWord_51 rfl (by decide) ?_
      refine wp_icmp_eq 58 dX6_faultOfWord_53 (by decide) rfl (fun h6 => ?_) (fun h6 => ?_)
      · rw [if_pos h6] at K
        refine wp_aload_n 0 dX6_faultOfWord_58 rfl rfl rfl ?_
        refine wp_getR 6 0 kcX6 kfX6_12 rfl lC_27 (congrArg Prod.fst gC_27) rC_27_0 dX6_faultOfWord_59 rfl ?_
        refine wp_iload_n 1 dX6_faultOfWord_62 rfl rfl rfl ?_
        refine wn_callVi (As := [.int x1]) (rest := []) 5 kmX6_91 (by decide) rfl rfl (Nat.le_of_ble_eq_true rfl) lC_28 (congrArg Prod.fst gC_28) dX6_faultOfWord_63 rfl ?_
        refine Ci.mono K (fun v8 σ7 K => ?_)
        refine wp_if_eq 73 dX6_faultOfWord_66 (by decide) rfl (fun h9 => ?_) (fun h9 => ?_)
        · rw [if_pos h9] at K
          refine wp_iconst (v := 0) dX6_faultOfWord_73 rfl (by decide) ?_
          exact wp_ret .int rfl rfl (Nat.le_refl 0) (Nat.le_refl 0) dX6_faultOfWord_74 ⟨rfl, _, rfl, K⟩
        · rw [if_neg h9] at K
          refine wp_iconst (v := 3) dX6_faultOfWord_69 rfl (by decide) ?_
          refine wp_goto 74 dX6_faultOfWord_70 (by decide) ?_
          exact wp_ret .int rfl rfl (Nat.le_refl 0) (Nat.le_refl 0) dX6_faultOfWord_74 ⟨rfl, _, rfl, K⟩
      · rw [if_neg h6] at K
        refine wp_iconst (v := 1) dX6_faultOfWord_56 rfl (by decide) ?_
        exact wp_ret .int rfl rfl (Nat.le_refl 0) (Nat.le_refl 0) dX6_faultOfWord_57 ⟨rfl, _, rfl, K⟩
theorem bX6_blame_0 {E : tp_E} {d : Nat} {Q : tp_M → Prop} {σ : tp_M}   (x1 : Int32) (x2 : Int32) (K : Q (tp_u (tp_u σ 27 4 x1) 27 3 x2)) : Wv E TC iX6_blame d Q 0 [(0, .ref 27), (1, .int x1), (2, .int x2)] [] σ := by
  refine wp_aload_n 0 dX6_blame_0 rfl rfl rfl ?_
  refine wp_iload_n 1 dX6_blame_1 rfl rfl rfl ?_
  refine wp_putI 6 4 kcX6 kfX6_32 rfl rfl rfl rfl lC_27 (congrArg Prod.fst gC_27) dX6_blame_2 rfl ?_
  refine wp_aload_n 0 dX6_blame_5 rfl rfl rfl ?_
  refine wp_iload_n 2 dX6_blame_6 rfl rfl rfl ?_
  refine wp_putI 6 3 kcX6 kfX6_22 rfl rfl rfl rfl lC_27 (congrArg Prod.fst gC_27) dX6_blame_7 rfl ?_
  exact wp_vret rfl (Nat.le_refl 0) (Nat.le_refl 0) dX6_blame_10 ⟨rfl, rfl, K⟩
theorem eX6_blame {E : tp_E} {d : Nat} {Q : tp_M → Prop} {σ : tp_M}   (x1 : Int32) (x2 : Int32) (K : Q (tp_u (tp_u σ 27 4 x1) 27 3 x2)) : Cv E TC yX6_blame iX6_blame d [.ref 27, .int x1, .int x2] σ Q := Cv.of ⟨by decide +kernel, rfl, rfl⟩ (Nat.le_of_ble_eq_true rfl) (bX6_blame_0  x1 x2 K)
theorem bX6_firstLeast_0 {E : tp_E} {d : Nat} {Q : Int32 → tp_M → Prop} {σ : tp_M}   (x1 : Int32) (K : if x1 = 104 then (Q 1 σ) else (if x1 = 116 then (Q 1 σ) else (Q 0 σ))) : Wi E TC iX6_firstLeast d Q 0 [(0, .ref 27), (1, .int x1)] [] σ := by
  refine wp_iload_n 1 dX6_firstLeast_0 rfl rfl rfl ?_
  refine wp_bipush (v := 104) dX6_firstLeast_1 rfl (by decide) ?_
  refine wp_icmp_eq 12 dX6_firstLeast_3 (by decide) rfl (fun h1 => ?_) (fun h1 => ?_)
  · rw [if_pos h1] at K
    refine wp_iconst (v := 1) dX6_firstLeast_12 rfl (by decide) ?_
    refine wp_goto 17 dX6_firstLeast_13 (by decide) ?_
    exact wp_ret .int rfl rfl (Nat.le_refl 0) (Nat.le_refl 0) dX6_firstLeast_17 ⟨rfl, _, rfl, K⟩
  · rw [if_neg h1] at K
    refine wp_iload_n 1 dX6_firstLeast_6 rfl rfl rfl ?_
    refine wp_bipush (v := 116) dX6_firstLeast_7 rfl (by decide) ?_
    refine wp_icmp_ne 16 dX6_firstLeast_9 (by decide) rfl (fun h2 => ?_) (fun h2 => ?_)
    · rw [if_neg h2] at K
      refine wp_iconst (v := 0) dX6_firstLeast_16 rfl (by decide) ?_
      exact wp_ret .int rfl rfl (Nat.le_refl 0) (Nat.le_refl 0) dX6_firstLeast_17 ⟨rfl, _, rfl, K⟩
    · rw [if_pos h2] at K
      refine wp_iconst (v := 1) dX6_firstLeast_12 rfl (by decide) ?_
      refine wp_goto 17 dX6_firstLeast_13 (by decide) ?_
      exact wp_ret .int rfl rfl (Nat.le_refl 0) (Nat.le_refl 0) dX6_firstLeast_17 ⟨rfl, _, rfl, K⟩
theorem eX6_firstLeast {E : tp_E} {d : Nat} {Q : Int32 → tp_M → Prop} {σ : tp_M}   (x1 : Int32) (K : if x1 = 104 then (Q 1 σ) else (if x1 = 116 then (Q 1 σ) else (Q 0 σ))) : Ci E TC yX6_firstLeast iX6_firstLeast d [.ref 27, .int x1] σ Q := Ci.of ⟨by decide +kernel, rfl, rfl⟩ (Nat.le_of_ble_eq_true rfl) (bX6_firstLeast_0  x1 K)
theorem bX6_firstMost_0 {E : tp_E} {d : Nat} {Q : Int32 → tp_M → Prop} {σ : tp_M}   (x1 : Int32) (K : if x1 = 104 then (Q 8 σ) else (if x1 = 116 then (Q 99 σ) else (Q ((σ 28 0) - 1) σ))) : Wi E TC iX6_firstMost d Q 0 [(0, .ref 27), (1, .int x1)] [] σ := by
  refine wp_iload_n 1 dX6_firstMost_0 rfl rfl rfl ?_
  by_cases h1 : x1 = 104
  · rw [if_pos h1] at K
    refine wp_lookup 27 28 dX6_firstMost_1 (by decide) (by rw [h1]; rfl) (by decide) ?_
    refine wp_bipush (v := 8) dX6_firstMost_28 rfl (by decide) ?_
    exact wp_ret .int rfl rfl (Nat.le_refl 0) (Nat.le_refl 0) dX6_firstMost_30 ⟨rfl, _, rfl, K⟩
  rw [if_neg h1] at K
  by_cases h2 : x1 = 116
  · rw [if_pos h2] at K
    refine wp_lookup 30 31 dX6_firstMost_1 (by decide) (by rw [h2]; rfl) (by decide) ?_
    refine wp_bipush (v := 99) dX6_firstMost_31 rfl (by decide) ?_
    exact wp_ret .int rfl rfl (Nat.le_refl 0) (Nat.le_refl 0) dX6_firstMost_33 ⟨rfl, _, rfl, K⟩
  rw [if_neg h2] at K
  refine wp_lookup 33 34 dX6_firstMost_1 (by decide) (by rw [lv_osw h1 (by decide), lv_osw h2 (by decide)]; rfl) (by decide) ?_
  refine wp_aload_n 0 dX6_firstMost_34 rfl rfl rfl ?_
  refine wp_getR 6 0 kcX6 kfX6_12 rfl lC_27 (congrArg Prod.fst gC_27) rC_27_0 dX6_firstMost_35 rfl ?_
  refine wp_getI 5 0 kcX5 kfX6_88 rfl lC_28 (congrArg Prod.fst gC_28) dX6_firstMost_38 rfl ?_
  refine wp_iconst (v := 1) dX6_firstMost_41 rfl (by decide) ?_
  refine wp_isub dX6_firstMost_42 rfl ?_
  exact wp_ret .int rfl rfl (Nat.le_refl 0) (Nat.le_refl 0) dX6_firstMost_43 ⟨rfl, _, rfl, K⟩
theorem eX6_firstMost {E : tp_E} {d : Nat} {Q : Int32 → tp_M → Prop} {σ : tp_M}   (x1 : Int32) (K : if x1 = 104 then (Q 8 σ) else (if x1 = 116 then (Q 99 σ) else (Q ((σ 28 0) - 1) σ))) : Ci E TC yX6_firstMost iX6_firstMost d [.ref 27, .int x1] σ Q := Ci.of ⟨by decide +kernel, rfl, rfl⟩ (Nat.le_of_ble_eq_true rfl) (bX6_firstMost_0  x1 K)
theorem bX6_readNumber_0 {E : tp_E} {d : Nat} {Q : Int32 → tp_M → Prop} {σ : tp_M}   (x1 : Int32) (x2 : Int32) (K : Cv E TC yX6_skipBlanks iX6_skipBlanks d [.ref 27] σ (fun σ1 => Wi E TC iX6_readNumber (d + 1) Q 17 [(0, .ref 27), (1, .int x1), (2, .int x2), (3, .int 0), (4, .int 0)] [] (tp_u σ1 27 6 (σ1 27 5)))) : Wi E TC iX6_readNumber (d + 1) Q 0 [(0, .ref 27), (1, .int x1), (2, .int x2)] [] σ := by
  refine wp_aload_n 0 dX6_readNumber_0 rfl rfl rfl ?_
  refine wn_callVv (As := []) (rest := []) 6 kmX6_38 (by decide) rfl rfl (Nat.le_of_ble_eq_true rfl) lC_27 (congrArg Prod.fst gC_27) dX6_readNumber_1 rfl ?_
  refine Cv.mono K (fun σ1 K => ?_)
  refine wp_aload_n 0 dX6_readNumber_4 rfl rfl rfl ?_
  refine wp_aload_n 0 dX6_readNumber_5 rfl rfl rfl ?_
  refine wp_getI 6 5 kcX6 kfX6_35 rfl lC_27 (congrArg Prod.fst gC_27) dX6_readNumber_6 rfl ?_
  refine wp_putI 6 6 kcX6 kfX6_78 rfl rfl rfl rfl lC_27 (congrArg Prod.fst gC_27) dX6_readNumber_9 rfl ?_
  refine wp_iconst (v := 0) dX6_readNumber_12 rfl (by decide) ?_
  refine wp_istore_n [1, 2, 3, 0] dX6_readNumber_13 rfl rfl (by decide) rfl ?_
  show WP _ _ _ _ _ _ _ 14 [(0, .ref 27), (1, .int x1), (2, .int x2), (3, .int 0)] _ _ _
  refine wp_iconst (v := 0) dX6_readNumber_14 rfl (by decide) ?_
  refine wp_istore [1, 2, 3, 4, 0] dX6_readNumber_15 rfl (by decide) rfl ?_
  show WP _ _ _ _ _ _ _ 17 [(0, .ref 27), (1, .int x1), (2, .int x2), (3, .int 0), (4, .int 0)] _ _ _
  exact K
theorem eX6_readNumber {E : tp_E} {d : Nat} {Q : Int32 → tp_M → Prop} {σ : tp_M}   (x1 : Int32) (x2 : Int32) (K : Cv E TC yX6_skipBlanks iX6_skipBlanks d [.ref 27] σ (fun σ1 => Wi E TC iX6_readNumber (d + 1) Q 17 [(0, .ref 27), (1, .int x1), (2, .int x2), (3, .int 0), (4, .int 0)] [] (tp_u σ1 27 6 (σ1 27 5)))) : Ci E TC yX6_readNumber iX6_readNumber (d + 1) [.ref 27, .int x1, .int x2] σ Q := Ci.of ⟨by decide +kernel, rfl, rfl⟩ (Nat.le_of_ble_eq_true rfl) (bX6_readNumber_0  x1 x2 K)
theorem bX6_readNumber_17 {E : tp_E} {d : Nat} {Q : Int32 → tp_M → Prop} {σ : tp_M}   (x1 : Int32) (x2 : Int32) (x3 : Int32) (x4 : Int32) (K : if 240 ≤ x4 then (Wi E TC iX6_readNumber (d + 1) Q 82 [(0, .ref 27), (1, .int x1), (2, .int x2), (3, .int x3)] [] σ) else (Ci E TC yX6_letterAt iX6_letterAt d [.ref 27, .int (σ 27 5)] σ (fun v3 σ2 => Ci E TC yX6_isFigure iX6_isFigure d [.int v3] σ2 (fun v5 σ4 => if v5 = 0 then (Wi E TC iX6_readNumber (d + 1) Q 82 [(0, .ref 27), (1, .int x1), (2, .int x2), (3, .int x3)] [] σ4) else (if 3 ≤ x4 then (Wi E TC iX6_readNumber (d + 1) Q 17 [(0, .ref 27), (1, .int x1), (2, .int x2), (3, .int x3), (4, .int (x4 + 1))] [] (tp_u σ4 27 5 ((σ4 27 5) + 1))) else (Ci E TC yX6_letterAt iX6_letterAt d [.ref 27, .int (σ4 27 5)] σ4 (fun v9 σ8 => Wi E TC iX6_readNumber (d + 1) Q 17 [(0, .ref 27), (1, .int x1), (2, .int x2), (3, .int (((x3 * 10) + v9) - 48)), (4, .int (x4 + 1))] [] (tp_u σ8 27 5 ((σ8 27 5) + 1))))))))) : Wi E TC iX6_readNumber (d + 1) Q 17 [(0, .ref 27), (1, .int x1), (2, .int x2), (3, .int x3), (4, .int x4)] [] σ := by
  refine wp_iload 4 dX6_readNumber_17 rfl rfl ?_
  refine wp_sipush (v := 240) dX6_readNumber_19 rfl (by decide) ?_
  refine wp_icmp_ge 82 dX6_readNumber_22 (by decide) rfl (fun h1 => ?_) (fun h1 => ?_)
  · rw [if_pos h1] at K
    refine wp_lv [0, 1, 2, 3] rfl ?_
    exact K
  · rw [if_neg h1] at K
    refine wp_aload_n 0 dX6_readNumber_25 rfl rfl rfl ?_
    refine wp_aload_n 0 dX6_readNumber_26 rfl rfl rfl ?_
    refine wp_getI 6 5 kcX6 kfX6_35 rfl lC_27 (congrArg Prod.fst gC_27) dX6_readNumber_27 rfl ?_
    refine wn_callVi (As := [.int (σ 27 5)]) (rest := []) 6 kmX6_44 (by decide) rfl rfl (Nat.le_of_ble_eq_true rfl) lC_27 (congrArg Prod.fst gC_27) dX6_readNumber_30 rfl ?_
    refine Ci.mono K (fun v3 σ2 K => ?_)
    refine wn_callSi (As := [.int v3]) (rest := []) kmX6_95 (by decide) rfl rfl (Nat.le_of_ble_eq_true rfl) dX6_readNumber_33 rfl ?_
    refine Ci.mono K (fun v5 σ4 K => ?_)
    refine wp_if_eq 82 dX6_readNumber_36 (by decide) rfl (fun h6 => ?_) (fun h6 => ?_)
    · rw [if_pos h6] at K
      refine wp_lv [0, 1, 2, 3] rfl ?_
      exact K
    · rw [if_neg h6] at K
      refine wp_iload 4 dX6_readNumber_39 rfl rfl ?_
      refine wp_iconst (v := 3) dX6_readNumber_41 rfl (by decide) ?_
      refine wp_icmp_ge 64 dX6_readNumber_42 (by decide) rfl (fun h7 => ?_) (fun h7 => ?_)
      · rw [if_pos h7] at K
        refine wp_iload_n 3 dX6_readNumber_64 rfl rfl rfl ?_
        refine wp_istore_n [1, 2, 3, 0, 4] dX6_readNumber_65 rfl rfl (by decide) rfl ?_
        show WP _ _ _ _ _ _ _ 66 [(0, .ref 27), (1, .int x1), (2, .int x2), (3, .int x3), (4, .int x4)] _ _ _
        refine wp_aload_n 0 dX6_readNumber_66 rfl rfl rfl ?_
        refine wp_dup dX6_readNumber_67 rfl rfl ?_
        refine wp_getI 6 5 kcX6 kfX6_35 rfl lC_27 (congrArg Prod.fst gC_27) dX6_readNumber_68 rfl ?_
        refine wp_iconst (v := 1) dX6_readNumber_71 rfl (by decide) ?_
        refine wp_iadd dX6_readNumber_72 rfl ?_
        refine wp_putI 6 5 kcX6 kfX6_35 rfl rfl rfl rfl lC_27 (congrArg Prod.fst gC_27) dX6_readNumber_73 rfl ?_
        refine wp_iinc (v := x4 + 1) 4 [1, 2, 3, 4, 0] dX6_readNumber_76 rfl (by decide) rfl rfl rfl ?_
        show WP _ _ _ _ _ _ _ 79 [(0, .ref 27), (1, .int x1), (2, .int x2), (3, .int x3), (4, .int (x4 + 1))] _ _ _
        refine wp_goto 17 dX6_readNumber_79 (by decide) ?_
        exact K
      · rw [if_neg h7] at K
        refine wp_iload_n 3 dX6_readNumber_45 rfl rfl rfl ?_
        refine wp_bipush (v := 10) dX6_readNumber_46 rfl (by decide) ?_
        refine wp_imul dX6_readNumber_48 rfl ?_
        refine wp_aload_n 0 dX6_readNumber_49 rfl rfl rfl ?_
        refine wp_aload_n 0 dX6_readNumber_50 rfl rfl rfl ?_
        refine wp_getI 6 5 kcX6 kfX6_35 rfl lC_27 (congrArg Prod.fst gC_27) dX6_readNumber_51 rfl ?_
        refine wn_callVi (As := [.int (σ4 27 5)]) (rest := [.int (x3 * 10)]) 6 kmX6_44 (by decide) rfl rfl (Nat.le_of_ble_eq_true rfl) lC_27 (congrArg Prod.fst gC_27) dX6_readNumber_54 rfl ?_
        refine Ci.mono K (fun v9 σ8 K => ?_)
        refine wp_iadd dX6_readNumber_57 rfl ?_
        refine wp_bipush (v := 48) dX6_readNumber_58 rfl (by decide) ?_
        refine wp_isub dX6_readNumber_60 rfl ?_
        refine wp_goto 65 dX6_readNumber_61 (by decide) ?_
        refine wp_istore_n [1, 2, 3, 0, 4] dX6_readNumber_65 rfl rfl (by decide) rfl ?_
        show WP _ _ _ _ _ _ _ 66 [(0, .ref 27), (1, .int x1), (2, .int x2), (3, .int (((x3 * 10) + v9) - 48)), (4, .int x4)] _ _ _
        refine wp_aload_n 0 dX6_readNumber_66 rfl rfl rfl ?_
        refine wp_dup dX6_readNumber_67 rfl rfl ?_
        refine wp_getI 6 5 kcX6 kfX6_35 rfl lC_27 (congrArg Prod.fst gC_27) dX6_readNumber_68 rfl ?_
        refine wp_iconst (v := 1) dX6_readNumber_71 rfl (by decide) ?_
        refine wp_iadd dX6_readNumber_72 rfl ?_
        refine wp_putI 6 5 kcX6 kfX6_35 rfl rfl rfl rfl lC_27 (congrArg Prod.fst gC_27) dX6_readNumber_73 rfl ?_
        refine wp_iinc (v := x4 + 1) 4 [1, 2, 3, 4, 0] dX6_readNumber_76 rfl (by decide) rfl rfl rfl ?_
        show WP _ _ _ _ _ _ _ 79 [(0, .ref 27), (1, .int x1), (2, .int x2), (3, .int (((x3 * 10) + v9) - 48)), (4, .int (x4 + 1))] _ _ _
        refine wp_goto 17 dX6_readNumber_79 (by decide) ?_
        exact K
theorem bX6_readNumber_82 {E : tp_E} {d : Nat} {Q : Int32 → tp_M → Prop} {σ : tp_M}   (x1 : Int32) (x2 : Int32) (x3 : Int32) (K : if (σ 27 5) = (σ 27 6) then (Cv E TC yX6_blame iX6_blame d [.ref 27, .int 1, .int (σ 27 5)] σ (fun σ8 => Q x3 σ8)) else (if 3 < ((σ 27 5) - (σ 27 6)) then (Cv E TC yX6_blame iX6_blame d [.ref 27, .int 2, .int (σ 27 6)] σ (fun σ3 => Q x3 σ3)) else (if x3 < x1 then (Cv E TC yX6_blame iX6_blame d [.ref 27, .int 2, .int (σ 27 6)] σ (fun σ5 => Q x3 σ5)) else (if x3 ≤ x2 then (Q x3 σ) else (Cv E TC yX6_blame iX6_blame d [.ref 27, .int 2, .int (σ 27 6)] σ (fun σ7 => Q x3 σ7)))))) : Wi E TC iX6_readNumber (d + 1) Q 82 [(0, .ref 27), (1, .int x1), (2, .int x2), (3, .int x3)] [] σ := by
  refine wp_aload_n 0 dX6_readNumber_82 rfl rfl rfl ?_
  refine wp_getI 6 5 kcX6 kfX6_35 rfl lC_27 (congrArg Prod.fst gC_27) dX6_readNumber_83 rfl ?_
  refine wp_aload_n 0 dX6_readNumber_86 rfl rfl rfl ?_
  refine wp_getI 6 6 kcX6 kfX6_78 rfl lC_27 (congrArg Prod.fst gC_27) dX6_readNumber_87 rfl ?_
  refine wp_icmp_ne 105 dX6_readNumber_90 (by decide) rfl (fun h1 => ?_) (fun h1 => ?_)
  · rw [if_neg h1] at K
    refine wp_aload_n 0 dX6_readNumber_105 rfl rfl rfl ?_
    refine wp_getI 6 5 kcX6 kfX6_35 rfl lC_27 (congrArg Prod.fst gC_27) dX6_readNumber_106 rfl ?_
    refine wp_aload_n 0 dX6_readNumber_109 rfl rfl rfl ?_
    refine wp_getI 6 6 kcX6 kfX6_78 rfl lC_27 (congrArg Prod.fst gC_27) dX6_readNumber_110 rfl ?_
    refine wp_isub dX6_readNumber_113 rfl ?_
    refine wp_iconst (v := 3) dX6_readNumber_114 rfl (by decide) ?_
    refine wp_icmp_gt 128 dX6_readNumber_115 (by decide) rfl (fun h2 => ?_) (fun h2 => ?_)
    · rw [if_pos h2] at K
      refine wp_aload_n 0 dX6_readNumber_128 rfl rfl rfl ?_
      refine wp_iconst (v := 2) dX6_readNumber_129 rfl (by decide) ?_
      refine wp_aload_n 0 dX6_readNumber_130 rfl rfl rfl ?_
      refine wp_getI 6 6 kcX6 kfX6_78 rfl lC_27 (congrArg Prod.fst gC_27) dX6_readNumber_131 rfl ?_
      refine wn_callVv (As := [.int 2, .int (σ 27 6)]) (rest := []) 6 kmX6_51 (by decide) rfl rfl (Nat.le_of_ble_eq_true rfl) lC_27 (congrArg Prod.fst gC_27) dX6_readNumber_134 rfl ?_
      refine Cv.mono K (fun σ3 K => ?_)
      refine wp_iload_n 3 dX6_readNumber_137 rfl rfl rfl ?_
      exact wp_ret .int rfl rfl (Nat.le_refl 0) (Nat.le_refl 0) dX6_readNumber_138 ⟨rfl, _, rfl, K⟩
    · rw [if_neg h2] at K
      refine wp_iload_n 3 dX6_readNumber_118 rfl rfl rfl ?_
      refine wp_iload_n 1 dX6_readNumber_119 rfl rfl rfl ?_
      refine wp_icmp_lt 128 dX6_readNumber_120 (by decide) rfl (fun h4 => ?_) (fun h4 => ?_)
      · rw [if_pos h4] at K
        refine wp_aload_n 0 dX6_readNumber_128 rfl rfl rfl ?_
        refine wp_iconst (v := 2) dX6_readNumber_129 rfl (by decide) ?_
        refine wp_aload_n 0 dX6_readNumber_130 rfl rfl rfl ?_
        refine wp_getI 6 6 kcX6 kfX6_78 rfl lC_27 (congrArg Prod.fst gC_27) dX6_readNumber_131 rfl ?_
        refine wn_callVv (As := [.int 2, .int (σ 27 6)]) (rest := []) 6 kmX6_51 (by decide) rfl rfl (Nat.le_of_ble_eq_true rfl) lC_27 (congrArg Prod.fst gC_27) dX6_readNumber_134 rfl ?_
        refine Cv.mono K (fun σ5 K => ?_)
        refine wp_iload_n 3 dX6_readNumber_137 rfl rfl rfl ?_
        exact wp_ret .int rfl rfl (Nat.le_refl 0) (Nat.le_refl 0) dX6_readNumber_138 ⟨rfl, _, rfl, K⟩
      · rw [if_neg h4] at K
        refine wp_iload_n 3 dX6_readNumber_123 rfl rfl rfl ?_
        refine wp_iload_n 2 dX6_readNumber_124 rfl rfl rfl ?_
        refine wp_icmp_le 137 dX6_readNumber_125 (by decide) rfl (fun h6 => ?_) (fun h6 => ?_)
        · rw [if_pos h6] at K
          refine wp_iload_n 3 dX6_readNumber_137 rfl rfl rfl ?_
          exact wp_ret .int rfl rfl (Nat.le_refl 0) (Nat.le_refl 0) dX6_readNumber_138 ⟨rfl, _, rfl, K⟩
        · rw [if_neg h6] at K
          refine wp_aload_n 0 dX6_readNumber_128 rfl rfl rfl ?_
          refine wp_iconst (v := 2) dX6_readNumber_129 rfl (by decide) ?_
          refine wp_aload_n 0 dX6_readNumber_130 rfl rfl rfl ?_
          refine wp_getI 6 6 kcX6 kfX6_78 rfl lC_27 (congrArg Prod.fst gC_27) dX6_readNumber_131 rfl ?_
          refine wn_callVv (As := [.int 2, .int (σ 27 6)]) (rest := []) 6 kmX6_51 (by decide) rfl rfl (Nat.le_of_ble_eq_true rfl) lC_27 (congrArg Prod.fst gC_27) dX6_readNumber_134 rfl ?_
          refine Cv.mono K (fun σ7 K => ?_)
          refine wp_iload_n 3 dX6_readNumber_137 rfl rfl rfl ?_
          exact wp_ret .int rfl rfl (Nat.le_refl 0) (Nat.le_refl 0) dX6_readNumber_138 ⟨rfl, _, rfl, K⟩
  · rw [if_pos h1] at K
    refine wp_aload_n 0 dX6_readNumber_93 rfl rfl rfl ?_
    refine wp_iconst (v := 1) dX6_readNumber_94 rfl (by decide) ?_
    refine wp_aload_n 0 dX6_readNumber_95 rfl rfl rfl ?_
    refine wp_getI 6 5 kcX6 kfX6_35 rfl lC_27 (congrArg Prod.fst gC_27) dX6_readNumber_96 rfl ?_
    refine wn_callVv (As := [.int 1, .int (σ 27 5)]) (rest := []) 6 kmX6_51 (by decide) rfl rfl (Nat.le_of_ble_eq_true rfl) lC_27 (congrArg Prod.fst gC_27) dX6_readNumber_99 rfl ?_
    refine Cv.mono K (fun σ8 K => ?_)
    refine wp_goto 137 dX6_readNumber_102 (by decide) ?_
    refine wp_iload_n 3 dX6_readNumber_137 rfl rfl rfl ?_
    exact wp_ret .int rfl rfl (Nat.le_refl 0) (Nat.le_refl 0) dX6_readNumber_138 ⟨rfl, _, rfl, K⟩
theorem bX6_secondLeast_0 {E : tp_E} {d : Nat} {Q : Int32 → tp_M → Prop} {σ : tp_M}   (x1 : Int32) (K : if x1 = 119 then (Q 1 σ) else (Q 0 σ)) : Wi E TC iX6_secondLeast d Q 0 [(0, .ref 27), (1, .int x1)] [] σ := by
  refine wp_iload_n 1 dX6_secondLeast_0 rfl rfl rfl ?_
  refine wp_bipush (v := 119) dX6_secondLeast_1 rfl (by decide) ?_
  refine wp_icmp_ne 10 dX6_secondLeast_3 (by decide) rfl (fun h1 => ?_) (fun h1 => ?_)
  · rw [if_neg h1] at K
    refine wp_iconst (v := 0) dX6_secondLeast_10 rfl (by decide) ?_
    exact wp_ret .int rfl rfl (Nat.le_refl 0) (Nat.le_refl 0) dX6_secondLeast_11 ⟨rfl, _, rfl, K⟩
  · rw [if_pos h1] at K
    refine wp_iconst (v := 1) dX6_secondLeast_6 rfl (by decide) ?_
    refine wp_goto 11 dX6_secondLeast_7 (by decide) ?_
    exact wp_ret .int rfl rfl (Nat.le_refl 0) (Nat.le_refl 0) dX6_secondLeast_11 ⟨rfl, _, rfl, K⟩
theorem eX6_secondLeast {E : tp_E} {d : Nat} {Q : Int32 → tp_M → Prop} {σ : tp_M}   (x1 : Int32) (K : if x1 = 119 then (Q 1 σ) else (Q 0 σ)) : Ci E TC yX6_secondLeast iX6_secondLeast d [.ref 27, .int x1] σ Q := Ci.of ⟨by decide +kernel, rfl, rfl⟩ (Nat.le_of_ble_eq_true rfl) (bX6_secondLeast_0  x1 K)
theorem bX6_secondMost_0 {E : tp_E} {d : Nat} {Q : Int32 → tp_M → Prop} {σ : tp_M}   (x1 : Int32) (K : if x1 = 112 then (Q ((σ 28 0) - 1) σ) else (if x1 = 119 then (Q 999 σ) else (Q 99 σ))) : Wi E TC iX6_secondMost d Q 0 [(0, .ref 27), (1, .int x1)] [] σ := by
  refine wp_iload_n 1 dX6_secondMost_0 rfl rfl rfl ?_
  by_cases h1 : x1 = 112
  · rw [if_pos h1] at K
    refine wp_lookup 27 28 dX6_secondMost_1 (by decide) (by rw [h1]; rfl) (by decide) ?_
    refine wp_aload_n 0 dX6_secondMost_28 rfl rfl rfl ?_
    refine wp_getR 6 0 kcX6 kfX6_12 rfl lC_27 (congrArg Prod.fst gC_27) rC_27_0 dX6_secondMost_29 rfl ?_
    refine wp_getI 5 0 kcX5 kfX6_88 rfl lC_28 (congrArg Prod.fst gC_28) dX6_secondMost_32 rfl ?_
    refine wp_iconst (v := 1) dX6_secondMost_35 rfl (by decide) ?_
    refine wp_isub dX6_secondMost_36 rfl ?_
    exact wp_ret .int rfl rfl (Nat.le_refl 0) (Nat.le_refl 0) dX6_secondMost_37 ⟨rfl, _, rfl, K⟩
  rw [if_neg h1] at K
  by_cases h2 : x1 = 119
  · rw [if_pos h2] at K
    refine wp_lookup 37 38 dX6_secondMost_1 (by decide) (by rw [h2]; rfl) (by decide) ?_
    refine wp_sipush (v := 999) dX6_secondMost_38 rfl (by decide) ?_
    exact wp_ret .int rfl rfl (Nat.le_refl 0) (Nat.le_refl 0) dX6_secondMost_41 ⟨rfl, _, rfl, K⟩
  rw [if_neg h2] at K
  refine wp_lookup 41 42 dX6_secondMost_1 (by decide) (by rw [lv_osw h1 (by decide), lv_osw h2 (by decide)]; rfl) (by decide) ?_
  refine wp_bipush (v := 99) dX6_secondMost_42 rfl (by decide) ?_
  exact wp_ret .int rfl rfl (Nat.le_refl 0) (Nat.le_refl 0) dX6_secondMost_44 ⟨rfl, _, rfl, K⟩
theorem eX6_secondMost {E : tp_E} {d : Nat} {Q : Int32 → tp_M → Prop} {σ : tp_M}   (x1 : Int32) (K : if x1 = 112 then (Q ((σ 28 0) - 1) σ) else (if x1 = 119 then (Q 999 σ) else (Q 99 σ))) : Ci E TC yX6_secondMost iX6_secondMost d [.ref 27, .int x1] σ Q := Ci.of ⟨by decide +kernel, rfl, rfl⟩ (Nat.le_of_ble_eq_true rfl) (bX6_secondMost_0  x1 K)
theorem bX6_readEnd_0 {E : tp_E} {d : Nat} {Q : tp_M → Prop} {σ : tp_M}    (K : Cv E TC yX6_skipBlanks iX6_skipBlanks d [.ref 27] σ (fun σ1 => Ci E TC yX6_letterAt iX6_letterAt d [.ref 27, .int (σ1 27 5)] σ1 (fun v3 σ2 => if v3 = 59 then (Q (tp_u σ2 27 5 ((σ2 27 5) + 1))) else (Cv E TC yX6_blame iX6_blame d [.ref 27, .int 1, .int (σ2 27 5)] σ2 (fun σ5 => Q σ5))))) : Wv E TC iX6_readEnd (d + 1) Q 0 [(0, .ref 27)] [] σ := by
  refine wp_aload_n 0 dX6_readEnd_0 rfl rfl rfl ?_
  refine wn_callVv (As := []) (rest := []) 6 kmX6_38 (by decide) rfl rfl (Nat.le_of_ble_eq_true rfl) lC_27 (congrArg Prod.fst gC_27) dX6_readEnd_1 rfl ?_
  refine Cv.mono K (fun σ1 K => ?_)
  refine wp_aload_n 0 dX6_readEnd_4 rfl rfl rfl ?_
  refine wp_aload_n 0 dX6_readEnd_5 rfl rfl rfl ?_
  refine wp_getI 6 5 kcX6 kfX6_35 rfl lC_27 (congrArg Prod.fst gC_27) dX6_readEnd_6 rfl ?_
  refine wn_callVi (As := [.int (σ1 27 5)]) (rest := []) 6 kmX6_44 (by decide) rfl rfl (Nat.le_of_ble_eq_true rfl) lC_27 (congrArg Prod.fst gC_27) dX6_readEnd_9 rfl ?_
  refine Ci.mono K (fun v3 σ2 K => ?_)
  refine wp_bipush (v := 59) dX6_readEnd_12 rfl (by decide) ?_
  refine wp_icmp_ne 30 dX6_readEnd_14 (by decide) rfl (fun h4 => ?_) (fun h4 => ?_)
  · rw [if_neg h4] at K
    refine wp_aload_n 0 dX6_readEnd_30 rfl rfl rfl ?_
    refine wp_iconst (v := 1) dX6_readEnd_31 rfl (by decide) ?_
    refine wp_aload_n 0 dX6_readEnd_32 rfl rfl rfl ?_
    refine wp_getI 6 5 kcX6 kfX6_35 rfl lC_27 (congrArg Prod.fst gC_27) dX6_readEnd_33 rfl ?_
    refine wn_callVv (As := [.int 1, .int (σ2 27 5)]) (rest := []) 6 kmX6_51 (by decide) rfl rfl (Nat.le_of_ble_eq_true rfl) lC_27 (congrArg Prod.fst gC_27) dX6_readEnd_36 rfl ?_
    refine Cv.mono K (fun σ5 K => ?_)
    exact wp_vret rfl (Nat.le_refl 0) (Nat.le_refl 0) dX6_readEnd_39 ⟨rfl, rfl, K⟩
  · rw [if_pos h4] at K
    refine wp_aload_n 0 dX6_readEnd_17 rfl rfl rfl ?_
    refine wp_dup dX6_readEnd_18 rfl rfl ?_
    refine wp_getI 6 5 kcX6 kfX6_35 rfl lC_27 (congrArg Prod.fst gC_27) dX6_readEnd_19 rfl ?_
    refine wp_iconst (v := 1) dX6_readEnd_22 rfl (by decide) ?_
    refine wp_iadd dX6_readEnd_23 rfl ?_
    refine wp_putI 6 5 kcX6 kfX6_35 rfl rfl rfl rfl lC_27 (congrArg Prod.fst gC_27) dX6_readEnd_24 rfl ?_
    refine wp_goto 39 dX6_readEnd_27 (by decide) ?_
    exact wp_vret rfl (Nat.le_refl 0) (Nat.le_refl 0) dX6_readEnd_39 ⟨rfl, rfl, K⟩
theorem eX6_readEnd {E : tp_E} {d : Nat} {Q : tp_M → Prop} {σ : tp_M}    (K : Cv E TC yX6_skipBlanks iX6_skipBlanks d [.ref 27] σ (fun σ1 => Ci E TC yX6_letterAt iX6_letterAt d [.ref 27, .int (σ1 27 5)] σ1 (fun v3 σ2 => if v3 = 59 then (Q (tp_u σ2 27 5 ((σ2 27 5) + 1))) else (Cv E TC yX6_blame iX6_blame d [.ref 27, .int 1, .int (σ2 27 5)] σ2 (fun σ5 => Q σ5))))) : Cv E TC yX6_readEnd iX6_readEnd (d + 1) [.ref 27] σ Q := Cv.of ⟨by decide +kernel, rfl, rfl⟩ (Nat.le_of_ble_eq_true rfl) (bX6_readEnd_0   K)

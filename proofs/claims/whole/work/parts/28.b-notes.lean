theorem bX3_clear_0 {E : tp_E} {d : Nat} {Q : tp_M → Prop} {σ : tp_M}    (K : Q (tp_u (tp_u σ 151 7 0) 151 8 0)) : Wv E TC iX3_clear d Q 0 [(0, .ref 151)] [] σ := by
  refine wp_aload_n 0 dX3_clear_0 rfl rfl rfl ?_
  refine wp_iconst (v := 0) dX3_clear_1 rfl (by decide) ?_
  refine wp_putI 3 7 kcX3 kfX3_36 rfl rfl rfl rfl lC_151 (congrArg Prod.fst gC_151) dX3_clear_2 rfl ?_
  refine wp_aload_n 0 dX3_clear_5 rfl rfl rfl ?_
  refine wp_iconst (v := 0) dX3_clear_6 rfl (by decide) ?_
  refine wp_putI 3 8 kcX3 kfX3_40 rfl rfl rfl rfl lC_151 (congrArg Prod.fst gC_151) dX3_clear_7 rfl ?_
  exact wp_vret rfl (Nat.le_refl 0) (Nat.le_refl 0) dX3_clear_10 ⟨rfl, rfl, K⟩
theorem eX3_clear {E : tp_E} {d : Nat} {Q : tp_M → Prop} {σ : tp_M}    (K : Q (tp_u (tp_u σ 151 7 0) 151 8 0)) : Cv E TC yX3_clear iX3_clear d [.ref 151] σ Q := Cv.of ⟨by decide +kernel, rfl, rfl⟩ (Nat.le_of_ble_eq_true rfl) (bX3_clear_0   K)
theorem bX3_addSight_0 {E : tp_E} {d : Nat} {Q : Int32 → tp_M → Prop} {σ : tp_M}   (x1 : Int32) (x2 : Int32) (x3 : Int32) (K : if (σ 151 7) < 6 then (vp_in (σ 151 7) 6 ∧ (vp_in ((tp_u σ 152 (Int32.toNatClampNeg (σ 151 7)) x1) 151 7) 6 ∧ (vp_in ((tp_u (tp_u σ 152 (Int32.toNatClampNeg (σ 151 7)) x1) 153 (Int32.toNatClampNeg ((tp_u σ 152 (Int32.toNatClampNeg (σ 151 7)) x1) 151 7)) x2) 151 7) 6 ∧ ((x3 = 0 ∨ x3 = 1) ∧ (Q 1 (tp_u (tp_u (tp_u (tp_u σ 152 (Int32.toNatClampNeg (σ 151 7)) x1) 153 (Int32.toNatClampNeg ((tp_u σ 152 (Int32.toNatClampNeg (σ 151 7)) x1) 151 7)) x2) 154 (Int32.toNatClampNeg ((tp_u (tp_u σ 152 (Int32.toNatClampNeg (σ 151 7)) x1) 153 (Int32.toNatClampNeg ((tp_u σ 152 (Int32.toNatClampNeg (σ 151 7)) x1) 151 7)) x2) 151 7)) x3) 151 7 (((tp_u (tp_u (tp_u σ 152 (Int32.toNatClampNeg (σ 151 7)) x1) 153 (Int32.toNatClampNeg ((tp_u σ 152 (Int32.toNatClampNeg (σ 151 7)) x1) 151 7)) x2) 154 (Int32.toNatClampNeg ((tp_u (tp_u σ 152 (Int32.toNatClampNeg (σ 151 7)) x1) 153 (Int32.toNatClampNeg ((tp_u σ 152 (Int32.toNatClampNeg (σ 151 7)) x1) 151 7)) x2) 151 7)) x3) 151 7) + 1))))))) else (Q 0 σ)) : Wi E TC iX3_addSight d Q 0 [(0, .ref 151), (1, .int x1), (2, .int x2), (3, .int x3)] [] σ := by
  refine wp_aload_n 0 dX3_addSight_0 rfl rfl rfl ?_
  refine wp_getI 3 7 kcX3 kfX3_36 rfl lC_151 (congrArg Prod.fst gC_151) dX3_addSight_1 rfl ?_
  refine wp_bipush (v := 6) dX3_addSight_4 rfl (by decide) ?_
  refine wp_icmp_lt 11 dX3_addSight_6 (by decide) rfl (fun h1 => ?_) (fun h1 => ?_)
  · rw [if_pos h1] at K
    refine wp_aload_n 0 dX3_addSight_11 rfl rfl rfl ?_
    refine wp_getR 3 2 kcX3 kfX3_9 rfl lC_151 (congrArg Prod.fst gC_151) rC_151_2 dX3_addSight_12 rfl ?_
    refine wp_aload_n 0 dX3_addSight_15 rfl rfl rfl ?_
    refine wp_getI 3 7 kcX3 kfX3_36 rfl lC_151 (congrArg Prod.fst gC_151) dX3_addSight_16 rfl ?_
    refine wp_iload_n 1 dX3_addSight_19 rfl rfl rfl ?_
    obtain ⟨k2, K⟩ := K
    refine wn_iast lC_152 gC_152 k2 dX3_addSight_20 rfl ?_
    refine wp_aload_n 0 dX3_addSight_21 rfl rfl rfl ?_
    refine wp_getR 3 3 kcX3 kfX3_15 rfl lC_151 (congrArg Prod.fst gC_151) rC_151_3 dX3_addSight_22 rfl ?_
    refine wp_aload_n 0 dX3_addSight_25 rfl rfl rfl ?_
    refine wp_getI 3 7 kcX3 kfX3_36 rfl lC_151 (congrArg Prod.fst gC_151) dX3_addSight_26 rfl ?_
    refine wp_iload_n 2 dX3_addSight_29 rfl rfl rfl ?_
    obtain ⟨k3, K⟩ := K
    refine wn_iast lC_153 gC_153 k3 dX3_addSight_30 rfl ?_
    refine wp_aload_n 0 dX3_addSight_31 rfl rfl rfl ?_
    refine wp_getR 3 4 kcX3 kfX3_18 rfl lC_151 (congrArg Prod.fst gC_151) rC_151_4 dX3_addSight_32 rfl ?_
    refine wp_aload_n 0 dX3_addSight_35 rfl rfl rfl ?_
    refine wp_getI 3 7 kcX3 kfX3_36 rfl lC_151 (congrArg Prod.fst gC_151) dX3_addSight_36 rfl ?_
    refine wp_iload_n 3 dX3_addSight_39 rfl rfl rfl ?_
    obtain ⟨k4, K⟩ := K
    obtain ⟨k5, K⟩ := K
    refine wn_zast lC_154 gC_154 k4 k5 dX3_addSight_40 rfl ?_
    refine wp_aload_n 0 dX3_addSight_41 rfl rfl rfl ?_
    refine wp_dup dX3_addSight_42 rfl rfl ?_
    refine wp_getI 3 7 kcX3 kfX3_36 rfl lC_151 (congrArg Prod.fst gC_151) dX3_addSight_43 rfl ?_
    refine wp_iconst (v := 1) dX3_addSight_46 rfl (by decide) ?_
    refine wp_iadd dX3_addSight_47 rfl ?_
    refine wp_putI 3 7 kcX3 kfX3_36 rfl rfl rfl rfl lC_151 (congrArg Prod.fst gC_151) dX3_addSight_48 rfl ?_
    refine wp_iconst (v := 1) dX3_addSight_51 rfl (by decide) ?_
    exact wp_ret .boolean rfl rfl (Nat.le_refl 0) (Nat.le_refl 0) dX3_addSight_52 ⟨rfl, _, rfl, K⟩
  · rw [if_neg h1] at K
    refine wp_iconst (v := 0) dX3_addSight_9 rfl (by decide) ?_
    exact wp_ret .boolean rfl rfl (Nat.le_refl 0) (Nat.le_refl 0) dX3_addSight_10 ⟨rfl, _, rfl, K⟩
theorem eX3_addSight {E : tp_E} {d : Nat} {Q : Int32 → tp_M → Prop} {σ : tp_M}   (x1 : Int32) (x2 : Int32) (x3 : Int32) (K : if (σ 151 7) < 6 then (vp_in (σ 151 7) 6 ∧ (vp_in ((tp_u σ 152 (Int32.toNatClampNeg (σ 151 7)) x1) 151 7) 6 ∧ (vp_in ((tp_u (tp_u σ 152 (Int32.toNatClampNeg (σ 151 7)) x1) 153 (Int32.toNatClampNeg ((tp_u σ 152 (Int32.toNatClampNeg (σ 151 7)) x1) 151 7)) x2) 151 7) 6 ∧ ((x3 = 0 ∨ x3 = 1) ∧ (Q 1 (tp_u (tp_u (tp_u (tp_u σ 152 (Int32.toNatClampNeg (σ 151 7)) x1) 153 (Int32.toNatClampNeg ((tp_u σ 152 (Int32.toNatClampNeg (σ 151 7)) x1) 151 7)) x2) 154 (Int32.toNatClampNeg ((tp_u (tp_u σ 152 (Int32.toNatClampNeg (σ 151 7)) x1) 153 (Int32.toNatClampNeg ((tp_u σ 152 (Int32.toNatClampNeg (σ 151 7)) x1) 151 7)) x2) 151 7)) x3) 151 7 (((tp_u (tp_u (tp_u σ 152 (Int32.toNatClampNeg (σ 151 7)) x1) 153 (Int32.toNatClampNeg ((tp_u σ 152 (Int32.toNatClampNeg (σ 151 7)) x1) 151 7)) x2) 154 (Int32.toNatClampNeg ((tp_u (tp_u σ 152 (Int32.toNatClampNeg (σ 151 7)) x1) 153 (Int32.toNatClampNeg ((tp_u σ 152 (Int32.toNatClampNeg (σ 151 7)) x1) 151 7)) x2) 151 7)) x3) 151 7) + 1))))))) else (Q 0 σ)) : Ci E TC yX3_addSight iX3_addSight d [.ref 151, .int x1, .int x2, .int x3] σ Q := Ci.of ⟨by decide +kernel, rfl, rfl⟩ (Nat.le_of_ble_eq_true rfl) (bX3_addSight_0  x1 x2 x3 K)
theorem bX3_suspects_0 {E : tp_E} {d : Nat} {Q : Int32 → tp_M → Prop} {σ : tp_M}    (K : Wi E TC iX3_suspects (d + 1) Q 4 [(0, .ref 151), (1, .int 0), (2, .int 0)] [] σ) : Wi E TC iX3_suspects (d + 1) Q 0 [(0, .ref 151)] [] σ := by
  refine wp_iconst (v := 0) dX3_suspects_0 rfl (by decide) ?_
  refine wp_istore_n [1, 0] dX3_suspects_1 rfl rfl (by decide) rfl ?_
  show WP _ _ _ _ _ _ _ 2 [(0, .ref 151), (1, .int 0)] _ _ _
  refine wp_iconst (v := 0) dX3_suspects_2 rfl (by decide) ?_
  refine wp_istore_n [1, 2, 0] dX3_suspects_3 rfl rfl (by decide) rfl ?_
  show WP _ _ _ _ _ _ _ 4 [(0, .ref 151), (1, .int 0), (2, .int 0)] _ _ _
  exact K
theorem eX3_suspects {E : tp_E} {d : Nat} {Q : Int32 → tp_M → Prop} {σ : tp_M}    (K : Wi E TC iX3_suspects (d + 1) Q 4 [(0, .ref 151), (1, .int 0), (2, .int 0)] [] σ) : Ci E TC yX3_suspects iX3_suspects (d + 1) [.ref 151] σ Q := Ci.of ⟨by decide +kernel, rfl, rfl⟩ (Nat.le_of_ble_eq_true rfl) (bX3_suspects_0   K)
theorem bX3_suspects_4 {E : tp_E} {d : Nat} {Q : Int32 → tp_M → Prop} {σ : tp_M}   (x1 : Int32) (x2 : Int32) (K : if (σ 1 3) ≤ x2 then (Q x1 σ) else (Ci E TC yX3_fitsAllSeen iX3_fitsAllSeen d [.ref 151, .int x2] σ (fun v3 σ2 => if v3 = 0 then (Wi E TC iX3_suspects (d + 1) Q 4 [(0, .ref 151), (1, .int x1), (2, .int (x2 + 1))] [] σ2) else (Wi E TC iX3_suspects (d + 1) Q 4 [(0, .ref 151), (1, .int (x1 ||| (1 <<< (x2 &&& 31)))), (2, .int (x2 + 1))] [] σ2)))) : Wi E TC iX3_suspects (d + 1) Q 4 [(0, .ref 151), (1, .int x1), (2, .int x2)] [] σ := by
  refine wp_iload_n 2 dX3_suspects_4 rfl rfl rfl ?_
  refine wp_aload_n 0 dX3_suspects_5 rfl rfl rfl ?_
  refine wp_getR 3 0 kcX3 kfX3_28 rfl lC_151 (congrArg Prod.fst gC_151) rC_151_0 dX3_suspects_6 rfl ?_
  refine wp_getI 5 3 kcX5 kfX3_43 rfl lC_1 (congrArg Prod.fst gC_1) dX3_suspects_9 rfl ?_
  refine wp_icmp_ge 35 dX3_suspects_12 (by decide) rfl (fun h1 => ?_) (fun h1 => ?_)
  · rw [if_pos h1] at K
    refine wp_iload_n 1 dX3_suspects_35 rfl rfl rfl ?_
    exact wp_ret .int rfl rfl (Nat.le_refl 0) (Nat.le_refl 0) dX3_suspects_36 ⟨rfl, _, rfl, K⟩
  · rw [if_neg h1] at K
    refine wp_aload_n 0 dX3_suspects_15 rfl rfl rfl ?_
    refine wp_iload_n 2 dX3_suspects_16 rfl rfl rfl ?_
    refine wn_callVi (As := [.int x2]) (rest := []) 3 kmX3_48 (by decide) rfl rfl (Nat.le_of_ble_eq_true rfl) lC_151 (congrArg Prod.fst gC_151) dX3_suspects_17 rfl ?_
    refine Ci.mono K (fun v3 σ2 K => ?_)
    refine wp_if_eq 29 dX3_suspects_20 (by decide) rfl (fun h4 => ?_) (fun h4 => ?_)
    · rw [if_pos h4] at K
      refine wp_iinc (v := x2 + 1) 2 [1, 2, 0] dX3_suspects_29 rfl (by decide) rfl rfl rfl ?_
      show WP _ _ _ _ _ _ _ 32 [(0, .ref 151), (1, .int x1), (2, .int (x2 + 1))] _ _ _
      refine wp_goto 4 dX3_suspects_32 (by decide) ?_
      exact K
    · rw [if_neg h4] at K
      refine wp_iload_n 1 dX3_suspects_23 rfl rfl rfl ?_
      refine wp_iconst (v := 1) dX3_suspects_24 rfl (by decide) ?_
      refine wp_iload_n 2 dX3_suspects_25 rfl rfl rfl ?_
      refine wp_ishl dX3_suspects_26 rfl ?_
      refine wp_ior dX3_suspects_27 rfl ?_
      refine wp_istore_n [1, 0, 2] dX3_suspects_28 rfl rfl (by decide) rfl ?_
      show WP _ _ _ _ _ _ _ 29 [(0, .ref 151), (1, .int (x1 ||| (1 <<< (x2 &&& 31)))), (2, .int x2)] _ _ _
      refine wp_iinc (v := x2 + 1) 2 [1, 2, 0] dX3_suspects_29 rfl (by decide) rfl rfl rfl ?_
      show WP _ _ _ _ _ _ _ 32 [(0, .ref 151), (1, .int (x1 ||| (1 <<< (x2 &&& 31)))), (2, .int (x2 + 1))] _ _ _
      refine wp_goto 4 dX3_suspects_32 (by decide) ?_
      exact K
theorem bX3_fitsAllSeen_0 {E : tp_E} {d : Nat} {Q : Int32 → tp_M → Prop} {σ : tp_M}   (x1 : Int32) (K : Wi E TC iX3_fitsAllSeen (d + 1) Q 2 [(0, .ref 151), (1, .int x1), (2, .int 0)] [] σ) : Wi E TC iX3_fitsAllSeen (d + 1) Q 0 [(0, .ref 151), (1, .int x1)] [] σ := by
  refine wp_iconst (v := 0) dX3_fitsAllSeen_0 rfl (by decide) ?_
  refine wp_istore_n [1, 2, 0] dX3_fitsAllSeen_1 rfl rfl (by decide) rfl ?_
  show WP _ _ _ _ _ _ _ 2 [(0, .ref 151), (1, .int x1), (2, .int 0)] _ _ _
  exact K
theorem eX3_fitsAllSeen {E : tp_E} {d : Nat} {Q : Int32 → tp_M → Prop} {σ : tp_M}   (x1 : Int32) (K : Wi E TC iX3_fitsAllSeen (d + 1) Q 2 [(0, .ref 151), (1, .int x1), (2, .int 0)] [] σ) : Ci E TC yX3_fitsAllSeen iX3_fitsAllSeen (d + 1) [.ref 151, .int x1] σ Q := Ci.of ⟨by decide +kernel, rfl, rfl⟩ (Nat.le_of_ble_eq_true rfl) (bX3_fitsAllSeen_0  x1 K)
theorem bX3_fitsAllSeen_2 {E : tp_E} {d : Nat} {Q : Int32 → tp_M → Prop} {σ : tp_M}   (x1 : Int32) (x2 : Int32) (K : if (σ 151 7) ≤ x2 then (Q 1 σ) else (if 6 ≤ x2 then (Q 1 σ) else (vp_in x2 6 ∧ (Ci E TC yX8_roomsCameTo iX8_roomsCameTo d [.ref 9, .int x1, .int (σ 153 (Int32.toNatClampNeg x2))] σ (fun v5 σ4 => vp_in x2 6 ∧ (Ci E TC yX9_has iX9_has d [.int v5, .int (σ4 152 (Int32.toNatClampNeg x2))] σ4 (fun v8 σ7 => vp_in x2 6 ∧ (if v8 = (σ7 154 (Int32.toNatClampNeg x2)) then (Wi E TC iX3_fitsAllSeen (d + 1) Q 2 [(0, .ref 151), (1, .int x1), (2, .int (x2 + 1))] [] σ7) else (Q 0 σ7))))))))) : Wi E TC iX3_fitsAllSeen (d + 1) Q 2 [(0, .ref 151), (1, .int x1), (2, .int x2)] [] σ := by
  refine wp_iload_n 2 dX3_fitsAllSeen_2 rfl rfl rfl ?_
  refine wp_aload_n 0 dX3_fitsAllSeen_3 rfl rfl rfl ?_
  refine wp_getI 3 7 kcX3 kfX3_36 rfl lC_151 (congrArg Prod.fst gC_151) dX3_fitsAllSeen_4 rfl ?_
  refine wp_icmp_ge 56 dX3_fitsAllSeen_7 (by decide) rfl (fun h1 => ?_) (fun h1 => ?_)
  · rw [if_pos h1] at K
    refine wp_iconst (v := 1) dX3_fitsAllSeen_56 rfl (by decide) ?_
    exact wp_ret .boolean rfl rfl (Nat.le_refl 0) (Nat.le_refl 0) dX3_fitsAllSeen_57 ⟨rfl, _, rfl, K⟩
  · rw [if_neg h1] at K
    refine wp_iload_n 2 dX3_fitsAllSeen_10 rfl rfl rfl ?_
    refine wp_bipush (v := 6) dX3_fitsAllSeen_11 rfl (by decide) ?_
    refine wp_icmp_ge 56 dX3_fitsAllSeen_13 (by decide) rfl (fun h2 => ?_) (fun h2 => ?_)
    · rw [if_pos h2] at K
      refine wp_iconst (v := 1) dX3_fitsAllSeen_56 rfl (by decide) ?_
      exact wp_ret .boolean rfl rfl (Nat.le_refl 0) (Nat.le_refl 0) dX3_fitsAllSeen_57 ⟨rfl, _, rfl, K⟩
    · rw [if_neg h2] at K
      refine wp_aload_n 0 dX3_fitsAllSeen_16 rfl rfl rfl ?_
      refine wp_getR 3 1 kcX3 kfX3_32 rfl lC_151 (congrArg Prod.fst gC_151) rC_151_1 dX3_fitsAllSeen_17 rfl ?_
      refine wp_iload_n 1 dX3_fitsAllSeen_20 rfl rfl rfl ?_
      refine wp_aload_n 0 dX3_fitsAllSeen_21 rfl rfl rfl ?_
      refine wp_getR 3 3 kcX3 kfX3_15 rfl lC_151 (congrArg Prod.fst gC_151) rC_151_3 dX3_fitsAllSeen_22 rfl ?_
      refine wp_iload_n 2 dX3_fitsAllSeen_25 rfl rfl rfl ?_
      obtain ⟨k3, K⟩ := K
      refine wn_iald lC_153 gC_153 k3 dX3_fitsAllSeen_26 rfl ?_
      refine wn_callVi (As := [.int x1, .int (σ 153 (Int32.toNatClampNeg x2))]) (rest := []) 8 kmX3_52 (by decide) rfl rfl (Nat.le_of_ble_eq_true rfl) lC_9 (congrArg Prod.fst gC_9) dX3_fitsAllSeen_27 rfl ?_
      refine Ci.mono K (fun v5 σ4 K => ?_)
      refine wp_aload_n 0 dX3_fitsAllSeen_30 rfl rfl rfl ?_
      refine wp_getR 3 2 kcX3 kfX3_9 rfl lC_151 (congrArg Prod.fst gC_151) rC_151_2 dX3_fitsAllSeen_31 rfl ?_
      refine wp_iload_n 2 dX3_fitsAllSeen_34 rfl rfl rfl ?_
      obtain ⟨k6, K⟩ := K
      refine wn_iald lC_152 gC_152 k6 dX3_fitsAllSeen_35 rfl ?_
      refine wn_callNi (As := [.int v5, .int (σ4 152 (Int32.toNatClampNeg x2))]) (rest := []) kmX3_58 (by decide) rfl rfl (Nat.le_of_ble_eq_true rfl) dX3_fitsAllSeen_36 rfl ?_
      refine Ci.mono K (fun v8 σ7 K => ?_)
      refine wp_aload_n 0 dX3_fitsAllSeen_39 rfl rfl rfl ?_
      refine wp_getR 3 4 kcX3 kfX3_18 rfl lC_151 (congrArg Prod.fst gC_151) rC_151_4 dX3_fitsAllSeen_40 rfl ?_
      refine wp_iload_n 2 dX3_fitsAllSeen_43 rfl rfl rfl ?_
      obtain ⟨k9, K⟩ := K
      refine wn_zald lC_154 gC_154 k9 dX3_fitsAllSeen_44 rfl ?_
      refine wp_icmp_eq 50 dX3_fitsAllSeen_45 (by decide) rfl (fun h10 => ?_) (fun h10 => ?_)
      · rw [if_pos h10] at K
        refine wp_iinc (v := x2 + 1) 2 [1, 2, 0] dX3_fitsAllSeen_50 rfl (by decide) rfl rfl rfl ?_
        show WP _ _ _ _ _ _ _ 53 [(0, .ref 151), (1, .int x1), (2, .int (x2 + 1))] _ _ _
        refine wp_goto 2 dX3_fitsAllSeen_53 (by decide) ?_
        exact K
      · rw [if_neg h10] at K
        refine wp_iconst (v := 0) dX3_fitsAllSeen_48 rfl (by decide) ?_
        exact wp_ret .boolean rfl rfl (Nat.le_refl 0) (Nat.le_refl 0) dX3_fitsAllSeen_49 ⟨rfl, _, rfl, K⟩
theorem bX3_bestRoom_0 {E : tp_E} {d : Nat} {Q : Int32 → tp_M → Prop} {σ : tp_M}    (K : Ci E TC yX3_suspects iX3_suspects d [.ref 151] σ (fun v2 σ1 => Ci E TC yJ6_bitCount_0f7a4 iJ6_bitCount_0f7a4 d [.int v2] σ1 (fun v4 σ3 => Wi E TC iX3_bestRoom (d + 1) Q 18 [(0, .ref 151), (1, .int v2), (2, .int v4), (3, .int (-1)), (4, .int v4), (5, .int 0)] [] σ3))) : Wi E TC iX3_bestRoom (d + 1) Q 0 [(0, .ref 151)] [] σ := by
  refine wp_aload_n 0 dX3_bestRoom_0 rfl rfl rfl ?_
  refine wn_callVi (As := []) (rest := []) 3 kmX3_62 (by decide) rfl rfl (Nat.le_of_ble_eq_true rfl) lC_151 (congrArg Prod.fst gC_151) dX3_bestRoom_1 rfl ?_
  refine Ci.mono K (fun v2 σ1 K => ?_)
  refine wp_istore_n [1, 0] dX3_bestRoom_4 rfl rfl (by decide) rfl ?_
  show WP _ _ _ _ _ _ _ 5 [(0, .ref 151), (1, .int v2)] _ _ _
  refine wp_iload_n 1 dX3_bestRoom_5 rfl rfl rfl ?_
  refine wn_callSi (As := [.int v2]) (rest := []) kmX3_66 (by decide) rfl rfl (Nat.le_of_ble_eq_true rfl) dX3_bestRoom_6 rfl ?_
  refine Ci.mono K (fun v4 σ3 K => ?_)
  refine wp_istore_n [1, 2, 0] dX3_bestRoom_9 rfl rfl (by decide) rfl ?_
  show WP _ _ _ _ _ _ _ 10 [(0, .ref 151), (1, .int v2), (2, .int v4)] _ _ _
  refine wp_iconst (v := (-1)) dX3_bestRoom_10 rfl (by decide) ?_
  refine wp_istore_n [1, 2, 3, 0] dX3_bestRoom_11 rfl rfl (by decide) rfl ?_
  show WP _ _ _ _ _ _ _ 12 [(0, .ref 151), (1, .int v2), (2, .int v4), (3, .int (-1))] _ _ _
  refine wp_iload_n 2 dX3_bestRoom_12 rfl rfl rfl ?_
  refine wp_istore [1, 2, 3, 4, 0] dX3_bestRoom_13 rfl (by decide) rfl ?_
  show WP _ _ _ _ _ _ _ 15 [(0, .ref 151), (1, .int v2), (2, .int v4), (3, .int (-1)), (4, .int v4)] _ _ _
  refine wp_iconst (v := 0) dX3_bestRoom_15 rfl (by decide) ?_
  refine wp_istore [1, 2, 3, 4, 5, 0] dX3_bestRoom_16 rfl (by decide) rfl ?_
  show WP _ _ _ _ _ _ _ 18 [(0, .ref 151), (1, .int v2), (2, .int v4), (3, .int (-1)), (4, .int v4), (5, .int 0)] _ _ _
  exact K
theorem eX3_bestRoom {E : tp_E} {d : Nat} {Q : Int32 → tp_M → Prop} {σ : tp_M}    (K : Ci E TC yX3_suspects iX3_suspects d [.ref 151] σ (fun v2 σ1 => Ci E TC yJ6_bitCount_0f7a4 iJ6_bitCount_0f7a4 d [.int v2] σ1 (fun v4 σ3 => Wi E TC iX3_bestRoom (d + 1) Q 18 [(0, .ref 151), (1, .int v2), (2, .int v4), (3, .int (-1)), (4, .int v4), (5, .int 0)] [] σ3))) : Ci E TC yX3_bestRoom iX3_bestRoom (d + 1) [.ref 151] σ Q := Ci.of ⟨by decide +kernel, rfl, rfl⟩ (Nat.le_of_ble_eq_true rfl) (bX3_bestRoom_0   K)
theorem bX3_bestRoom_18 {E : tp_E} {d : Nat} {Q : Int32 → tp_M → Prop} {σ : tp_M}   (x1 : Int32) (x2 : Int32) (x3 : Int32) (x4 : Int32) (x5 : Int32) (K : if (σ 1 0) ≤ x5 then (Q x3 σ) else (Ci E TC yX3_countComingTo iX3_countComingTo d [.ref 151, .int x5, .int x1] σ (fun v3 σ2 => if x4 ≤ (if v3 < (x2 - v3) then (x2 - v3) else v3) then (Wi E TC iX3_bestRoom (d + 1) Q 18 [(0, .ref 151), (1, .int x1), (2, .int x2), (3, .int x3), (4, .int x4), (5, .int (x5 + 1))] [] σ2) else (Wi E TC iX3_bestRoom (d + 1) Q 18 [(0, .ref 151), (1, .int x1), (2, .int x2), (3, .int x5), (4, .int (if v3 < (x2 - v3) then (x2 - v3) else v3)), (5, .int (x5 + 1))] [] σ2)))) : Wi E TC iX3_bestRoom (d + 1) Q 18 [(0, .ref 151), (1, .int x1), (2, .int x2), (3, .int x3), (4, .int x4), (5, .int x5)] [] σ := by
  refine wp_iload 5 dX3_bestRoom_18 rfl rfl ?_
  refine wp_aload_n 0 dX3_bestRoom_20 rfl rfl rfl ?_
  refine wp_getR 3 0 kcX3 kfX3_28 rfl lC_151 (congrArg Prod.fst gC_151) rC_151_0 dX3_bestRoom_21 rfl ?_
  refine wp_getI 5 0 kcX5 kfX3_72 rfl lC_1 (congrArg Prod.fst gC_1) dX3_bestRoom_24 rfl ?_
  refine wp_icmp_ge 70 dX3_bestRoom_27 (by decide) rfl (fun h1 => ?_) (fun h1 => ?_)
  · rw [if_pos h1] at K
    refine wp_iload_n 3 dX3_bestRoom_70 rfl rfl rfl ?_
    exact wp_ret .int rfl rfl (Nat.le_refl 0) (Nat.le_refl 0) dX3_bestRoom_71 ⟨rfl, _, rfl, K⟩
  · rw [if_neg h1] at K
    refine wp_aload_n 0 dX3_bestRoom_30 rfl rfl rfl ?_
    refine wp_iload 5 dX3_bestRoom_31 rfl rfl ?_
    refine wp_iload_n 1 dX3_bestRoom_33 rfl rfl rfl ?_
    refine wn_callVi (As := [.int x5, .int x1]) (rest := []) 3 kmX3_75 (by decide) rfl rfl (Nat.le_of_ble_eq_true rfl) lC_151 (congrArg Prod.fst gC_151) dX3_bestRoom_34 rfl ?_
    refine Ci.mono K (fun v3 σ2 K => ?_)
    refine wp_istore [1, 2, 3, 4, 5, 6, 0] dX3_bestRoom_37 rfl (by decide) rfl ?_
    show WP _ _ _ _ _ _ _ 39 [(0, .ref 151), (1, .int x1), (2, .int x2), (3, .int x3), (4, .int x4), (5, .int x5), (6, .int v3)] _ _ _
    refine wp_iload 6 dX3_bestRoom_39 rfl rfl ?_
    refine wp_iload_n 2 dX3_bestRoom_41 rfl rfl rfl ?_
    refine wp_iload 6 dX3_bestRoom_42 rfl rfl ?_
    refine wp_isub dX3_bestRoom_44 rfl ?_
    refine wn_max tw_920 tw_759 tw_51 tw_760 (Nat.le_of_ble_eq_true rfl) dX3_bestRoom_45 rfl ?_
    refine wp_istore [1, 2, 3, 4, 5, 6, 7, 0] dX3_bestRoom_48 rfl (by decide) rfl ?_
    show WP _ _ _ _ _ _ _ 50 [(0, .ref 151), (1, .int x1), (2, .int x2), (3, .int x3), (4, .int x4), (5, .int x5), (6, .int v3), (7, .int (if v3 < (x2 - v3) then (x2 - v3) else v3))] _ _ _
    refine wp_iload 7 dX3_bestRoom_50 rfl rfl ?_
    refine wp_iload 4 dX3_bestRoom_52 rfl rfl ?_
    refine wp_icmp_ge 64 dX3_bestRoom_54 (by decide) rfl (fun h4 => ?_) (fun h4 => ?_)
    · rw [if_pos h4] at K
      refine wp_iinc (v := x5 + 1) 5 [1, 2, 3, 4, 5, 0, 6, 7] dX3_bestRoom_64 rfl (by decide) rfl rfl rfl ?_
      show WP _ _ _ _ _ _ _ 67 [(0, .ref 151), (1, .int x1), (2, .int x2), (3, .int x3), (4, .int x4), (5, .int (x5 + 1)), (6, .int v3), (7, .int (if v3 < (x2 - v3) then (x2 - v3) else v3))] _ _ _
      refine wp_goto 18 dX3_bestRoom_67 (by decide) ?_
      refine wp_lv [0, 1, 2, 3, 4, 5] rfl ?_
      exact K
    · rw [if_neg h4] at K
      refine wp_iload 5 dX3_bestRoom_57 rfl rfl ?_
      refine wp_istore_n [1, 2, 3, 0, 4, 5, 6, 7] dX3_bestRoom_59 rfl rfl (by decide) rfl ?_
      show WP _ _ _ _ _ _ _ 60 [(0, .ref 151), (1, .int x1), (2, .int x2), (3, .int x5), (4, .int x4), (5, .int x5), (6, .int v3), (7, .int (if v3 < (x2 - v3) then (x2 - v3) else v3))] _ _ _
      refine wp_iload 7 dX3_bestRoom_60 rfl rfl ?_
      refine wp_istore [1, 2, 3, 4, 0, 5, 6, 7] dX3_bestRoom_62 rfl (by decide) rfl ?_
      show WP _ _ _ _ _ _ _ 64 [(0, .ref 151), (1, .int x1), (2, .int x2), (3, .int x5), (4, .int (if v3 < (x2 - v3) then (x2 - v3) else v3)), (5, .int x5), (6, .int v3), (7, .int (if v3 < (x2 - v3) then (x2 - v3) else v3))] _ _ _
      refine wp_iinc (v := x5 + 1) 5 [1, 2, 3, 4, 5, 0, 6, 7] dX3_bestRoom_64 rfl (by decide) rfl rfl rfl ?_
      show WP _ _ _ _ _ _ _ 67 [(0, .ref 151), (1, .int x1), (2, .int x2), (3, .int x5), (4, .int (if v3 < (x2 - v3) then (x2 - v3) else v3)), (5, .int (x5 + 1)), (6, .int v3), (7, .int (if v3 < (x2 - v3) then (x2 - v3) else v3))] _ _ _
      refine wp_goto 18 dX3_bestRoom_67 (by decide) ?_
      refine wp_lv [0, 1, 2, 3, 4, 5] rfl ?_
      exact K
theorem bX3_countComingTo_0 {E : tp_E} {d : Nat} {Q : Int32 → tp_M → Prop} {σ : tp_M}   (x1 : Int32) (x2 : Int32) (K : Wi E TC iX3_countComingTo (d + 1) Q 5 [(0, .ref 151), (1, .int x1), (2, .int x2), (3, .int 0), (4, .int 0)] [] σ) : Wi E TC iX3_countComingTo (d + 1) Q 0 [(0, .ref 151), (1, .int x1), (2, .int x2)] [] σ := by
  refine wp_iconst (v := 0) dX3_countComingTo_0 rfl (by decide) ?_
  refine wp_istore_n [1, 2, 3, 0] dX3_countComingTo_1 rfl rfl (by decide) rfl ?_
  show WP _ _ _ _ _ _ _ 2 [(0, .ref 151), (1, .int x1), (2, .int x2), (3, .int 0)] _ _ _
  refine wp_iconst (v := 0) dX3_countComingTo_2 rfl (by decide) ?_
  refine wp_istore [1, 2, 3, 4, 0] dX3_countComingTo_3 rfl (by decide) rfl ?_
  show WP _ _ _ _ _ _ _ 5 [(0, .ref 151), (1, .int x1), (2, .int x2), (3, .int 0), (4, .int 0)] _ _ _
  exact K
theorem eX3_countComingTo {E : tp_E} {d : Nat} {Q : Int32 → tp_M → Prop} {σ : tp_M}   (x1 : Int32) (x2 : Int32) (K : Wi E TC iX3_countComingTo (d + 1) Q 5 [(0, .ref 151), (1, .int x1), (2, .int x2), (3, .int 0), (4, .int 0)] [] σ) : Ci E TC yX3_countComingTo iX3_countComingTo (d + 1) [.ref 151, .int x1, .int x2] σ Q := Ci.of ⟨by decide +kernel, rfl, rfl⟩ (Nat.le_of_ble_eq_true rfl) (bX3_countComingTo_0  x1 x2 K)
theorem bX3_countComingTo_5 {E : tp_E} {d : Nat} {Q : Int32 → tp_M → Prop} {σ : tp_M}   (x1 : Int32) (x2 : Int32) (x3 : Int32) (x4 : Int32) (K : if (σ 1 3) ≤ x4 then (Q x3 σ) else (Ci E TC yX9_has iX9_has d [.int x2, .int x4] σ (fun v3 σ2 => if v3 = 0 then (Wi E TC iX3_countComingTo (d + 1) Q 5 [(0, .ref 151), (1, .int x1), (2, .int x2), (3, .int x3), (4, .int (x4 + 1))] [] σ2) else (Ci E TC yX8_roomsCameTo iX8_roomsCameTo d [.ref 9, .int x4, .int 20] σ2 (fun v6 σ5 => Ci E TC yX9_has iX9_has d [.int v6, .int x1] σ5 (fun v8 σ7 => if v8 = 0 then (Wi E TC iX3_countComingTo (d + 1) Q 5 [(0, .ref 151), (1, .int x1), (2, .int x2), (3, .int x3), (4, .int (x4 + 1))] [] σ7) else (Wi E TC iX3_countComingTo (d + 1) Q 5 [(0, .ref 151), (1, .int x1), (2, .int x2), (3, .int (x3 + 1)), (4, .int (x4 + 1))] [] σ7))))))) : Wi E TC iX3_countComingTo (d + 1) Q 5 [(0, .ref 151), (1, .int x1), (2, .int x2), (3, .int x3), (4, .int x4)] [] σ := by
  refine wp_iload 4 dX3_countComingTo_5 rfl rfl ?_
  refine wp_aload_n 0 dX3_countComingTo_7 rfl rfl rfl ?_
  refine wp_getR 3 0 kcX3 kfX3_28 rfl lC_151 (congrArg Prod.fst gC_151) rC_151_0 dX3_countComingTo_8 rfl ?_
  refine wp_getI 5 3 kcX5 kfX3_43 rfl lC_1 (congrArg Prod.fst gC_1) dX3_countComingTo_11 rfl ?_
  refine wp_icmp_ge 53 dX3_countComingTo_14 (by decide) rfl (fun h1 => ?_) (fun h1 => ?_)
  · rw [if_pos h1] at K
    refine wp_iload_n 3 dX3_countComingTo_53 rfl rfl rfl ?_
    exact wp_ret .int rfl rfl (Nat.le_refl 0) (Nat.le_refl 0) dX3_countComingTo_54 ⟨rfl, _, rfl, K⟩
  · rw [if_neg h1] at K
    refine wp_iload_n 2 dX3_countComingTo_17 rfl rfl rfl ?_
    refine wp_iload 4 dX3_countComingTo_18 rfl rfl ?_
    refine wn_callNi (As := [.int x2, .int x4]) (rest := []) kmX3_58 (by decide) rfl rfl (Nat.le_of_ble_eq_true rfl) dX3_countComingTo_20 rfl ?_
    refine Ci.mono K (fun v3 σ2 K => ?_)
    refine wp_if_eq 47 dX3_countComingTo_23 (by decide) rfl (fun h4 => ?_) (fun h4 => ?_)
    · rw [if_pos h4] at K
      refine wp_iinc (v := x4 + 1) 4 [1, 2, 3, 4, 0] dX3_countComingTo_47 rfl (by decide) rfl rfl rfl ?_
      show WP _ _ _ _ _ _ _ 50 [(0, .ref 151), (1, .int x1), (2, .int x2), (3, .int x3), (4, .int (x4 + 1))] _ _ _
      refine wp_goto 5 dX3_countComingTo_50 (by decide) ?_
      exact K
    · rw [if_neg h4] at K
      refine wp_aload_n 0 dX3_countComingTo_26 rfl rfl rfl ?_
      refine wp_getR 3 1 kcX3 kfX3_32 rfl lC_151 (congrArg Prod.fst gC_151) rC_151_1 dX3_countComingTo_27 rfl ?_
      refine wp_iload 4 dX3_countComingTo_30 rfl rfl ?_
      refine wp_bipush (v := 20) dX3_countComingTo_32 rfl (by decide) ?_
      refine wn_callVi (As := [.int x4, .int 20]) (rest := []) 8 kmX3_52 (by decide) rfl rfl (Nat.le_of_ble_eq_true rfl) lC_9 (congrArg Prod.fst gC_9) dX3_countComingTo_34 rfl ?_
      refine Ci.mono K (fun v6 σ5 K => ?_)
      refine wp_iload_n 1 dX3_countComingTo_37 rfl rfl rfl ?_
      refine wn_callNi (As := [.int v6, .int x1]) (rest := []) kmX3_58 (by decide) rfl rfl (Nat.le_of_ble_eq_true rfl) dX3_countComingTo_38 rfl ?_
      refine Ci.mono K (fun v8 σ7 K => ?_)
      refine wp_if_eq 47 dX3_countComingTo_41 (by decide) rfl (fun h9 => ?_) (fun h9 => ?_)
      · rw [if_pos h9] at K
        refine wp_iinc (v := x4 + 1) 4 [1, 2, 3, 4, 0] dX3_countComingTo_47 rfl (by decide) rfl rfl rfl ?_
        show WP _ _ _ _ _ _ _ 50 [(0, .ref 151), (1, .int x1), (2, .int x2), (3, .int x3), (4, .int (x4 + 1))] _ _ _
        refine wp_goto 5 dX3_countComingTo_50 (by decide) ?_
        exact K
      · rw [if_neg h9] at K
        refine wp_iinc (v := x3 + 1) 3 [1, 2, 3, 0, 4] dX3_countComingTo_44 rfl (by decide) rfl rfl rfl ?_
        show WP _ _ _ _ _ _ _ 47 [(0, .ref 151), (1, .int x1), (2, .int x2), (3, .int (x3 + 1)), (4, .int x4)] _ _ _
        refine wp_iinc (v := x4 + 1) 4 [1, 2, 3, 4, 0] dX3_countComingTo_47 rfl (by decide) rfl rfl rfl ?_
        show WP _ _ _ _ _ _ _ 50 [(0, .ref 151), (1, .int x1), (2, .int x2), (3, .int (x3 + 1)), (4, .int (x4 + 1))] _ _ _
        refine wp_goto 5 dX3_countComingTo_50 (by decide) ?_
        exact K
theorem bX3_addEntry_0 {E : tp_E} {d : Nat} {Q : Int32 → tp_M → Prop} {σ : tp_M}   (x1 : Int32) (x2 : Int32) (K : if (σ 151 8) < 15 then (vp_in (σ 151 8) 15 ∧ (vp_in ((tp_u σ 155 (Int32.toNatClampNeg (σ 151 8)) x1) 151 8) 15 ∧ (Q 1 (tp_u (tp_u (tp_u σ 155 (Int32.toNatClampNeg (σ 151 8)) x1) 156 (Int32.toNatClampNeg ((tp_u σ 155 (Int32.toNatClampNeg (σ 151 8)) x1) 151 8)) x2) 151 8 (((tp_u (tp_u σ 155 (Int32.toNatClampNeg (σ 151 8)) x1) 156 (Int32.toNatClampNeg ((tp_u σ 155 (Int32.toNatClampNeg (σ 151 8)) x1) 151 8)) x2) 151 8) + 1))))) else (Q 0 σ)) : Wi E TC iX3_addEntry d Q 0 [(0, .ref 151), (1, .int x1), (2, .int x2)] [] σ := by
  refine wp_aload_n 0 dX3_addEntry_0 rfl rfl rfl ?_
  refine wp_getI 3 8 kcX3 kfX3_40 rfl lC_151 (congrArg Prod.fst gC_151) dX3_addEntry_1 rfl ?_
  refine wp_bipush (v := 15) dX3_addEntry_4 rfl (by decide) ?_
  refine wp_icmp_lt 11 dX3_addEntry_6 (by decide) rfl (fun h1 => ?_) (fun h1 => ?_)
  · rw [if_pos h1] at K
    refine wp_aload_n 0 dX3_addEntry_11 rfl rfl rfl ?_
    refine wp_getR 3 5 kcX3 kfX3_22 rfl lC_151 (congrArg Prod.fst gC_151) rC_151_5 dX3_addEntry_12 rfl ?_
    refine wp_aload_n 0 dX3_addEntry_15 rfl rfl rfl ?_
    refine wp_getI 3 8 kcX3 kfX3_40 rfl lC_151 (congrArg Prod.fst gC_151) dX3_addEntry_16 rfl ?_
    refine wp_iload_n 1 dX3_addEntry_19 rfl rfl rfl ?_
    obtain ⟨k2, K⟩ := K
    refine wn_iast lC_155 gC_155 k2 dX3_addEntry_20 rfl ?_
    refine wp_aload_n 0 dX3_addEntry_21 rfl rfl rfl ?_
    refine wp_getR 3 6 kcX3 kfX3_25 rfl lC_151 (congrArg Prod.fst gC_151) rC_151_6 dX3_addEntry_22 rfl ?_
    refine wp_aload_n 0 dX3_addEntry_25 rfl rfl rfl ?_
    refine wp_getI 3 8 kcX3 kfX3_40 rfl lC_151 (congrArg Prod.fst gC_151) dX3_addEntry_26 rfl ?_
    refine wp_iload_n 2 dX3_addEntry_29 rfl rfl rfl ?_
    obtain ⟨k3, K⟩ := K
    refine wn_iast lC_156 gC_156 k3 dX3_addEntry_30 rfl ?_
    refine wp_aload_n 0 dX3_addEntry_31 rfl rfl rfl ?_
    refine wp_dup dX3_addEntry_32 rfl rfl ?_
    refine wp_getI 3 8 kcX3 kfX3_40 rfl lC_151 (congrArg Prod.fst gC_151) dX3_addEntry_33 rfl ?_
    refine wp_iconst (v := 1) dX3_addEntry_36 rfl (by decide) ?_
    refine wp_iadd dX3_addEntry_37 rfl ?_
    refine wp_putI 3 8 kcX3 kfX3_40 rfl rfl rfl rfl lC_151 (congrArg Prod.fst gC_151) dX3_addEntry_38 rfl ?_
    refine wp_iconst (v := 1) dX3_addEntry_41 rfl (by decide) ?_
    exact wp_ret .boolean rfl rfl (Nat.le_refl 0) (Nat.le_refl 0) dX3_addEntry_42 ⟨rfl, _, rfl, K⟩
  · rw [if_neg h1] at K
    refine wp_iconst (v := 0) dX3_addEntry_9 rfl (by decide) ?_
    exact wp_ret .boolean rfl rfl (Nat.le_refl 0) (Nat.le_refl 0) dX3_addEntry_10 ⟨rfl, _, rfl, K⟩
theorem eX3_addEntry {E : tp_E} {d : Nat} {Q : Int32 → tp_M → Prop} {σ : tp_M}   (x1 : Int32) (x2 : Int32) (K : if (σ 151 8) < 15 then (vp_in (σ 151 8) 15 ∧ (vp_in ((tp_u σ 155 (Int32.toNatClampNeg (σ 151 8)) x1) 151 8) 15 ∧ (Q 1 (tp_u (tp_u (tp_u σ 155 (Int32.toNatClampNeg (σ 151 8)) x1) 156 (Int32.toNatClampNeg ((tp_u σ 155 (Int32.toNatClampNeg (σ 151 8)) x1) 151 8)) x2) 151 8 (((tp_u (tp_u σ 155 (Int32.toNatClampNeg (σ 151 8)) x1) 156 (Int32.toNatClampNeg ((tp_u σ 155 (Int32.toNatClampNeg (σ 151 8)) x1) 151 8)) x2) 151 8) + 1))))) else (Q 0 σ)) : Ci E TC yX3_addEntry iX3_addEntry d [.ref 151, .int x1, .int x2] σ Q := Ci.of ⟨by decide +kernel, rfl, rfl⟩ (Nat.le_of_ble_eq_true rfl) (bX3_addEntry_0  x1 x2 K)
theorem bX3_firstWrong_0 {E : tp_E} {d : Nat} {Q : Int32 → tp_M → Prop} {σ : tp_M}    (K : Wi E TC iX3_firstWrong (d + 1) Q 2 [(0, .ref 151), (1, .int 0)] [] σ) : Wi E TC iX3_firstWrong (d + 1) Q 0 [(0, .ref 151)] [] σ := by
  refine wp_iconst (v := 0) dX3_firstWrong_0 rfl (by decide) ?_
  refine wp_istore_n [1, 0] dX3_firstWrong_1 rfl rfl (by decide) rfl ?_
  show WP _ _ _ _ _ _ _ 2 [(0, .ref 151), (1, .int 0)] _ _ _
  exact K
theorem eX3_firstWrong {E : tp_E} {d : Nat} {Q : Int32 → tp_M → Prop} {σ : tp_M}    (K : Wi E TC iX3_firstWrong (d + 1) Q 2 [(0, .ref 151), (1, .int 0)] [] σ) : Ci E TC yX3_firstWrong iX3_firstWrong (d + 1) [.ref 151] σ Q := Ci.of ⟨by decide +kernel, rfl, rfl⟩ (Nat.le_of_ble_eq_true rfl) (bX3_firstWrong_0   K)
theorem bX3_firstWrong_2 {E : tp_E} {d : Nat} {Q : Int32 → tp_M → Prop} {σ : tp_M}   (x1 : Int32) (K : if (σ 151 8) ≤ x1 then (Q (-1) σ) else (if 15 ≤ x1 then (Q (-1) σ) else (vp_in x1 15 ∧ (Ci E TC yX8_roomOf iX8_roomOf d [.ref 9, .int (σ 155 (Int32.toNatClampNeg x1))] σ (fun v5 σ4 => vp_in x1 15 ∧ (if v5 = (σ4 156 (Int32.toNatClampNeg x1)) then (Wi E TC iX3_firstWrong (d + 1) Q 2 [(0, .ref 151), (1, .int (x1 + 1))] [] σ4) else (Q x1 σ4))))))) : Wi E TC iX3_firstWrong (d + 1) Q 2 [(0, .ref 151), (1, .int x1)] [] σ := by
  refine wp_iload_n 1 dX3_firstWrong_2 rfl rfl rfl ?_
  refine wp_aload_n 0 dX3_firstWrong_3 rfl rfl rfl ?_
  refine wp_getI 3 8 kcX3 kfX3_40 rfl lC_151 (congrArg Prod.fst gC_151) dX3_firstWrong_4 rfl ?_
  refine wp_icmp_ge 46 dX3_firstWrong_7 (by decide) rfl (fun h1 => ?_) (fun h1 => ?_)
  · rw [if_pos h1] at K
    refine wp_iconst (v := (-1)) dX3_firstWrong_46 rfl (by decide) ?_
    exact wp_ret .int rfl rfl (Nat.le_refl 0) (Nat.le_refl 0) dX3_firstWrong_47 ⟨rfl, _, rfl, K⟩
  · rw [if_neg h1] at K
    refine wp_iload_n 1 dX3_firstWrong_10 rfl rfl rfl ?_
    refine wp_bipush (v := 15) dX3_firstWrong_11 rfl (by decide) ?_
    refine wp_icmp_ge 46 dX3_firstWrong_13 (by decide) rfl (fun h2 => ?_) (fun h2 => ?_)
    · rw [if_pos h2] at K
      refine wp_iconst (v := (-1)) dX3_firstWrong_46 rfl (by decide) ?_
      exact wp_ret .int rfl rfl (Nat.le_refl 0) (Nat.le_refl 0) dX3_firstWrong_47 ⟨rfl, _, rfl, K⟩
    · rw [if_neg h2] at K
      refine wp_aload_n 0 dX3_firstWrong_16 rfl rfl rfl ?_
      refine wp_getR 3 1 kcX3 kfX3_32 rfl lC_151 (congrArg Prod.fst gC_151) rC_151_1 dX3_firstWrong_17 rfl ?_
      refine wp_aload_n 0 dX3_firstWrong_20 rfl rfl rfl ?_
      refine wp_getR 3 5 kcX3 kfX3_22 rfl lC_151 (congrArg Prod.fst gC_151) rC_151_5 dX3_firstWrong_21 rfl ?_
      refine wp_iload_n 1 dX3_firstWrong_24 rfl rfl rfl ?_
      obtain ⟨k3, K⟩ := K
      refine wn_iald lC_155 gC_155 k3 dX3_firstWrong_25 rfl ?_
      refine wn_callVi (As := [.int (σ 155 (Int32.toNatClampNeg x1))]) (rest := []) 8 kmX3_83 (by decide) rfl rfl (Nat.le_of_ble_eq_true rfl) lC_9 (congrArg Prod.fst gC_9) dX3_firstWrong_26 rfl ?_
      refine Ci.mono K (fun v5 σ4 K => ?_)
      refine wp_aload_n 0 dX3_firstWrong_29 rfl rfl rfl ?_
      refine wp_getR 3 6 kcX3 kfX3_25 rfl lC_151 (congrArg Prod.fst gC_151) rC_151_6 dX3_firstWrong_30 rfl ?_
      refine wp_iload_n 1 dX3_firstWrong_33 rfl rfl rfl ?_
      obtain ⟨k6, K⟩ := K
      refine wn_iald lC_156 gC_156 k6 dX3_firstWrong_34 rfl ?_
      refine wp_icmp_eq 40 dX3_firstWrong_35 (by decide) rfl (fun h7 => ?_) (fun h7 => ?_)
      · rw [if_pos h7] at K
        refine wp_iinc (v := x1 + 1) 1 [1, 0] dX3_firstWrong_40 rfl (by decide) rfl rfl rfl ?_
        show WP _ _ _ _ _ _ _ 43 [(0, .ref 151), (1, .int (x1 + 1))] _ _ _
        refine wp_goto 2 dX3_firstWrong_43 (by decide) ?_
        exact K
      · rw [if_neg h7] at K
        refine wp_iload_n 1 dX3_firstWrong_38 rfl rfl rfl ?_
        exact wp_ret .int rfl rfl (Nat.le_refl 0) (Nat.le_refl 0) dX3_firstWrong_39 ⟨rfl, _, rfl, K⟩

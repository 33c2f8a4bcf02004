theorem bX5_hasRoom_1_0 {E : tp_E} {d : Nat} {Q : Int32 → tp_M → Prop} {σ : tp_M}   (x1 : Int32) (K : if x1 < 0 then (Q 0 σ) else (if (σ 1 0) ≤ x1 then (Q 0 σ) else (if 8 ≤ x1 then (Q 0 σ) else (Q 1 σ)))) : Wi E TC iX5_hasRoom d Q 0 [(0, .ref 1), (1, .int x1)] [] σ := by
  refine wp_iload_n 1 dX5_hasRoom_0 rfl rfl rfl ?_
  refine wp_if_lt 22 dX5_hasRoom_1 (by decide) rfl (fun h1 => ?_) (fun h1 => ?_)
  · rw [if_pos h1] at K
    refine wp_iconst (v := 0) dX5_hasRoom_22 rfl (by decide) ?_
    exact wp_ret .boolean rfl rfl (Nat.le_refl 0) (Nat.le_refl 0) dX5_hasRoom_23 ⟨rfl, _, rfl, K⟩
  · rw [if_neg h1] at K
    refine wp_iload_n 1 dX5_hasRoom_4 rfl rfl rfl ?_
    refine wp_aload_n 0 dX5_hasRoom_5 rfl rfl rfl ?_
    refine wp_getI 5 0 kcX5 kfX5_33 rfl lC_1 (congrArg Prod.fst gC_1) dX5_hasRoom_6 rfl ?_
    refine wp_icmp_ge 22 dX5_hasRoom_9 (by decide) rfl (fun h2 => ?_) (fun h2 => ?_)
    · rw [if_pos h2] at K
      refine wp_iconst (v := 0) dX5_hasRoom_22 rfl (by decide) ?_
      exact wp_ret .boolean rfl rfl (Nat.le_refl 0) (Nat.le_refl 0) dX5_hasRoom_23 ⟨rfl, _, rfl, K⟩
    · rw [if_neg h2] at K
      refine wp_iload_n 1 dX5_hasRoom_12 rfl rfl rfl ?_
      refine wp_bipush (v := 8) dX5_hasRoom_13 rfl (by decide) ?_
      refine wp_icmp_ge 22 dX5_hasRoom_15 (by decide) rfl (fun h3 => ?_) (fun h3 => ?_)
      · rw [if_pos h3] at K
        refine wp_iconst (v := 0) dX5_hasRoom_22 rfl (by decide) ?_
        exact wp_ret .boolean rfl rfl (Nat.le_refl 0) (Nat.le_refl 0) dX5_hasRoom_23 ⟨rfl, _, rfl, K⟩
      · rw [if_neg h3] at K
        refine wp_iconst (v := 1) dX5_hasRoom_18 rfl (by decide) ?_
        refine wp_goto 23 dX5_hasRoom_19 (by decide) ?_
        exact wp_ret .boolean rfl rfl (Nat.le_refl 0) (Nat.le_refl 0) dX5_hasRoom_23 ⟨rfl, _, rfl, K⟩
theorem eX5_hasRoom_1 {E : tp_E} {d : Nat} {Q : Int32 → tp_M → Prop} {σ : tp_M}   (x1 : Int32) (K : if x1 < 0 then (Q 0 σ) else (if (σ 1 0) ≤ x1 then (Q 0 σ) else (if 8 ≤ x1 then (Q 0 σ) else (Q 1 σ)))) : Ci E TC yX5_hasRoom iX5_hasRoom d [.ref 1, .int x1] σ Q := Ci.of ⟨by decide +kernel, rfl, rfl⟩ (Nat.le_of_ble_eq_true rfl) (bX5_hasRoom_1_0  x1 K)
theorem bX5_hasRoom_28_0 {E : tp_E} {d : Nat} {Q : Int32 → tp_M → Prop} {σ : tp_M}   (x1 : Int32) (K : if x1 < 0 then (Q 0 σ) else (if (σ 28 0) ≤ x1 then (Q 0 σ) else (if 8 ≤ x1 then (Q 0 σ) else (Q 1 σ)))) : Wi E TC iX5_hasRoom d Q 0 [(0, .ref 28), (1, .int x1)] [] σ := by
  refine wp_iload_n 1 dX5_hasRoom_0 rfl rfl rfl ?_
  refine wp_if_lt 22 dX5_hasRoom_1 (by decide) rfl (fun h1 => ?_) (fun h1 => ?_)
  · rw [if_pos h1] at K
    refine wp_iconst (v := 0) dX5_hasRoom_22 rfl (by decide) ?_
    exact wp_ret .boolean rfl rfl (Nat.le_refl 0) (Nat.le_refl 0) dX5_hasRoom_23 ⟨rfl, _, rfl, K⟩
  · rw [if_neg h1] at K
    refine wp_iload_n 1 dX5_hasRoom_4 rfl rfl rfl ?_
    refine wp_aload_n 0 dX5_hasRoom_5 rfl rfl rfl ?_
    refine wp_getI 5 0 kcX5 kfX5_33 rfl lC_28 (congrArg Prod.fst gC_28) dX5_hasRoom_6 rfl ?_
    refine wp_icmp_ge 22 dX5_hasRoom_9 (by decide) rfl (fun h2 => ?_) (fun h2 => ?_)
    · rw [if_pos h2] at K
      refine wp_iconst (v := 0) dX5_hasRoom_22 rfl (by decide) ?_
      exact wp_ret .boolean rfl rfl (Nat.le_refl 0) (Nat.le_refl 0) dX5_hasRoom_23 ⟨rfl, _, rfl, K⟩
    · rw [if_neg h2] at K
      refine wp_iload_n 1 dX5_hasRoom_12 rfl rfl rfl ?_
      refine wp_bipush (v := 8) dX5_hasRoom_13 rfl (by decide) ?_
      refine wp_icmp_ge 22 dX5_hasRoom_15 (by decide) rfl (fun h3 => ?_) (fun h3 => ?_)
      · rw [if_pos h3] at K
        refine wp_iconst (v := 0) dX5_hasRoom_22 rfl (by decide) ?_
        exact wp_ret .boolean rfl rfl (Nat.le_refl 0) (Nat.le_refl 0) dX5_hasRoom_23 ⟨rfl, _, rfl, K⟩
      · rw [if_neg h3] at K
        refine wp_iconst (v := 1) dX5_hasRoom_18 rfl (by decide) ?_
        refine wp_goto 23 dX5_hasRoom_19 (by decide) ?_
        exact wp_ret .boolean rfl rfl (Nat.le_refl 0) (Nat.le_refl 0) dX5_hasRoom_23 ⟨rfl, _, rfl, K⟩
theorem eX5_hasRoom_28 {E : tp_E} {d : Nat} {Q : Int32 → tp_M → Prop} {σ : tp_M}   (x1 : Int32) (K : if x1 < 0 then (Q 0 σ) else (if (σ 28 0) ≤ x1 then (Q 0 σ) else (if 8 ≤ x1 then (Q 0 σ) else (Q 1 σ)))) : Ci E TC yX5_hasRoom iX5_hasRoom d [.ref 28, .int x1] σ Q := Ci.of ⟨by decide +kernel, rfl, rfl⟩ (Nat.le_of_ble_eq_true rfl) (bX5_hasRoom_28_0  x1 K)
theorem bX5_joinedTo_1_0 {E : tp_E} {d : Nat} {Q : Int32 → tp_M → Prop} {σ : tp_M}   (x1 : Int32) (K : Ci E TC yX5_hasRoom iX5_hasRoom d [.ref 1, .int x1] σ (fun v2 σ1 => if v2 = 0 then (Q 0 σ1) else (vp_in x1 8 ∧ (Q (σ1 2 (Int32.toNatClampNeg x1)) σ1)))) : Wi E TC iX5_joinedTo (d + 1) Q 0 [(0, .ref 1), (1, .int x1)] [] σ := by
  refine wp_aload_n 0 dX5_joinedTo_0 rfl rfl rfl ?_
  refine wp_iload_n 1 dX5_joinedTo_1 rfl rfl rfl ?_
  refine wn_callVi (As := [.int x1]) (rest := []) 5 kmX5_69 (by decide) rfl rfl (Nat.le_of_ble_eq_true rfl) lC_1 (congrArg Prod.fst gC_1) dX5_joinedTo_2 rfl ?_
  refine Ci.mono K (fun v2 σ1 K => ?_)
  refine wp_if_eq 17 dX5_joinedTo_5 (by decide) rfl (fun h3 => ?_) (fun h3 => ?_)
  · rw [if_pos h3] at K
    refine wp_iconst (v := 0) dX5_joinedTo_17 rfl (by decide) ?_
    exact wp_ret .int rfl rfl (Nat.le_refl 0) (Nat.le_refl 0) dX5_joinedTo_18 ⟨rfl, _, rfl, K⟩
  · rw [if_neg h3] at K
    refine wp_aload_n 0 dX5_joinedTo_8 rfl rfl rfl ?_
    refine wp_getR 5 6 kcX5 kfX5_9 rfl lC_1 (congrArg Prod.fst gC_1) rC_1_6 dX5_joinedTo_9 rfl ?_
    refine wp_iload_n 1 dX5_joinedTo_12 rfl rfl rfl ?_
    obtain ⟨k4, K⟩ := K
    refine wn_iald lC_2 gC_2 k4 dX5_joinedTo_13 rfl ?_
    refine wp_goto 18 dX5_joinedTo_14 (by decide) ?_
    exact wp_ret .int rfl rfl (Nat.le_refl 0) (Nat.le_refl 0) dX5_joinedTo_18 ⟨rfl, _, rfl, K⟩
theorem eX5_joinedTo_1 {E : tp_E} {d : Nat} {Q : Int32 → tp_M → Prop} {σ : tp_M}   (x1 : Int32) (K : Ci E TC yX5_hasRoom iX5_hasRoom d [.ref 1, .int x1] σ (fun v2 σ1 => if v2 = 0 then (Q 0 σ1) else (vp_in x1 8 ∧ (Q (σ1 2 (Int32.toNatClampNeg x1)) σ1)))) : Ci E TC yX5_joinedTo iX5_joinedTo (d + 1) [.ref 1, .int x1] σ Q := Ci.of ⟨by decide +kernel, rfl, rfl⟩ (Nat.le_of_ble_eq_true rfl) (bX5_joinedTo_1_0  x1 K)
theorem bX5_joinedTo_28_0 {E : tp_E} {d : Nat} {Q : Int32 → tp_M → Prop} {σ : tp_M}   (x1 : Int32) (K : Ci E TC yX5_hasRoom iX5_hasRoom d [.ref 28, .int x1] σ (fun v2 σ1 => if v2 = 0 then (Q 0 σ1) else (vp_in x1 8 ∧ (Q (σ1 29 (Int32.toNatClampNeg x1)) σ1)))) : Wi E TC iX5_joinedTo (d + 1) Q 0 [(0, .ref 28), (1, .int x1)] [] σ := by
  refine wp_aload_n 0 dX5_joinedTo_0 rfl rfl rfl ?_
  refine wp_iload_n 1 dX5_joinedTo_1 rfl rfl rfl ?_
  refine wn_callVi (As := [.int x1]) (rest := []) 5 kmX5_69 (by decide) rfl rfl (Nat.le_of_ble_eq_true rfl) lC_28 (congrArg Prod.fst gC_28) dX5_joinedTo_2 rfl ?_
  refine Ci.mono K (fun v2 σ1 K => ?_)
  refine wp_if_eq 17 dX5_joinedTo_5 (by decide) rfl (fun h3 => ?_) (fun h3 => ?_)
  · rw [if_pos h3] at K
    refine wp_iconst (v := 0) dX5_joinedTo_17 rfl (by decide) ?_
    exact wp_ret .int rfl rfl (Nat.le_refl 0) (Nat.le_refl 0) dX5_joinedTo_18 ⟨rfl, _, rfl, K⟩
  · rw [if_neg h3] at K
    refine wp_aload_n 0 dX5_joinedTo_8 rfl rfl rfl ?_
    refine wp_getR 5 6 kcX5 kfX5_9 rfl lC_28 (congrArg Prod.fst gC_28) rC_28_6 dX5_joinedTo_9 rfl ?_
    refine wp_iload_n 1 dX5_joinedTo_12 rfl rfl rfl ?_
    obtain ⟨k4, K⟩ := K
    refine wn_iald lC_29 gC_29 k4 dX5_joinedTo_13 rfl ?_
    refine wp_goto 18 dX5_joinedTo_14 (by decide) ?_
    exact wp_ret .int rfl rfl (Nat.le_refl 0) (Nat.le_refl 0) dX5_joinedTo_18 ⟨rfl, _, rfl, K⟩
theorem eX5_joinedTo_28 {E : tp_E} {d : Nat} {Q : Int32 → tp_M → Prop} {σ : tp_M}   (x1 : Int32) (K : Ci E TC yX5_hasRoom iX5_hasRoom d [.ref 28, .int x1] σ (fun v2 σ1 => if v2 = 0 then (Q 0 σ1) else (vp_in x1 8 ∧ (Q (σ1 29 (Int32.toNatClampNeg x1)) σ1)))) : Ci E TC yX5_joinedTo iX5_joinedTo (d + 1) [.ref 28, .int x1] σ Q := Ci.of ⟨by decide +kernel, rfl, rfl⟩ (Nat.le_of_ble_eq_true rfl) (bX5_joinedTo_28_0  x1 K)
theorem bX5_clear_0 {E : tp_E} {d : Nat} {Q : tp_M → Prop} {σ : tp_M}    (K : Wv E TC iX5_clear d Q 32 [(0, .ref 28), (1, .int 0)] [] (tp_u (tp_u (tp_u (tp_u (tp_u (tp_u σ 28 0 0) 28 1 0) 28 2 0) 28 3 0) 28 4 0) 28 5 0)) : Wv E TC iX5_clear d Q 0 [(0, .ref 28)] [] σ := by
  refine wp_aload_n 0 dX5_clear_0 rfl rfl rfl ?_
  refine wp_iconst (v := 0) dX5_clear_1 rfl (by decide) ?_
  refine wp_putI 5 0 kcX5 kfX5_33 rfl rfl rfl rfl lC_28 (congrArg Prod.fst gC_28) dX5_clear_2 rfl ?_
  refine wp_aload_n 0 dX5_clear_5 rfl rfl rfl ?_
  refine wp_iconst (v := 0) dX5_clear_6 rfl (by decide) ?_
  refine wp_putI 5 1 kcX5 kfX5_37 rfl rfl rfl rfl lC_28 (congrArg Prod.fst gC_28) dX5_clear_7 rfl ?_
  refine wp_aload_n 0 dX5_clear_10 rfl rfl rfl ?_
  refine wp_iconst (v := 0) dX5_clear_11 rfl (by decide) ?_
  refine wp_putI 5 2 kcX5 kfX5_40 rfl rfl rfl rfl lC_28 (congrArg Prod.fst gC_28) dX5_clear_12 rfl ?_
  refine wp_aload_n 0 dX5_clear_15 rfl rfl rfl ?_
  refine wp_iconst (v := 0) dX5_clear_16 rfl (by decide) ?_
  refine wp_putI 5 3 kcX5 kfX5_43 rfl rfl rfl rfl lC_28 (congrArg Prod.fst gC_28) dX5_clear_17 rfl ?_
  refine wp_aload_n 0 dX5_clear_20 rfl rfl rfl ?_
  refine wp_iconst (v := 0) dX5_clear_21 rfl (by decide) ?_
  refine wp_putI 5 4 kcX5 kfX5_46 rfl rfl rfl rfl lC_28 (congrArg Prod.fst gC_28) dX5_clear_22 rfl ?_
  refine wp_aload_n 0 dX5_clear_25 rfl rfl rfl ?_
  refine wp_iconst (v := 0) dX5_clear_26 rfl (by decide) ?_
  refine wp_putI 5 5 kcX5 kfX5_49 rfl rfl rfl rfl lC_28 (congrArg Prod.fst gC_28) dX5_clear_27 rfl ?_
  refine wp_iconst (v := 0) dX5_clear_30 rfl (by decide) ?_
  refine wp_istore_n [1, 0] dX5_clear_31 rfl rfl (by decide) rfl ?_
  show WP _ _ _ _ _ _ _ 32 [(0, .ref 28), (1, .int 0)] _ _ _
  exact K
theorem eX5_clear {E : tp_E} {d : Nat} {Q : tp_M → Prop} {σ : tp_M}    (K : Wv E TC iX5_clear d Q 32 [(0, .ref 28), (1, .int 0)] [] (tp_u (tp_u (tp_u (tp_u (tp_u (tp_u σ 28 0 0) 28 1 0) 28 2 0) 28 3 0) 28 4 0) 28 5 0)) : Cv E TC yX5_clear iX5_clear d [.ref 28] σ Q := Cv.of ⟨by decide +kernel, rfl, rfl⟩ (Nat.le_of_ble_eq_true rfl) (bX5_clear_0   K)
theorem bX5_clear_32 {E : tp_E} {d : Nat} {Q : tp_M → Prop} {σ : tp_M}   (x1 : Int32) (K : if 8 ≤ x1 then (Q σ) else (vp_in x1 8 ∧ (Wv E TC iX5_clear d Q 32 [(0, .ref 28), (1, .int (x1 + 1))] [] (tp_u σ 29 (Int32.toNatClampNeg x1) 0)))) : Wv E TC iX5_clear d Q 32 [(0, .ref 28), (1, .int x1)] [] σ := by
  refine wp_iload_n 1 dX5_clear_32 rfl rfl rfl ?_
  refine wp_bipush (v := 8) dX5_clear_33 rfl (by decide) ?_
  refine wp_icmp_ge 51 dX5_clear_35 (by decide) rfl (fun h1 => ?_) (fun h1 => ?_)
  · rw [if_pos h1] at K
    exact wp_vret rfl (Nat.le_refl 0) (Nat.le_refl 0) dX5_clear_51 ⟨rfl, rfl, K⟩
  · rw [if_neg h1] at K
    refine wp_aload_n 0 dX5_clear_38 rfl rfl rfl ?_
    refine wp_getR 5 6 kcX5 kfX5_9 rfl lC_28 (congrArg Prod.fst gC_28) rC_28_6 dX5_clear_39 rfl ?_
    refine wp_iload_n 1 dX5_clear_42 rfl rfl rfl ?_
    refine wp_iconst (v := 0) dX5_clear_43 rfl (by decide) ?_
    obtain ⟨k2, K⟩ := K
    refine wn_iast lC_29 gC_29 k2 dX5_clear_44 rfl ?_
    refine wp_iinc (v := x1 + 1) 1 [1, 0] dX5_clear_45 rfl (by decide) rfl rfl rfl ?_
    show WP _ _ _ _ _ _ _ 48 [(0, .ref 28), (1, .int (x1 + 1))] _ _ _
    refine wp_goto 32 dX5_clear_48 (by decide) ?_
    exact K
theorem bX5_isFull_0 {E : tp_E} {d : Nat} {Q : Int32 → tp_M → Prop} {σ : tp_M}   (x1 : Int32) (K : if x1 = 111 then (if (σ 28 5) < 4 then (Q 0 σ) else (Q 1 σ)) else (if x1 = 112 then (if (σ 28 2) < 12 then (Q 0 σ) else (Q 1 σ)) else (if x1 = 116 then (if (σ 28 4) < 8 then (Q 0 σ) else (Q 1 σ)) else (if x1 = 119 then (if (σ 28 3) < 4 then (Q 0 σ) else (Q 1 σ)) else (if (σ 28 0) ≤ 0 then (Q 0 σ) else (Q 1 σ)))))) : Wi E TC iX5_isFull d Q 0 [(0, .ref 28), (1, .int x1)] [] σ := by
  refine wp_iload_n 1 dX5_isFull_0 rfl rfl rfl ?_
  by_cases h1 : x1 = 111
  · rw [if_pos h1] at K
    refine wp_tableIn 95 96 dX5_isFull_1 (by rw [h1]; decide) (by rw [h1]; decide) (by rw [h1]; rfl) (by decide) ?_
    refine wp_aload_n 0 dX5_isFull_96 rfl rfl rfl ?_
    refine wp_getI 5 5 kcX5 kfX5_49 rfl lC_28 (congrArg Prod.fst gC_28) dX5_isFull_97 rfl ?_
    refine wp_iconst (v := 4) dX5_isFull_100 rfl (by decide) ?_
    refine wp_icmp_lt 108 dX5_isFull_101 (by decide) rfl (fun h2 => ?_) (fun h2 => ?_)
    · rw [if_pos h2] at K
      refine wp_iconst (v := 0) dX5_isFull_108 rfl (by decide) ?_
      exact wp_ret .boolean rfl rfl (Nat.le_refl 0) (Nat.le_refl 0) dX5_isFull_109 ⟨rfl, _, rfl, K⟩
    · rw [if_neg h2] at K
      refine wp_iconst (v := 1) dX5_isFull_104 rfl (by decide) ?_
      refine wp_goto 109 dX5_isFull_105 (by decide) ?_
      exact wp_ret .boolean rfl rfl (Nat.le_refl 0) (Nat.le_refl 0) dX5_isFull_109 ⟨rfl, _, rfl, K⟩
  rw [if_neg h1] at K
  by_cases h3 : x1 = 112
  · rw [if_pos h3] at K
    refine wp_tableIn 51 52 dX5_isFull_1 (by rw [h3]; decide) (by rw [h3]; decide) (by rw [h3]; rfl) (by decide) ?_
    refine wp_aload_n 0 dX5_isFull_52 rfl rfl rfl ?_
    refine wp_getI 5 2 kcX5 kfX5_40 rfl lC_28 (congrArg Prod.fst gC_28) dX5_isFull_53 rfl ?_
    refine wp_bipush (v := 12) dX5_isFull_56 rfl (by decide) ?_
    refine wp_icmp_lt 65 dX5_isFull_58 (by decide) rfl (fun h4 => ?_) (fun h4 => ?_)
    · rw [if_pos h4] at K
      refine wp_iconst (v := 0) dX5_isFull_65 rfl (by decide) ?_
      exact wp_ret .boolean rfl rfl (Nat.le_refl 0) (Nat.le_refl 0) dX5_isFull_66 ⟨rfl, _, rfl, K⟩
    · rw [if_neg h4] at K
      refine wp_iconst (v := 1) dX5_isFull_61 rfl (by decide) ?_
      refine wp_goto 66 dX5_isFull_62 (by decide) ?_
      exact wp_ret .boolean rfl rfl (Nat.le_refl 0) (Nat.le_refl 0) dX5_isFull_66 ⟨rfl, _, rfl, K⟩
  rw [if_neg h3] at K
  by_cases h5 : x1 = 116
  · rw [if_pos h5] at K
    refine wp_tableIn 80 81 dX5_isFull_1 (by rw [h5]; decide) (by rw [h5]; decide) (by rw [h5]; rfl) (by decide) ?_
    refine wp_aload_n 0 dX5_isFull_81 rfl rfl rfl ?_
    refine wp_getI 5 4 kcX5 kfX5_46 rfl lC_28 (congrArg Prod.fst gC_28) dX5_isFull_82 rfl ?_
    refine wp_bipush (v := 8) dX5_isFull_85 rfl (by decide) ?_
    refine wp_icmp_lt 94 dX5_isFull_87 (by decide) rfl (fun h6 => ?_) (fun h6 => ?_)
    · rw [if_pos h6] at K
      refine wp_iconst (v := 0) dX5_isFull_94 rfl (by decide) ?_
      exact wp_ret .boolean rfl rfl (Nat.le_refl 0) (Nat.le_refl 0) dX5_isFull_95 ⟨rfl, _, rfl, K⟩
    · rw [if_neg h6] at K
      refine wp_iconst (v := 1) dX5_isFull_90 rfl (by decide) ?_
      refine wp_goto 95 dX5_isFull_91 (by decide) ?_
      exact wp_ret .boolean rfl rfl (Nat.le_refl 0) (Nat.le_refl 0) dX5_isFull_95 ⟨rfl, _, rfl, K⟩
  rw [if_neg h5] at K
  by_cases h7 : x1 = 119
  · rw [if_pos h7] at K
    refine wp_tableIn 66 67 dX5_isFull_1 (by rw [h7]; decide) (by rw [h7]; decide) (by rw [h7]; rfl) (by decide) ?_
    refine wp_aload_n 0 dX5_isFull_67 rfl rfl rfl ?_
    refine wp_getI 5 3 kcX5 kfX5_43 rfl lC_28 (congrArg Prod.fst gC_28) dX5_isFull_68 rfl ?_
    refine wp_iconst (v := 4) dX5_isFull_71 rfl (by decide) ?_
    refine wp_icmp_lt 79 dX5_isFull_72 (by decide) rfl (fun h8 => ?_) (fun h8 => ?_)
    · rw [if_pos h8] at K
      refine wp_iconst (v := 0) dX5_isFull_79 rfl (by decide) ?_
      exact wp_ret .boolean rfl rfl (Nat.le_refl 0) (Nat.le_refl 0) dX5_isFull_80 ⟨rfl, _, rfl, K⟩
    · rw [if_neg h8] at K
      refine wp_iconst (v := 1) dX5_isFull_75 rfl (by decide) ?_
      refine wp_goto 80 dX5_isFull_76 (by decide) ?_
      exact wp_ret .boolean rfl rfl (Nat.le_refl 0) (Nat.le_refl 0) dX5_isFull_80 ⟨rfl, _, rfl, K⟩
  rw [if_neg h7] at K
  have G : Wi E TC iX5_isFull d Q 110 [(0, .ref 28), (1, .int x1)] [] σ := by
    refine wp_aload_n 0 dX5_isFull_110 rfl rfl rfl ?_
    refine wp_getI 5 0 kcX5 kfX5_33 rfl lC_28 (congrArg Prod.fst gC_28) dX5_isFull_111 rfl ?_
    refine wp_if_le 121 dX5_isFull_114 (by decide) rfl (fun h9 => ?_) (fun h9 => ?_)
    · rw [if_pos h9] at K
      refine wp_iconst (v := 0) dX5_isFull_121 rfl (by decide) ?_
      exact wp_ret .boolean rfl rfl (Nat.le_refl 0) (Nat.le_refl 0) dX5_isFull_122 ⟨rfl, _, rfl, K⟩
    · rw [if_neg h9] at K
      refine wp_iconst (v := 1) dX5_isFull_117 rfl (by decide) ?_
      refine wp_goto 122 dX5_isFull_118 (by decide) ?_
      exact wp_ret .boolean rfl rfl (Nat.le_refl 0) (Nat.le_refl 0) dX5_isFull_122 ⟨rfl, _, rfl, K⟩
  by_cases h10 : Int32.toInt x1 < 111 ∨ 119 < Int32.toInt x1
  · exact wp_tableOut 110 dX5_isFull_1 h10 (by decide) G
  · have hx : Int32.toInt x1 = 113 ∨ Int32.toInt x1 = 114 ∨ Int32.toInt x1 = 115 ∨ Int32.toInt x1 = 117 ∨ Int32.toInt x1 = 118 := by have g0 := lv_neT h1 (a := 111) (by decide); have g1 := lv_neT h3 (a := 112) (by decide); have g2 := lv_neT h5 (a := 116) (by decide); have g3 := lv_neT h7 (a := 119) (by decide); omega
    rcases hx with hx | hx | hx | hx | hx
    · exact wp_tableIn 109 110 dX5_isFull_1 (by rw [hx]; decide) (by rw [hx]; decide) (by rw [hx]; rfl) (by decide) G
    · exact wp_tableIn 109 110 dX5_isFull_1 (by rw [hx]; decide) (by rw [hx]; decide) (by rw [hx]; rfl) (by decide) G
    · exact wp_tableIn 109 110 dX5_isFull_1 (by rw [hx]; decide) (by rw [hx]; decide) (by rw [hx]; rfl) (by decide) G
    · exact wp_tableIn 109 110 dX5_isFull_1 (by rw [hx]; decide) (by rw [hx]; decide) (by rw [hx]; rfl) (by decide) G
    · exact wp_tableIn 109 110 dX5_isFull_1 (by rw [hx]; decide) (by rw [hx]; decide) (by rw [hx]; rfl) (by decide) G
theorem eX5_isFull {E : tp_E} {d : Nat} {Q : Int32 → tp_M → Prop} {σ : tp_M}   (x1 : Int32) (K : if x1 = 111 then (if (σ 28 5) < 4 then (Q 0 σ) else (Q 1 σ)) else (if x1 = 112 then (if (σ 28 2) < 12 then (Q 0 σ) else (Q 1 σ)) else (if x1 = 116 then (if (σ 28 4) < 8 then (Q 0 σ) else (Q 1 σ)) else (if x1 = 119 then (if (σ 28 3) < 4 then (Q 0 σ) else (Q 1 σ)) else (if (σ 28 0) ≤ 0 then (Q 0 σ) else (Q 1 σ)))))) : Ci E TC yX5_isFull iX5_isFull d [.ref 28, .int x1] σ Q := Ci.of ⟨by decide +kernel, rfl, rfl⟩ (Nat.le_of_ble_eq_true rfl) (bX5_isFull_0  x1 K)
theorem bX5_add_0 {E : tp_E} {d : Nat} {Q : tp_M → Prop} {σ : tp_M}   (x1 : Int32) (x2 : Int32) (x3 : Int32) (K : Ci E TC yX5_isFull iX5_isFull d [.ref 28, .int x1] σ (fun v2 σ1 => if v2 = 0 then (if x1 = 111 then (vp_in (σ1 28 5) 4 ∧ (vp_in ((tp_u σ1 34 (Int32.toNatClampNeg (σ1 28 5)) x2) 28 5) 4 ∧ (Q (tp_u (tp_u (tp_u σ1 34 (Int32.toNatClampNeg (σ1 28 5)) x2) 35 (Int32.toNatClampNeg ((tp_u σ1 34 (Int32.toNatClampNeg (σ1 28 5)) x2) 28 5)) x3) 28 5 (((tp_u (tp_u σ1 34 (Int32.toNatClampNeg (σ1 28 5)) x2) 35 (Int32.toNatClampNeg ((tp_u σ1 34 (Int32.toNatClampNeg (σ1 28 5)) x2) 28 5)) x3) 28 5) + 1))))) else (if x1 = 112 then (Cv E TC yX5_join iX5_join d [.ref 28, .int x2, .int x3] σ1 (fun σ8 => Cv E TC yX5_join iX5_join d [.ref 28, .int x3, .int x2] σ8 (fun σ9 => Q (tp_u σ9 28 2 ((σ9 28 2) + 1))))) else (if x1 = 116 then (vp_in (σ1 28 4) 8 ∧ (vp_in ((tp_u σ1 32 (Int32.toNatClampNeg (σ1 28 4)) x2) 28 4) 8 ∧ (Q (tp_u (tp_u (tp_u σ1 32 (Int32.toNatClampNeg (σ1 28 4)) x2) 33 (Int32.toNatClampNeg ((tp_u σ1 32 (Int32.toNatClampNeg (σ1 28 4)) x2) 28 4)) x3) 28 4 (((tp_u (tp_u σ1 32 (Int32.toNatClampNeg (σ1 28 4)) x2) 33 (Int32.toNatClampNeg ((tp_u σ1 32 (Int32.toNatClampNeg (σ1 28 4)) x2) 28 4)) x3) 28 4) + 1))))) else (if x1 = 119 then (vp_in (σ1 28 3) 4 ∧ (vp_in ((tp_u σ1 30 (Int32.toNatClampNeg (σ1 28 3)) x2) 28 3) 4 ∧ (Q (tp_u (tp_u (tp_u σ1 30 (Int32.toNatClampNeg (σ1 28 3)) x2) 31 (Int32.toNatClampNeg ((tp_u σ1 30 (Int32.toNatClampNeg (σ1 28 3)) x2) 28 3)) x3) 28 3 (((tp_u (tp_u σ1 30 (Int32.toNatClampNeg (σ1 28 3)) x2) 31 (Int32.toNatClampNeg ((tp_u σ1 30 (Int32.toNatClampNeg (σ1 28 3)) x2) 28 3)) x3) 28 3) + 1))))) else (Q (tp_u (tp_u σ1 28 0 x2) 28 1 x3)))))) else (Q σ1))) : Wv E TC iX5_add (d + 1) Q 0 [(0, .ref 28), (1, .int x1), (2, .int x2), (3, .int x3)] [] σ := by
  refine wp_aload_n 0 dX5_add_0 rfl rfl rfl ?_
  refine wp_iload_n 1 dX5_add_1 rfl rfl rfl ?_
  refine wn_callVi (As := [.int x1]) (rest := []) 5 kmX5_62 (by decide) rfl rfl (Nat.le_of_ble_eq_true rfl) lC_28 (congrArg Prod.fst gC_28) dX5_add_2 rfl ?_
  refine Ci.mono K (fun v2 σ1 K => ?_)
  refine wp_if_eq 9 dX5_add_5 (by decide) rfl (fun h3 => ?_) (fun h3 => ?_)
  · rw [if_pos h3] at K
    refine wp_iload_n 1 dX5_add_9 rfl rfl rfl ?_
    by_cases h4 : x1 = 111
    · rw [if_pos h4] at K
      refine wp_tableIn 141 151 dX5_add_10 (by rw [h4]; decide) (by rw [h4]; decide) (by rw [h4]; rfl) (by decide) ?_
      refine wp_aload_n 0 dX5_add_151 rfl rfl rfl ?_
      refine wp_getR 5 11 kcX5 kfX5_27 rfl lC_28 (congrArg Prod.fst gC_28) rC_28_11 dX5_add_152 rfl ?_
      refine wp_aload_n 0 dX5_add_155 rfl rfl rfl ?_
      refine wp_getI 5 5 kcX5 kfX5_49 rfl lC_28 (congrArg Prod.fst gC_28) dX5_add_156 rfl ?_
      refine wp_iload_n 2 dX5_add_159 rfl rfl rfl ?_
      obtain ⟨k5, K⟩ := K
      refine wn_iast lC_34 gC_34 k5 dX5_add_160 rfl ?_
      refine wp_aload_n 0 dX5_add_161 rfl rfl rfl ?_
      refine wp_getR 5 12 kcX5 kfX5_30 rfl lC_28 (congrArg Prod.fst gC_28) rC_28_12 dX5_add_162 rfl ?_
      refine wp_aload_n 0 dX5_add_165 rfl rfl rfl ?_
      refine wp_getI 5 5 kcX5 kfX5_49 rfl lC_28 (congrArg Prod.fst gC_28) dX5_add_166 rfl ?_
      refine wp_iload_n 3 dX5_add_169 rfl rfl rfl ?_
      obtain ⟨k6, K⟩ := K
      refine wn_iast lC_35 gC_35 k6 dX5_add_170 rfl ?_
      refine wp_aload_n 0 dX5_add_171 rfl rfl rfl ?_
      refine wp_dup dX5_add_172 rfl rfl ?_
      refine wp_getI 5 5 kcX5 kfX5_49 rfl lC_28 (congrArg Prod.fst gC_28) dX5_add_173 rfl ?_
      refine wp_iconst (v := 1) dX5_add_176 rfl (by decide) ?_
      refine wp_iadd dX5_add_177 rfl ?_
      refine wp_putI 5 5 kcX5 kfX5_49 rfl rfl rfl rfl lC_28 (congrArg Prod.fst gC_28) dX5_add_178 rfl ?_
      refine wp_goto 194 dX5_add_181 (by decide) ?_
      exact wp_vret rfl (Nat.le_refl 0) (Nat.le_refl 0) dX5_add_194 ⟨rfl, rfl, K⟩
    rw [if_neg h4] at K
    by_cases h7 : x1 = 112
    · rw [if_pos h7] at K
      refine wp_tableIn 50 60 dX5_add_10 (by rw [h7]; decide) (by rw [h7]; decide) (by rw [h7]; rfl) (by decide) ?_
      refine wp_aload_n 0 dX5_add_60 rfl rfl rfl ?_
      refine wp_iload_n 2 dX5_add_61 rfl rfl rfl ?_
      refine wp_iload_n 3 dX5_add_62 rfl rfl rfl ?_
      refine wn_callVv (As := [.int x2, .int x3]) (rest := []) 5 kmX5_65 (by decide) rfl rfl (Nat.le_of_ble_eq_true rfl) lC_28 (congrArg Prod.fst gC_28) dX5_add_63 rfl ?_
      refine Cv.mono K (fun σ8 K => ?_)
      refine wp_aload_n 0 dX5_add_66 rfl rfl rfl ?_
      refine wp_iload_n 3 dX5_add_67 rfl rfl rfl ?_
      refine wp_iload_n 2 dX5_add_68 rfl rfl rfl ?_
      refine wn_callVv (As := [.int x3, .int x2]) (rest := []) 5 kmX5_65 (by decide) rfl rfl (Nat.le_of_ble_eq_true rfl) lC_28 (congrArg Prod.fst gC_28) dX5_add_69 rfl ?_
      refine Cv.mono K (fun σ9 K => ?_)
      refine wp_aload_n 0 dX5_add_72 rfl rfl rfl ?_
      refine wp_dup dX5_add_73 rfl rfl ?_
      refine wp_getI 5 2 kcX5 kfX5_40 rfl lC_28 (congrArg Prod.fst gC_28) dX5_add_74 rfl ?_
      refine wp_iconst (v := 1) dX5_add_77 rfl (by decide) ?_
      refine wp_iadd dX5_add_78 rfl ?_
      refine wp_putI 5 2 kcX5 kfX5_40 rfl rfl rfl rfl lC_28 (congrArg Prod.fst gC_28) dX5_add_79 rfl ?_
      refine wp_goto 194 dX5_add_82 (by decide) ?_
      exact wp_vret rfl (Nat.le_refl 0) (Nat.le_refl 0) dX5_add_194 ⟨rfl, rfl, K⟩
    rw [if_neg h7] at K
    by_cases h10 : x1 = 116
    · rw [if_pos h10] at K
      refine wp_tableIn 108 118 dX5_add_10 (by rw [h10]; decide) (by rw [h10]; decide) (by rw [h10]; rfl) (by decide) ?_
      refine wp_aload_n 0 dX5_add_118 rfl rfl rfl ?_
      refine wp_getR 5 9 kcX5 kfX5_21 rfl lC_28 (congrArg Prod.fst gC_28) rC_28_9 dX5_add_119 rfl ?_
      refine wp_aload_n 0 dX5_add_122 rfl rfl rfl ?_
      refine wp_getI 5 4 kcX5 kfX5_46 rfl lC_28 (congrArg Prod.fst gC_28) dX5_add_123 rfl ?_
      refine wp_iload_n 2 dX5_add_126 rfl rfl rfl ?_
      obtain ⟨k11, K⟩ := K
      refine wn_iast lC_32 gC_32 k11 dX5_add_127 rfl ?_
      refine wp_aload_n 0 dX5_add_128 rfl rfl rfl ?_
      refine wp_getR 5 10 kcX5 kfX5_24 rfl lC_28 (congrArg Prod.fst gC_28) rC_28_10 dX5_add_129 rfl ?_
      refine wp_aload_n 0 dX5_add_132 rfl rfl rfl ?_
      refine wp_getI 5 4 kcX5 kfX5_46 rfl lC_28 (congrArg Prod.fst gC_28) dX5_add_133 rfl ?_
      refine wp_iload_n 3 dX5_add_136 rfl rfl rfl ?_
      obtain ⟨k12, K⟩ := K
      refine wn_iast lC_33 gC_33 k12 dX5_add_137 rfl ?_
      refine wp_aload_n 0 dX5_add_138 rfl rfl rfl ?_
      refine wp_dup dX5_add_139 rfl rfl ?_
      refine wp_getI 5 4 kcX5 kfX5_46 rfl lC_28 (congrArg Prod.fst gC_28) dX5_add_140 rfl ?_
      refine wp_iconst (v := 1) dX5_add_143 rfl (by decide) ?_
      refine wp_iadd dX5_add_144 rfl ?_
      refine wp_putI 5 4 kcX5 kfX5_46 rfl rfl rfl rfl lC_28 (congrArg Prod.fst gC_28) dX5_add_145 rfl ?_
      refine wp_goto 194 dX5_add_148 (by decide) ?_
      exact wp_vret rfl (Nat.le_refl 0) (Nat.le_refl 0) dX5_add_194 ⟨rfl, rfl, K⟩
    rw [if_neg h10] at K
    by_cases h13 : x1 = 119
    · rw [if_pos h13] at K
      refine wp_tableIn 75 85 dX5_add_10 (by rw [h13]; decide) (by rw [h13]; decide) (by rw [h13]; rfl) (by decide) ?_
      refine wp_aload_n 0 dX5_add_85 rfl rfl rfl ?_
      refine wp_getR 5 7 kcX5 kfX5_15 rfl lC_28 (congrArg Prod.fst gC_28) rC_28_7 dX5_add_86 rfl ?_
      refine wp_aload_n 0 dX5_add_89 rfl rfl rfl ?_
      refine wp_getI 5 3 kcX5 kfX5_43 rfl lC_28 (congrArg Prod.fst gC_28) dX5_add_90 rfl ?_
      refine wp_iload_n 2 dX5_add_93 rfl rfl rfl ?_
      obtain ⟨k14, K⟩ := K
      refine wn_iast lC_30 gC_30 k14 dX5_add_94 rfl ?_
      refine wp_aload_n 0 dX5_add_95 rfl rfl rfl ?_
      refine wp_getR 5 8 kcX5 kfX5_18 rfl lC_28 (congrArg Prod.fst gC_28) rC_28_8 dX5_add_96 rfl ?_
      refine wp_aload_n 0 dX5_add_99 rfl rfl rfl ?_
      refine wp_getI 5 3 kcX5 kfX5_43 rfl lC_28 (congrArg Prod.fst gC_28) dX5_add_100 rfl ?_
      refine wp_iload_n 3 dX5_add_103 rfl rfl rfl ?_
      obtain ⟨k15, K⟩ := K
      refine wn_iast lC_31 gC_31 k15 dX5_add_104 rfl ?_
      refine wp_aload_n 0 dX5_add_105 rfl rfl rfl ?_
      refine wp_dup dX5_add_106 rfl rfl ?_
      refine wp_getI 5 3 kcX5 kfX5_43 rfl lC_28 (congrArg Prod.fst gC_28) dX5_add_107 rfl ?_
      refine wp_iconst (v := 1) dX5_add_110 rfl (by decide) ?_
      refine wp_iadd dX5_add_111 rfl ?_
      refine wp_putI 5 3 kcX5 kfX5_43 rfl rfl rfl rfl lC_28 (congrArg Prod.fst gC_28) dX5_add_112 rfl ?_
      refine wp_goto 194 dX5_add_115 (by decide) ?_
      exact wp_vret rfl (Nat.le_refl 0) (Nat.le_refl 0) dX5_add_194 ⟨rfl, rfl, K⟩
    rw [if_neg h13] at K
    have G : Wv E TC iX5_add (d + 1) Q 184 [(0, .ref 28), (1, .int x1), (2, .int x2), (3, .int x3)] [] σ1 := by
      refine wp_aload_n 0 dX5_add_184 rfl rfl rfl ?_
      refine wp_iload_n 2 dX5_add_185 rfl rfl rfl ?_
      refine wp_putI 5 0 kcX5 kfX5_33 rfl rfl rfl rfl lC_28 (congrArg Prod.fst gC_28) dX5_add_186 rfl ?_
      refine wp_aload_n 0 dX5_add_189 rfl rfl rfl ?_
      refine wp_iload_n 3 dX5_add_190 rfl rfl rfl ?_
      refine wp_putI 5 1 kcX5 kfX5_37 rfl rfl rfl rfl lC_28 (congrArg Prod.fst gC_28) dX5_add_191 rfl ?_
      exact wp_vret rfl (Nat.le_refl 0) (Nat.le_refl 0) dX5_add_194 ⟨rfl, rfl, K⟩
    by_cases h16 : Int32.toInt x1 < 111 ∨ 119 < Int32.toInt x1
    · exact wp_tableOut 184 dX5_add_10 h16 (by decide) G
    · have hx : Int32.toInt x1 = 113 ∨ Int32.toInt x1 = 114 ∨ Int32.toInt x1 = 115 ∨ Int32.toInt x1 = 117 ∨ Int32.toInt x1 = 118 := by have g0 := lv_neT h4 (a := 111) (by decide); have g1 := lv_neT h7 (a := 112) (by decide); have g2 := lv_neT h10 (a := 116) (by decide); have g3 := lv_neT h13 (a := 119) (by decide); omega
      rcases hx with hx | hx | hx | hx | hx
      · exact wp_tableIn 174 184 dX5_add_10 (by rw [hx]; decide) (by rw [hx]; decide) (by rw [hx]; rfl) (by decide) G
      · exact wp_tableIn 174 184 dX5_add_10 (by rw [hx]; decide) (by rw [hx]; decide) (by rw [hx]; rfl) (by decide) G
      · exact wp_tableIn 174 184 dX5_add_10 (by rw [hx]; decide) (by rw [hx]; decide) (by rw [hx]; rfl) (by decide) G
      · exact wp_tableIn 174 184 dX5_add_10 (by rw [hx]; decide) (by rw [hx]; decide) (by rw [hx]; rfl) (by decide) G
      · exact wp_tableIn 174 184 dX5_add_10 (by rw [hx]; decide) (by rw [hx]; decide) (by rw [hx]; rfl) (by decide) G
  · rw [if_neg h3] at K
    exact wp_vret rfl (Nat.le_refl 0) (Nat.le_refl 0) dX5_add_8 ⟨rfl, rfl, K⟩
theorem eX5_add {E : tp_E} {d : Nat} {Q : tp_M → Prop} {σ : tp_M}   (x1 : Int32) (x2 : Int32) (x3 : Int32) (K : Ci E TC yX5_isFull iX5_isFull d [.ref 28, .int x1] σ (fun v2 σ1 => if v2 = 0 then (if x1 = 111 then (vp_in (σ1 28 5) 4 ∧ (vp_in ((tp_u σ1 34 (Int32.toNatClampNeg (σ1 28 5)) x2) 28 5) 4 ∧ (Q (tp_u (tp_u (tp_u σ1 34 (Int32.toNatClampNeg (σ1 28 5)) x2) 35 (Int32.toNatClampNeg ((tp_u σ1 34 (Int32.toNatClampNeg (σ1 28 5)) x2) 28 5)) x3) 28 5 (((tp_u (tp_u σ1 34 (Int32.toNatClampNeg (σ1 28 5)) x2) 35 (Int32.toNatClampNeg ((tp_u σ1 34 (Int32.toNatClampNeg (σ1 28 5)) x2) 28 5)) x3) 28 5) + 1))))) else (if x1 = 112 then (Cv E TC yX5_join iX5_join d [.ref 28, .int x2, .int x3] σ1 (fun σ8 => Cv E TC yX5_join iX5_join d [.ref 28, .int x3, .int x2] σ8 (fun σ9 => Q (tp_u σ9 28 2 ((σ9 28 2) + 1))))) else (if x1 = 116 then (vp_in (σ1 28 4) 8 ∧ (vp_in ((tp_u σ1 32 (Int32.toNatClampNeg (σ1 28 4)) x2) 28 4) 8 ∧ (Q (tp_u (tp_u (tp_u σ1 32 (Int32.toNatClampNeg (σ1 28 4)) x2) 33 (Int32.toNatClampNeg ((tp_u σ1 32 (Int32.toNatClampNeg (σ1 28 4)) x2) 28 4)) x3) 28 4 (((tp_u (tp_u σ1 32 (Int32.toNatClampNeg (σ1 28 4)) x2) 33 (Int32.toNatClampNeg ((tp_u σ1 32 (Int32.toNatClampNeg (σ1 28 4)) x2) 28 4)) x3) 28 4) + 1))))) else (if x1 = 119 then (vp_in (σ1 28 3) 4 ∧ (vp_in ((tp_u σ1 30 (Int32.toNatClampNeg (σ1 28 3)) x2) 28 3) 4 ∧ (Q (tp_u (tp_u (tp_u σ1 30 (Int32.toNatClampNeg (σ1 28 3)) x2) 31 (Int32.toNatClampNeg ((tp_u σ1 30 (Int32.toNatClampNeg (σ1 28 3)) x2) 28 3)) x3) 28 3 (((tp_u (tp_u σ1 30 (Int32.toNatClampNeg (σ1 28 3)) x2) 31 (Int32.toNatClampNeg ((tp_u σ1 30 (Int32.toNatClampNeg (σ1 28 3)) x2) 28 3)) x3) 28 3) + 1))))) else (Q (tp_u (tp_u σ1 28 0 x2) 28 1 x3)))))) else (Q σ1))) : Cv E TC yX5_add iX5_add (d + 1) [.ref 28, .int x1, .int x2, .int x3] σ Q := Cv.of ⟨by decide +kernel, rfl, rfl⟩ (Nat.le_of_ble_eq_true rfl) (bX5_add_0  x1 x2 x3 K)
theorem bX5_join_0 {E : tp_E} {d : Nat} {Q : tp_M → Prop} {σ : tp_M}   (x1 : Int32) (x2 : Int32) (K : Ci E TC yX5_hasRoom iX5_hasRoom d [.ref 28, .int x1] σ (fun v2 σ1 => if v2 = 0 then (Q σ1) else (vp_in x1 8 ∧ (vp_in x1 8 ∧ (Q (tp_u σ1 29 (Int32.toNatClampNeg x1) ((σ1 29 (Int32.toNatClampNeg x1)) ||| (1 <<< (x2 &&& 31))))))))) : Wv E TC iX5_join (d + 1) Q 0 [(0, .ref 28), (1, .int x1), (2, .int x2)] [] σ := by
  refine wp_aload_n 0 dX5_join_0 rfl rfl rfl ?_
  refine wp_iload_n 1 dX5_join_1 rfl rfl rfl ?_
  refine wn_callVi (As := [.int x1]) (rest := []) 5 kmX5_69 (by decide) rfl rfl (Nat.le_of_ble_eq_true rfl) lC_28 (congrArg Prod.fst gC_28) dX5_join_2 rfl ?_
  refine Ci.mono K (fun v2 σ1 K => ?_)
  refine wp_if_eq 20 dX5_join_5 (by decide) rfl (fun h3 => ?_) (fun h3 => ?_)
  · rw [if_pos h3] at K
    exact wp_vret rfl (Nat.le_refl 0) (Nat.le_refl 0) dX5_join_20 ⟨rfl, rfl, K⟩
  · rw [if_neg h3] at K
    refine wp_aload_n 0 dX5_join_8 rfl rfl rfl ?_
    refine wp_getR 5 6 kcX5 kfX5_9 rfl lC_28 (congrArg Prod.fst gC_28) rC_28_6 dX5_join_9 rfl ?_
    refine wp_iload_n 1 dX5_join_12 rfl rfl rfl ?_
    refine wp_dup2 dX5_join_13 rfl rfl rfl ?_
    obtain ⟨k4, K⟩ := K
    refine wn_iald lC_29 gC_29 k4 dX5_join_14 rfl ?_
    refine wp_iconst (v := 1) dX5_join_15 rfl (by decide) ?_
    refine wp_iload_n 2 dX5_join_16 rfl rfl rfl ?_
    refine wp_ishl dX5_join_17 rfl ?_
    refine wp_ior dX5_join_18 rfl ?_
    obtain ⟨k5, K⟩ := K
    refine wn_iast lC_29 gC_29 k5 dX5_join_19 rfl ?_
    exact wp_vret rfl (Nat.le_refl 0) (Nat.le_refl 0) dX5_join_20 ⟨rfl, rfl, K⟩
theorem eX5_join {E : tp_E} {d : Nat} {Q : tp_M → Prop} {σ : tp_M}   (x1 : Int32) (x2 : Int32) (K : Ci E TC yX5_hasRoom iX5_hasRoom d [.ref 28, .int x1] σ (fun v2 σ1 => if v2 = 0 then (Q σ1) else (vp_in x1 8 ∧ (vp_in x1 8 ∧ (Q (tp_u σ1 29 (Int32.toNatClampNeg x1) ((σ1 29 (Int32.toNatClampNeg x1)) ||| (1 <<< (x2 &&& 31))))))))) : Cv E TC yX5_join iX5_join (d + 1) [.ref 28, .int x1, .int x2] σ Q := Cv.of ⟨by decide +kernel, rfl, rfl⟩ (Nat.le_of_ble_eq_true rfl) (bX5_join_0  x1 x2 K)
theorem bX5_become_0 {E : tp_E} {d : Nat} {Q : tp_M → Prop} {σ : tp_M}    (K : Q (tp_cp (tp_cp (tp_cp (tp_cp (tp_cp (tp_cp (tp_cp (tp_u (tp_u (tp_u (tp_u (tp_u (tp_u σ 1 0 (σ 28 0)) 1 1 ((tp_u σ 1 0 (σ 28 0)) 28 1)) 1 2 ((tp_u (tp_u σ 1 0 (σ 28 0)) 1 1 ((tp_u σ 1 0 (σ 28 0)) 28 1)) 28 2)) 1 3 ((tp_u (tp_u (tp_u σ 1 0 (σ 28 0)) 1 1 ((tp_u σ 1 0 (σ 28 0)) 28 1)) 1 2 ((tp_u (tp_u σ 1 0 (σ 28 0)) 1 1 ((tp_u σ 1 0 (σ 28 0)) 28 1)) 28 2)) 28 3)) 1 4 ((tp_u (tp_u (tp_u (tp_u σ 1 0 (σ 28 0)) 1 1 ((tp_u σ 1 0 (σ 28 0)) 28 1)) 1 2 ((tp_u (tp_u σ 1 0 (σ 28 0)) 1 1 ((tp_u σ 1 0 (σ 28 0)) 28 1)) 28 2)) 1 3 ((tp_u (tp_u (tp_u σ 1 0 (σ 28 0)) 1 1 ((tp_u σ 1 0 (σ 28 0)) 28 1)) 1 2 ((tp_u (tp_u σ 1 0 (σ 28 0)) 1 1 ((tp_u σ 1 0 (σ 28 0)) 28 1)) 28 2)) 28 3)) 28 4)) 1 5 ((tp_u (tp_u (tp_u (tp_u (tp_u σ 1 0 (σ 28 0)) 1 1 ((tp_u σ 1 0 (σ 28 0)) 28 1)) 1 2 ((tp_u (tp_u σ 1 0 (σ 28 0)) 1 1 ((tp_u σ 1 0 (σ 28 0)) 28 1)) 28 2)) 1 3 ((tp_u (tp_u (tp_u σ 1 0 (σ 28 0)) 1 1 ((tp_u σ 1 0 (σ 28 0)) 28 1)) 1 2 ((tp_u (tp_u σ 1 0 (σ 28 0)) 1 1 ((tp_u σ 1 0 (σ 28 0)) 28 1)) 28 2)) 28 3)) 1 4 ((tp_u (tp_u (tp_u (tp_u σ 1 0 (σ 28 0)) 1 1 ((tp_u σ 1 0 (σ 28 0)) 28 1)) 1 2 ((tp_u (tp_u σ 1 0 (σ 28 0)) 1 1 ((tp_u σ 1 0 (σ 28 0)) 28 1)) 28 2)) 1 3 ((tp_u (tp_u (tp_u σ 1 0 (σ 28 0)) 1 1 ((tp_u σ 1 0 (σ 28 0)) 28 1)) 1 2 ((tp_u (tp_u σ 1 0 (σ 28 0)) 1 1 ((tp_u σ 1 0 (σ 28 0)) 28 1)) 28 2)) 28 3)) 28 4)) 28 5)) 29 2 (Int32.toNatClampNeg 0) (Int32.toNatClampNeg 0) (Int32.toNatClampNeg 8)) 30 3 (Int32.toNatClampNeg 0) (Int32.toNatClampNeg 0) (Int32.toNatClampNeg 4)) 31 4 (Int32.toNatClampNeg 0) (Int32.toNatClampNeg 0) (Int32.toNatClampNeg 4)) 32 5 (Int32.toNatClampNeg 0) (Int32.toNatClampNeg 0) (Int32.toNatClampNeg 8)) 33 6 (Int32.toNatClampNeg 0) (Int32.toNatClampNeg 0) (Int32.toNatClampNeg 8)) 34 7 (Int32.toNatClampNeg 0) (Int32.toNatClampNeg 0) (Int32.toNatClampNeg 4)) 35 8 (Int32.toNatClampNeg 0) (Int32.toNatClampNeg 0) (Int32.toNatClampNeg 4))) : Wv E TC iX5_become (d + 1) Q 0 [(0, .ref 1), (1, .ref 28)] [] σ := by
  refine wp_aload_n 0 dX5_become_0 rfl rfl rfl ?_
  refine wp_aload_n 1 dX5_become_1 rfl rfl rfl ?_
  refine wp_getI 5 0 kcX5 kfX5_33 rfl lC_28 (congrArg Prod.fst gC_28) dX5_become_2 rfl ?_
  refine wp_putI 5 0 kcX5 kfX5_33 rfl rfl rfl rfl lC_1 (congrArg Prod.fst gC_1) dX5_become_5 rfl ?_
  refine wp_aload_n 0 dX5_become_8 rfl rfl rfl ?_
  refine wp_aload_n 1 dX5_become_9 rfl rfl rfl ?_
  refine wp_getI 5 1 kcX5 kfX5_37 rfl lC_28 (congrArg Prod.fst gC_28) dX5_become_10 rfl ?_
  refine wp_putI 5 1 kcX5 kfX5_37 rfl rfl rfl rfl lC_1 (congrArg Prod.fst gC_1) dX5_become_13 rfl ?_
  refine wp_aload_n 0 dX5_become_16 rfl rfl rfl ?_
  refine wp_aload_n 1 dX5_become_17 rfl rfl rfl ?_
  refine wp_getI 5 2 kcX5 kfX5_40 rfl lC_28 (congrArg Prod.fst gC_28) dX5_become_18 rfl ?_
  refine wp_putI 5 2 kcX5 kfX5_40 rfl rfl rfl rfl lC_1 (congrArg Prod.fst gC_1) dX5_become_21 rfl ?_
  refine wp_aload_n 0 dX5_become_24 rfl rfl rfl ?_
  refine wp_aload_n 1 dX5_become_25 rfl rfl rfl ?_
  refine wp_getI 5 3 kcX5 kfX5_43 rfl lC_28 (congrArg Prod.fst gC_28) dX5_become_26 rfl ?_
  refine wp_putI 5 3 kcX5 kfX5_43 rfl rfl rfl rfl lC_1 (congrArg Prod.fst gC_1) dX5_become_29 rfl ?_
  refine wp_aload_n 0 dX5_become_32 rfl rfl rfl ?_
  refine wp_aload_n 1 dX5_become_33 rfl rfl rfl ?_
  refine wp_getI 5 4 kcX5 kfX5_46 rfl lC_28 (congrArg Prod.fst gC_28) dX5_become_34 rfl ?_
  refine wp_putI 5 4 kcX5 kfX5_46 rfl rfl rfl rfl lC_1 (congrArg Prod.fst gC_1) dX5_become_37 rfl ?_
  refine wp_aload_n 0 dX5_become_40 rfl rfl rfl ?_
  refine wp_aload_n 1 dX5_become_41 rfl rfl rfl ?_
  refine wp_getI 5 5 kcX5 kfX5_49 rfl lC_28 (congrArg Prod.fst gC_28) dX5_become_42 rfl ?_
  refine wp_putI 5 5 kcX5 kfX5_49 rfl rfl rfl rfl lC_1 (congrArg Prod.fst gC_1) dX5_become_45 rfl ?_
  refine wp_aload_n 1 dX5_become_48 rfl rfl rfl ?_
  refine wp_getR 5 6 kcX5 kfX5_9 rfl lC_28 (congrArg Prod.fst gC_28) rC_28_6 dX5_become_49 rfl ?_
  refine wp_iconst (v := 0) dX5_become_52 rfl (by decide) ?_
  refine wp_aload_n 0 dX5_become_53 rfl rfl rfl ?_
  refine wp_getR 5 6 kcX5 kfX5_9 rfl lC_1 (congrArg Prod.fst gC_1) rC_1_6 dX5_become_54 rfl ?_
  refine wp_iconst (v := 0) dX5_become_57 rfl (by decide) ?_
  refine wp_bipush (v := 8) dX5_become_58 rfl (by decide) ?_
  refine wn_copy tw_471 tw_473 tw_472 tw_50 (Nat.le_of_ble_eq_true rfl) lC_29 (congrArg Prod.fst gC_29) lC_2 (congrArg Prod.fst gC_2) (by decide) (by decide) (by decide) (by rw [gC_29]; decide) (by rw [gC_2]; decide) dX5_become_60 rfl ?_
  refine wp_aload_n 1 dX5_become_63 rfl rfl rfl ?_
  refine wp_getR 5 7 kcX5 kfX5_15 rfl lC_28 (congrArg Prod.fst gC_28) rC_28_7 dX5_become_64 rfl ?_
  refine wp_iconst (v := 0) dX5_become_67 rfl (by decide) ?_
  refine wp_aload_n 0 dX5_become_68 rfl rfl rfl ?_
  refine wp_getR 5 7 kcX5 kfX5_15 rfl lC_1 (congrArg Prod.fst gC_1) rC_1_7 dX5_become_69 rfl ?_
  refine wp_iconst (v := 0) dX5_become_72 rfl (by decide) ?_
  refine wp_iconst (v := 4) dX5_become_73 rfl (by decide) ?_
  refine wn_copy tw_471 tw_473 tw_472 tw_50 (Nat.le_of_ble_eq_true rfl) lC_30 (congrArg Prod.fst gC_30) lC_3 (congrArg Prod.fst gC_3) (by decide) (by decide) (by decide) (by rw [gC_30]; decide) (by rw [gC_3]; decide) dX5_become_74 rfl ?_
  refine wp_aload_n 1 dX5_become_77 rfl rfl rfl ?_
  refine wp_getR 5 8 kcX5 kfX5_18 rfl lC_28 (congrArg Prod.fst gC_28) rC_28_8 dX5_become_78 rfl ?_
  refine wp_iconst (v := 0) dX5_become_81 rfl (by decide) ?_
  refine wp_aload_n 0 dX5_become_82 rfl rfl rfl ?_
  refine wp_getR 5 8 kcX5 kfX5_18 rfl lC_1 (congrArg Prod.fst gC_1) rC_1_8 dX5_become_83 rfl ?_
  refine wp_iconst (v := 0) dX5_become_86 rfl (by decide) ?_
  refine wp_iconst (v := 4) dX5_become_87 rfl (by decide) ?_
  refine wn_copy tw_471 tw_473 tw_472 tw_50 (Nat.le_of_ble_eq_true rfl) lC_31 (congrArg Prod.fst gC_31) lC_4 (congrArg Prod.fst gC_4) (by decide) (by decide) (by decide) (by rw [gC_31]; decide) (by rw [gC_4]; decide) dX5_become_88 rfl ?_
  refine wp_aload_n 1 dX5_become_91 rfl rfl rfl ?_
  refine wp_getR 5 9 kcX5 kfX5_21 rfl lC_28 (congrArg Prod.fst gC_28) rC_28_9 dX5_become_92 rfl ?_
  refine wp_iconst (v := 0) dX5_become_95 rfl (by decide) ?_
  refine wp_aload_n 0 dX5_become_96 rfl rfl rfl ?_
  refine wp_getR 5 9 kcX5 kfX5_21 rfl lC_1 (congrArg Prod.fst gC_1) rC_1_9 dX5_become_97 rfl ?_
  refine wp_iconst (v := 0) dX5_become_100 rfl (by decide) ?_
  refine wp_bipush (v := 8) dX5_become_101 rfl (by decide) ?_
  refine wn_copy tw_471 tw_473 tw_472 tw_50 (Nat.le_of_ble_eq_true rfl) lC_32 (congrArg Prod.fst gC_32) lC_5 (congrArg Prod.fst gC_5) (by decide) (by decide) (by decide) (by rw [gC_32]; decide) (by rw [gC_5]; decide) dX5_become_103 rfl ?_
  refine wp_aload_n 1 dX5_become_106 rfl rfl rfl ?_
  refine wp_getR 5 10 kcX5 kfX5_24 rfl lC_28 (congrArg Prod.fst gC_28) rC_28_10 dX5_become_107 rfl ?_
  refine wp_iconst (v := 0) dX5_become_110 rfl (by decide) ?_
  refine wp_aload_n 0 dX5_become_111 rfl rfl rfl ?_
  refine wp_getR 5 10 kcX5 kfX5_24 rfl lC_1 (congrArg Prod.fst gC_1) rC_1_10 dX5_become_112 rfl ?_
  refine wp_iconst (v := 0) dX5_become_115 rfl (by decide) ?_
  refine wp_bipush (v := 8) dX5_become_116 rfl (by decide) ?_
  refine wn_copy tw_471 tw_473 tw_472 tw_50 (Nat.le_of_ble_eq_true rfl) lC_33 (congrArg Prod.fst gC_33) lC_6 (congrArg Prod.fst gC_6) (by decide) (by decide) (by decide) (by rw [gC_33]; decide) (by rw [gC_6]; decide) dX5_become_118 rfl ?_
  refine wp_aload_n 1 dX5_become_121 rfl rfl rfl ?_
  refine wp_getR 5 11 kcX5 kfX5_27 rfl lC_28 (congrArg Prod.fst gC_28) rC_28_11 dX5_become_122 rfl ?_
  refine wp_iconst (v := 0) dX5_become_125 rfl (by decide) ?_
  refine wp_aload_n 0 dX5_become_126 rfl rfl rfl ?_
  refine wp_getR 5 11 kcX5 kfX5_27 rfl lC_1 (congrArg Prod.fst gC_1) rC_1_11 dX5_become_127 rfl ?_
  refine wp_iconst (v := 0) dX5_become_130 rfl (by decide) ?_
  refine wp_iconst (v := 4) dX5_become_131 rfl (by decide) ?_
  refine wn_copy tw_471 tw_473 tw_472 tw_50 (Nat.le_of_ble_eq_true rfl) lC_34 (congrArg Prod.fst gC_34) lC_7 (congrArg Prod.fst gC_7) (by decide) (by decide) (by decide) (by rw [gC_34]; decide) (by rw [gC_7]; decide) dX5_become_132 rfl ?_
  refine wp_aload_n 1 dX5_become_135 rfl rfl rfl ?_
  refine wp_getR 5 12 kcX5 kfX5_30 rfl lC_28 (congrArg Prod.fst gC_28) rC_28_12 dX5_become_136 rfl ?_
  refine wp_iconst (v := 0) dX5_become_139 rfl (by decide) ?_
  refine wp_aload_n 0 dX5_become_140 rfl rfl rfl ?_
  refine wp_getR 5 12 kcX5 kfX5_30 rfl lC_1 (congrArg Prod.fst gC_1) rC_1_12 dX5_become_141 rfl ?_
  refine wp_iconst (v := 0) dX5_become_144 rfl (by decide) ?_
  refine wp_iconst (v := 4) dX5_become_145 rfl (by decide) ?_
  refine wn_copy tw_471 tw_473 tw_472 tw_50 (Nat.le_of_ble_eq_true rfl) lC_35 (congrArg Prod.fst gC_35) lC_8 (congrArg Prod.fst gC_8) (by decide) (by decide) (by decide) (by rw [gC_35]; decide) (by rw [gC_8]; decide) dX5_become_146 rfl ?_
  exact wp_vret rfl (Nat.le_refl 0) (Nat.le_refl 0) dX5_become_149 ⟨rfl, rfl, K⟩
theorem eX5_become {E : tp_E} {d : Nat} {Q : tp_M → Prop} {σ : tp_M}    (K : Q (tp_cp (tp_cp (tp_cp (tp_cp (tp_cp (tp_cp (tp_cp (tp_u (tp_u (tp_u (tp_u (tp_u (tp_u σ 1 0 (σ 28 0)) 1 1 ((tp_u σ 1 0 (σ 28 0)) 28 1)) 1 2 ((tp_u (tp_u σ 1 0 (σ 28 0)) 1 1 ((tp_u σ 1 0 (σ 28 0)) 28 1)) 28 2)) 1 3 ((tp_u (tp_u (tp_u σ 1 0 (σ 28 0)) 1 1 ((tp_u σ 1 0 (σ 28 0)) 28 1)) 1 2 ((tp_u (tp_u σ 1 0 (σ 28 0)) 1 1 ((tp_u σ 1 0 (σ 28 0)) 28 1)) 28 2)) 28 3)) 1 4 ((tp_u (tp_u (tp_u (tp_u σ 1 0 (σ 28 0)) 1 1 ((tp_u σ 1 0 (σ 28 0)) 28 1)) 1 2 ((tp_u (tp_u σ 1 0 (σ 28 0)) 1 1 ((tp_u σ 1 0 (σ 28 0)) 28 1)) 28 2)) 1 3 ((tp_u (tp_u (tp_u σ 1 0 (σ 28 0)) 1 1 ((tp_u σ 1 0 (σ 28 0)) 28 1)) 1 2 ((tp_u (tp_u σ 1 0 (σ 28 0)) 1 1 ((tp_u σ 1 0 (σ 28 0)) 28 1)) 28 2)) 28 3)) 28 4)) 1 5 ((tp_u (tp_u (tp_u (tp_u (tp_u σ 1 0 (σ 28 0)) 1 1 ((tp_u σ 1 0 (σ 28 0)) 28 1)) 1 2 ((tp_u (tp_u σ 1 0 (σ 28 0)) 1 1 ((tp_u σ 1 0 (σ 28 0)) 28 1)) 28 2)) 1 3 ((tp_u (tp_u (tp_u σ 1 0 (σ 28 0)) 1 1 ((tp_u σ 1 0 (σ 28 0)) 28 1)) 1 2 ((tp_u (tp_u σ 1 0 (σ 28 0)) 1 1 ((tp_u σ 1 0 (σ 28 0)) 28 1)) 28 2)) 28 3)) 1 4 ((tp_u (tp_u (tp_u (tp_u σ 1 0 (σ 28 0)) 1 1 ((tp_u σ 1 0 (σ 28 0)) 28 1)) 1 2 ((tp_u (tp_u σ 1 0 (σ 28 0)) 1 1 ((tp_u σ 1 0 (σ 28 0)) 28 1)) 28 2)) 1 3 ((tp_u (tp_u (tp_u σ 1 0 (σ 28 0)) 1 1 ((tp_u σ 1 0 (σ 28 0)) 28 1)) 1 2 ((tp_u (tp_u σ 1 0 (σ 28 0)) 1 1 ((tp_u σ 1 0 (σ 28 0)) 28 1)) 28 2)) 28 3)) 28 4)) 28 5)) 29 2 (Int32.toNatClampNeg 0) (Int32.toNatClampNeg 0) (Int32.toNatClampNeg 8)) 30 3 (Int32.toNatClampNeg 0) (Int32.toNatClampNeg 0) (Int32.toNatClampNeg 4)) 31 4 (Int32.toNatClampNeg 0) (Int32.toNatClampNeg 0) (Int32.toNatClampNeg 4)) 32 5 (Int32.toNatClampNeg 0) (Int32.toNatClampNeg 0) (Int32.toNatClampNeg 8)) 33 6 (Int32.toNatClampNeg 0) (Int32.toNatClampNeg 0) (Int32.toNatClampNeg 8)) 34 7 (Int32.toNatClampNeg 0) (Int32.toNatClampNeg 0) (Int32.toNatClampNeg 4)) 35 8 (Int32.toNatClampNeg 0) (Int32.toNatClampNeg 0) (Int32.toNatClampNeg 4))) : Cv E TC yX5_become iX5_become (d + 1) [.ref 1, .ref 28] σ Q := Cv.of ⟨by decide +kernel, rfl, rfl⟩ (Nat.le_of_ble_eq_true rfl) (bX5_become_0   K)
theorem bX5_sumOf_0 {E : tp_E} {d : Nat} {Q : Int32 → tp_M → Prop} {σ : tp_M} (a : Nat) (hl_a : a < TC.1) (hg_a : TC.2.1 a = (11, 8)) (x1 : Int32) (K : Wi E TC iX5_sumOf (d + 1) Q 4 [(0, .ref a), (1, .int x1), (2, .int 0), (3, .int 0)] [] σ) : Wi E TC iX5_sumOf (d + 1) Q 0 [(0, .ref a), (1, .int x1)] [] σ := by
  refine wp_iconst (v := 0) dX5_sumOf_0 rfl (by decide) ?_
  refine wp_istore_n [1, 2, 0] dX5_sumOf_1 rfl rfl (by decide) rfl ?_
  show WP _ _ _ _ _ _ _ 2 [(0, .ref a), (1, .int x1), (2, .int 0)] _ _ _
  refine wp_iconst (v := 0) dX5_sumOf_2 rfl (by decide) ?_
  refine wp_istore_n [1, 2, 3, 0] dX5_sumOf_3 rfl rfl (by decide) rfl ?_
  show WP _ _ _ _ _ _ _ 4 [(0, .ref a), (1, .int x1), (2, .int 0), (3, .int 0)] _ _ _
  exact K
theorem eX5_sumOf {E : tp_E} {d : Nat} {Q : Int32 → tp_M → Prop} {σ : tp_M} (a : Nat) (hl_a : a < TC.1) (hg_a : TC.2.1 a = (11, 8)) (x1 : Int32) (K : Wi E TC iX5_sumOf (d + 1) Q 4 [(0, .ref a), (1, .int x1), (2, .int 0), (3, .int 0)] [] σ) : Ci E TC yX5_sumOf iX5_sumOf (d + 1) [.ref a, .int x1] σ Q := Ci.of ⟨by decide +kernel, rfl, rfl⟩ (Nat.le_of_ble_eq_true rfl) (bX5_sumOf_0 a hl_a hg_a x1 K)
theorem bX5_sumOf_4 {E : tp_E} {d : Nat} {Q : Int32 → tp_M → Prop} {σ : tp_M} (a : Nat) (hl_a : a < TC.1) (hg_a : TC.2.1 a = (11, 8)) (x1 : Int32) (x2 : Int32) (x3 : Int32) (K : if 8 ≤ x3 then (Q x2 σ) else (Ci E TC yX9_has iX9_has d [.int x1, .int x3] σ (fun v3 σ2 => if v3 = 0 then (Wi E TC iX5_sumOf (d + 1) Q 4 [(0, .ref a), (1, .int x1), (2, .int x2), (3, .int (x3 + 1))] [] σ2) else (vp_in x3 8 ∧ (Wi E TC iX5_sumOf (d + 1) Q 4 [(0, .ref a), (1, .int x1), (2, .int (x2 + (σ2 a (Int32.toNatClampNeg x3)))), (3, .int (x3 + 1))] [] σ2))))) : Wi E TC iX5_sumOf (d + 1) Q 4 [(0, .ref a), (1, .int x1), (2, .int x2), (3, .int x3)] [] σ := by
  refine wp_iload_n 3 dX5_sumOf_4 rfl rfl rfl ?_
  refine wp_aload_n 0 dX5_sumOf_5 rfl rfl rfl ?_
  refine wp_alen (v := 8) 0 (by decide) hl_a hg_a rfl dX5_sumOf_6 rfl ?_
  refine wp_icmp_ge 30 dX5_sumOf_7 (by decide) rfl (fun h1 => ?_) (fun h1 => ?_)
  · rw [if_pos h1] at K
    refine wp_iload_n 2 dX5_sumOf_30 rfl rfl rfl ?_
    exact wp_ret .int rfl rfl (Nat.le_refl 0) (Nat.le_refl 0) dX5_sumOf_31 ⟨rfl, _, rfl, K⟩
  · rw [if_neg h1] at K
    refine wp_iload_n 1 dX5_sumOf_10 rfl rfl rfl ?_
    refine wp_iload_n 3 dX5_sumOf_11 rfl rfl rfl ?_
    refine wn_callNi (As := [.int x1, .int x3]) (rest := []) kmX5_72 (by decide) rfl rfl (Nat.le_of_ble_eq_true rfl) dX5_sumOf_12 rfl ?_
    refine Ci.mono K (fun v3 σ2 K => ?_)
    refine wp_if_eq 24 dX5_sumOf_15 (by decide) rfl (fun h4 => ?_) (fun h4 => ?_)
    · rw [if_pos h4] at K
      refine wp_iinc (v := x3 + 1) 3 [1, 2, 3, 0] dX5_sumOf_24 rfl (by decide) rfl rfl rfl ?_
      show WP _ _ _ _ _ _ _ 27 [(0, .ref a), (1, .int x1), (2, .int x2), (3, .int (x3 + 1))] _ _ _
      refine wp_goto 4 dX5_sumOf_27 (by decide) ?_
      exact K
    · rw [if_neg h4] at K
      refine wp_iload_n 2 dX5_sumOf_18 rfl rfl rfl ?_
      refine wp_aload_n 0 dX5_sumOf_19 rfl rfl rfl ?_
      refine wp_iload_n 3 dX5_sumOf_20 rfl rfl rfl ?_
      obtain ⟨k5, K⟩ := K
      refine wn_iald hl_a hg_a k5 dX5_sumOf_21 rfl ?_
      refine wp_iadd dX5_sumOf_22 rfl ?_
      refine wp_istore_n [1, 2, 0, 3] dX5_sumOf_23 rfl rfl (by decide) rfl ?_
      show WP _ _ _ _ _ _ _ 24 [(0, .ref a), (1, .int x1), (2, .int (x2 + (σ2 a (Int32.toNatClampNeg x3)))), (3, .int x3)] _ _ _
      refine wp_iinc (v := x3 + 1) 3 [1, 2, 3, 0] dX5_sumOf_24 rfl (by decide) rfl rfl rfl ?_
      show WP _ _ _ _ _ _ _ 27 [(0, .ref a), (1, .int x1), (2, .int (x2 + (σ2 a (Int32.toNatClampNeg x3)))), (3, .int (x3 + 1))] _ _ _
      refine wp_goto 4 dX5_sumOf_27 (by decide) ?_
      exact K
theorem bX5_worthOf_0 {E : tp_E} {d : Nat} {Q : Int32 → tp_M → Prop} {σ : tp_M}   (x1 : Int32) (K : Ci E TC yX5_sumOf iX5_sumOf d [.ref 6, .int x1] σ (fun v2 σ1 => Q v2 σ1)) : Wi E TC iX5_worthOf (d + 1) Q 0 [(0, .ref 1), (1, .int x1)] [] σ := by
  refine wp_aload_n 0 dX5_worthOf_0 rfl rfl rfl ?_
  refine wp_getR 5 10 kcX5 kfX5_24 rfl lC_1 (congrArg Prod.fst gC_1) rC_1_10 dX5_worthOf_1 rfl ?_
  refine wp_iload_n 1 dX5_worthOf_4 rfl rfl rfl ?_
  refine wn_callSi (As := [.ref 6, .int x1]) (rest := []) kmX5_87 (by decide) rfl rfl (Nat.le_of_ble_eq_true rfl) dX5_worthOf_5 rfl ?_
  refine Ci.mono K (fun v2 σ1 K => ?_)
  exact wp_ret .int rfl rfl (Nat.le_refl 0) (Nat.le_refl 0) dX5_worthOf_8 ⟨rfl, _, rfl, K⟩
theorem eX5_worthOf {E : tp_E} {d : Nat} {Q : Int32 → tp_M → Prop} {σ : tp_M}   (x1 : Int32) (K : Ci E TC yX5_sumOf iX5_sumOf d [.ref 6, .int x1] σ (fun v2 σ1 => Q v2 σ1)) : Ci E TC yX5_worthOf iX5_worthOf (d + 1) [.ref 1, .int x1] σ Q := Ci.of ⟨by decide +kernel, rfl, rfl⟩ (Nat.le_of_ble_eq_true rfl) (bX5_worthOf_0  x1 K)
theorem bX5_hasWaiter_0 {E : tp_E} {d : Nat} {Q : Int32 → tp_M → Prop} {σ : tp_M}   (x1 : Int32) (K : if x1 < 0 then (Q 0 σ) else (if (σ 1 3) ≤ x1 then (Q 0 σ) else (if 4 ≤ x1 then (Q 0 σ) else (Q 1 σ)))) : Wi E TC iX5_hasWaiter d Q 0 [(0, .ref 1), (1, .int x1)] [] σ := by
  refine wp_iload_n 1 dX5_hasWaiter_0 rfl rfl rfl ?_
  refine wp_if_lt 21 dX5_hasWaiter_1 (by decide) rfl (fun h1 => ?_) (fun h1 => ?_)
  · rw [if_pos h1] at K
    refine wp_iconst (v := 0) dX5_hasWaiter_21 rfl (by decide) ?_
    exact wp_ret .boolean rfl rfl (Nat.le_refl 0) (Nat.le_refl 0) dX5_hasWaiter_22 ⟨rfl, _, rfl, K⟩
  · rw [if_neg h1] at K
    refine wp_iload_n 1 dX5_hasWaiter_4 rfl rfl rfl ?_
    refine wp_aload_n 0 dX5_hasWaiter_5 rfl rfl rfl ?_
    refine wp_getI 5 3 kcX5 kfX5_43 rfl lC_1 (congrArg Prod.fst gC_1) dX5_hasWaiter_6 rfl ?_
    refine wp_icmp_ge 21 dX5_hasWaiter_9 (by decide) rfl (fun h2 => ?_) (fun h2 => ?_)
    · rw [if_pos h2] at K
      refine wp_iconst (v := 0) dX5_hasWaiter_21 rfl (by decide) ?_
      exact wp_ret .boolean rfl rfl (Nat.le_refl 0) (Nat.le_refl 0) dX5_hasWaiter_22 ⟨rfl, _, rfl, K⟩
    · rw [if_neg h2] at K
      refine wp_iload_n 1 dX5_hasWaiter_12 rfl rfl rfl ?_
      refine wp_iconst (v := 4) dX5_hasWaiter_13 rfl (by decide) ?_
      refine wp_icmp_ge 21 dX5_hasWaiter_14 (by decide) rfl (fun h3 => ?_) (fun h3 => ?_)
      · rw [if_pos h3] at K
        refine wp_iconst (v := 0) dX5_hasWaiter_21 rfl (by decide) ?_
        exact wp_ret .boolean rfl rfl (Nat.le_refl 0) (Nat.le_refl 0) dX5_hasWaiter_22 ⟨rfl, _, rfl, K⟩
      · rw [if_neg h3] at K
        refine wp_iconst (v := 1) dX5_hasWaiter_17 rfl (by decide) ?_
        refine wp_goto 22 dX5_hasWaiter_18 (by decide) ?_
        exact wp_ret .boolean rfl rfl (Nat.le_refl 0) (Nat.le_refl 0) dX5_hasWaiter_22 ⟨rfl, _, rfl, K⟩
theorem eX5_hasWaiter {E : tp_E} {d : Nat} {Q : Int32 → tp_M → Prop} {σ : tp_M}   (x1 : Int32) (K : if x1 < 0 then (Q 0 σ) else (if (σ 1 3) ≤ x1 then (Q 0 σ) else (if 4 ≤ x1 then (Q 0 σ) else (Q 1 σ)))) : Ci E TC yX5_hasWaiter iX5_hasWaiter d [.ref 1, .int x1] σ Q := Ci.of ⟨by decide +kernel, rfl, rfl⟩ (Nat.le_of_ble_eq_true rfl) (bX5_hasWaiter_0  x1 K)
theorem bX5_weightOf_0 {E : tp_E} {d : Nat} {Q : Int32 → tp_M → Prop} {σ : tp_M}   (x1 : Int32) (K : Ci E TC yX5_sumOf iX5_sumOf d [.ref 5, .int x1] σ (fun v2 σ1 => Q v2 σ1)) : Wi E TC iX5_weightOf (d + 1) Q 0 [(0, .ref 1), (1, .int x1)] [] σ := by
  refine wp_aload_n 0 dX5_weightOf_0 rfl rfl rfl ?_
  refine wp_getR 5 9 kcX5 kfX5_21 rfl lC_1 (congrArg Prod.fst gC_1) rC_1_9 dX5_weightOf_1 rfl ?_
  refine wp_iload_n 1 dX5_weightOf_4 rfl rfl rfl ?_
  refine wn_callSi (As := [.ref 5, .int x1]) (rest := []) kmX5_87 (by decide) rfl rfl (Nat.le_of_ble_eq_true rfl) dX5_weightOf_5 rfl ?_
  refine Ci.mono K (fun v2 σ1 K => ?_)
  exact wp_ret .int rfl rfl (Nat.le_refl 0) (Nat.le_refl 0) dX5_weightOf_8 ⟨rfl, _, rfl, K⟩
theorem eX5_weightOf {E : tp_E} {d : Nat} {Q : Int32 → tp_M → Prop} {σ : tp_M}   (x1 : Int32) (K : Ci E TC yX5_sumOf iX5_sumOf d [.ref 5, .int x1] σ (fun v2 σ1 => Q v2 σ1)) : Ci E TC yX5_weightOf iX5_weightOf (d + 1) [.ref 1, .int x1] σ Q := Ci.of ⟨by decide +kernel, rfl, rfl⟩ (Nat.le_of_ble_eq_true rfl) (bX5_weightOf_0  x1 K)
theorem bX5_difference_0 {E : tp_E} {d : Nat} {Q : Int32 → tp_M → Prop} {σ : tp_M}   (x1 : Int32) (x2 : Int32) (K : Ci E TC yX5_weightOf iX5_weightOf d [.ref 1, .int x2] σ (fun v2 σ1 => Ci E TC yX5_weightOf iX5_weightOf d [.ref 1, .int (x1 &&& (x2 ^^^ (-1)))] σ1 (fun v4 σ3 => Q (if 0 ≤ (v2 - v4) then (v2 - v4) else 0 - (v2 - v4)) σ3))) : Wi E TC iX5_difference (d + 1) Q 0 [(0, .ref 1), (1, .int x1), (2, .int x2)] [] σ := by
  refine wp_aload_n 0 dX5_difference_0 rfl rfl rfl ?_
  refine wp_iload_n 2 dX5_difference_1 rfl rfl rfl ?_
  refine wn_callVi (As := [.int x2]) (rest := []) 5 kmX5_91 (by decide) rfl rfl (Nat.le_of_ble_eq_true rfl) lC_1 (congrArg Prod.fst gC_1) dX5_difference_2 rfl ?_
  refine Ci.mono K (fun v2 σ1 K => ?_)
  refine wp_aload_n 0 dX5_difference_5 rfl rfl rfl ?_
  refine wp_iload_n 1 dX5_difference_6 rfl rfl rfl ?_
  refine wp_iload_n 2 dX5_difference_7 rfl rfl rfl ?_
  refine wp_iconst (v := (-1)) dX5_difference_8 rfl (by decide) ?_
  refine wp_ixor dX5_difference_9 rfl ?_
  refine wp_iand dX5_difference_10 rfl ?_
  refine wn_callVi (As := [.int (x1 &&& (x2 ^^^ (-1)))]) (rest := [.int v2]) 5 kmX5_91 (by decide) rfl rfl (Nat.le_of_ble_eq_true rfl) lC_1 (congrArg Prod.fst gC_1) dX5_difference_11 rfl ?_
  refine Ci.mono K (fun v4 σ3 K => ?_)
  refine wp_isub dX5_difference_14 rfl ?_
  refine wn_abs tw_553 tw_554 tw_51 tw_555 (Nat.le_of_ble_eq_true rfl) dX5_difference_15 rfl ?_
  exact wp_ret .int rfl rfl (Nat.le_refl 0) (Nat.le_refl 0) dX5_difference_18 ⟨rfl, _, rfl, K⟩
theorem eX5_difference {E : tp_E} {d : Nat} {Q : Int32 → tp_M → Prop} {σ : tp_M}   (x1 : Int32) (x2 : Int32) (K : Ci E TC yX5_weightOf iX5_weightOf d [.ref 1, .int x2] σ (fun v2 σ1 => Ci E TC yX5_weightOf iX5_weightOf d [.ref 1, .int (x1 &&& (x2 ^^^ (-1)))] σ1 (fun v4 σ3 => Q (if 0 ≤ (v2 - v4) then (v2 - v4) else 0 - (v2 - v4)) σ3))) : Ci E TC yX5_difference iX5_difference (d + 1) [.ref 1, .int x1, .int x2] σ Q := Ci.of ⟨by decide +kernel, rfl, rfl⟩ (Nat.le_of_ble_eq_true rfl) (bX5_difference_0  x1 x2 K)
theorem bX5_hasThing_0 {E : tp_E} {d : Nat} {Q : Int32 → tp_M → Prop} {σ : tp_M}   (x1 : Int32) (K : if x1 < 0 then (Q 0 σ) else (if (σ 1 4) ≤ x1 then (Q 0 σ) else (if 8 ≤ x1 then (Q 0 σ) else (Q 1 σ)))) : Wi E TC iX5_hasThing d Q 0 [(0, .ref 1), (1, .int x1)] [] σ := by
  refine wp_iload_n 1 dX5_hasThing_0 rfl rfl rfl ?_
  refine wp_if_lt 22 dX5_hasThing_1 (by decide) rfl (fun h1 => ?_) (fun h1 => ?_)
  · rw [if_pos h1] at K
    refine wp_iconst (v := 0) dX5_hasThing_22 rfl (by decide) ?_
    exact wp_ret .boolean rfl rfl (Nat.le_refl 0) (Nat.le_refl 0) dX5_hasThing_23 ⟨rfl, _, rfl, K⟩
  · rw [if_neg h1] at K
    refine wp_iload_n 1 dX5_hasThing_4 rfl rfl rfl ?_
    refine wp_aload_n 0 dX5_hasThing_5 rfl rfl rfl ?_
    refine wp_getI 5 4 kcX5 kfX5_46 rfl lC_1 (congrArg Prod.fst gC_1) dX5_hasThing_6 rfl ?_
    refine wp_icmp_ge 22 dX5_hasThing_9 (by decide) rfl (fun h2 => ?_) (fun h2 => ?_)
    · rw [if_pos h2] at K
      refine wp_iconst (v := 0) dX5_hasThing_22 rfl (by decide) ?_
      exact wp_ret .boolean rfl rfl (Nat.le_refl 0) (Nat.le_refl 0) dX5_hasThing_23 ⟨rfl, _, rfl, K⟩
    · rw [if_neg h2] at K
      refine wp_iload_n 1 dX5_hasThing_12 rfl rfl rfl ?_
      refine wp_bipush (v := 8) dX5_hasThing_13 rfl (by decide) ?_
      refine wp_icmp_ge 22 dX5_hasThing_15 (by decide) rfl (fun h3 => ?_) (fun h3 => ?_)
      · rw [if_pos h3] at K
        refine wp_iconst (v := 0) dX5_hasThing_22 rfl (by decide) ?_
        exact wp_ret .boolean rfl rfl (Nat.le_refl 0) (Nat.le_refl 0) dX5_hasThing_23 ⟨rfl, _, rfl, K⟩
      · rw [if_neg h3] at K
        refine wp_iconst (v := 1) dX5_hasThing_18 rfl (by decide) ?_
        refine wp_goto 23 dX5_hasThing_19 (by decide) ?_
        exact wp_ret .boolean rfl rfl (Nat.le_refl 0) (Nat.le_refl 0) dX5_hasThing_23 ⟨rfl, _, rfl, K⟩
theorem eX5_hasThing {E : tp_E} {d : Nat} {Q : Int32 → tp_M → Prop} {σ : tp_M}   (x1 : Int32) (K : if x1 < 0 then (Q 0 σ) else (if (σ 1 4) ≤ x1 then (Q 0 σ) else (if 8 ≤ x1 then (Q 0 σ) else (Q 1 σ)))) : Ci E TC yX5_hasThing iX5_hasThing d [.ref 1, .int x1] σ Q := Ci.of ⟨by decide +kernel, rfl, rfl⟩ (Nat.le_of_ble_eq_true rfl) (bX5_hasThing_0  x1 K)
theorem bX5_hasTwoWaiters_0 {E : tp_E} {d : Nat} {Q : Int32 → tp_M → Prop} {σ : tp_M}   (x1 : Int32) (x2 : Int32) (K : Ci E TC yX5_hasWaiter iX5_hasWaiter d [.ref 1, .int x1] σ (fun v2 σ1 => if v2 = 0 then (Q 0 σ1) else (Ci E TC yX5_hasWaiter iX5_hasWaiter d [.ref 1, .int x2] σ1 (fun v5 σ4 => if v5 = 0 then (Q 0 σ4) else (if x1 = x2 then (Q 0 σ4) else (Q 1 σ4)))))) : Wi E TC iX5_hasTwoWaiters (d + 1) Q 0 [(0, .ref 1), (1, .int x1), (2, .int x2)] [] σ := by
  refine wp_aload_n 0 dX5_hasTwoWaiters_0 rfl rfl rfl ?_
  refine wp_iload_n 1 dX5_hasTwoWaiters_1 rfl rfl rfl ?_
  refine wn_callVi (As := [.int x1]) (rest := []) 5 kmX5_58 (by decide) rfl rfl (Nat.le_of_ble_eq_true rfl) lC_1 (congrArg Prod.fst gC_1) dX5_hasTwoWaiters_2 rfl ?_
  refine Ci.mono K (fun v2 σ1 K => ?_)
  refine wp_if_eq 25 dX5_hasTwoWaiters_5 (by decide) rfl (fun h3 => ?_) (fun h3 => ?_)
  · rw [if_pos h3] at K
    refine wp_iconst (v := 0) dX5_hasTwoWaiters_25 rfl (by decide) ?_
    exact wp_ret .boolean rfl rfl (Nat.le_refl 0) (Nat.le_refl 0) dX5_hasTwoWaiters_26 ⟨rfl, _, rfl, K⟩
  · rw [if_neg h3] at K
    refine wp_aload_n 0 dX5_hasTwoWaiters_8 rfl rfl rfl ?_
    refine wp_iload_n 2 dX5_hasTwoWaiters_9 rfl rfl rfl ?_
    refine wn_callVi (As := [.int x2]) (rest := []) 5 kmX5_58 (by decide) rfl rfl (Nat.le_of_ble_eq_true rfl) lC_1 (congrArg Prod.fst gC_1) dX5_hasTwoWaiters_10 rfl ?_
    refine Ci.mono K (fun v5 σ4 K => ?_)
    refine wp_if_eq 25 dX5_hasTwoWaiters_13 (by decide) rfl (fun h6 => ?_) (fun h6 => ?_)
    · rw [if_pos h6] at K
      refine wp_iconst (v := 0) dX5_hasTwoWaiters_25 rfl (by decide) ?_
      exact wp_ret .boolean rfl rfl (Nat.le_refl 0) (Nat.le_refl 0) dX5_hasTwoWaiters_26 ⟨rfl, _, rfl, K⟩
    · rw [if_neg h6] at K
      refine wp_iload_n 1 dX5_hasTwoWaiters_16 rfl rfl rfl ?_
      refine wp_iload_n 2 dX5_hasTwoWaiters_17 rfl rfl rfl ?_
      refine wp_icmp_eq 25 dX5_hasTwoWaiters_18 (by decide) rfl (fun h7 => ?_) (fun h7 => ?_)
      · rw [if_pos h7] at K
        refine wp_iconst (v := 0) dX5_hasTwoWaiters_25 rfl (by decide) ?_
        exact wp_ret .boolean rfl rfl (Nat.le_refl 0) (Nat.le_refl 0) dX5_hasTwoWaiters_26 ⟨rfl, _, rfl, K⟩
      · rw [if_neg h7] at K
        refine wp_iconst (v := 1) dX5_hasTwoWaiters_21 rfl (by decide) ?_
        refine wp_goto 26 dX5_hasTwoWaiters_22 (by decide) ?_
        exact wp_ret .boolean rfl rfl (Nat.le_refl 0) (Nat.le_refl 0) dX5_hasTwoWaiters_26 ⟨rfl, _, rfl, K⟩
theorem eX5_hasTwoWaiters {E : tp_E} {d : Nat} {Q : Int32 → tp_M → Prop} {σ : tp_M}   (x1 : Int32) (x2 : Int32) (K : Ci E TC yX5_hasWaiter iX5_hasWaiter d [.ref 1, .int x1] σ (fun v2 σ1 => if v2 = 0 then (Q 0 σ1) else (Ci E TC yX5_hasWaiter iX5_hasWaiter d [.ref 1, .int x2] σ1 (fun v5 σ4 => if v5 = 0 then (Q 0 σ4) else (if x1 = x2 then (Q 0 σ4) else (Q 1 σ4)))))) : Ci E TC yX5_hasTwoWaiters iX5_hasTwoWaiters (d + 1) [.ref 1, .int x1, .int x2] σ Q := Ci.of ⟨by decide +kernel, rfl, rfl⟩ (Nat.le_of_ble_eq_true rfl) (bX5_hasTwoWaiters_0  x1 x2 K)
theorem bX5_heaviestOf_0 {E : tp_E} {d : Nat} {Q : Int32 → tp_M → Prop} {σ : tp_M}   (x1 : Int32) (K : Wi E TC iX5_heaviestOf (d + 1) Q 7 [(0, .ref 1), (1, .int x1), (2, .int (-1)), (3, .int 0), (4, .int 0)] [] σ) : Wi E TC iX5_heaviestOf (d + 1) Q 0 [(0, .ref 1), (1, .int x1)] [] σ := by
  refine wp_iconst (v := (-1)) dX5_heaviestOf_0 rfl (by decide) ?_
  refine wp_istore_n [1, 2, 0] dX5_heaviestOf_1 rfl rfl (by decide) rfl ?_
  show WP _ _ _ _ _ _ _ 2 [(0, .ref 1), (1, .int x1), (2, .int (-1))] _ _ _
  refine wp_iconst (v := 0) dX5_heaviestOf_2 rfl (by decide) ?_
  refine wp_istore_n [1, 2, 3, 0] dX5_heaviestOf_3 rfl rfl (by decide) rfl ?_
  show WP _ _ _ _ _ _ _ 4 [(0, .ref 1), (1, .int x1), (2, .int (-1)), (3, .int 0)] _ _ _
  refine wp_iconst (v := 0) dX5_heaviestOf_4 rfl (by decide) ?_
  refine wp_istore [1, 2, 3, 4, 0] dX5_heaviestOf_5 rfl (by decide) rfl ?_
  show WP _ _ _ _ _ _ _ 7 [(0, .ref 1), (1, .int x1), (2, .int (-1)), (3, .int 0), (4, .int 0)] _ _ _
  exact K
theorem eX5_heaviestOf {E : tp_E} {d : Nat} {Q : Int32 → tp_M → Prop} {σ : tp_M}   (x1 : Int32) (K : Wi E TC iX5_heaviestOf (d + 1) Q 7 [(0, .ref 1), (1, .int x1), (2, .int (-1)), (3, .int 0), (4, .int 0)] [] σ) : Ci E TC yX5_heaviestOf iX5_heaviestOf (d + 1) [.ref 1, .int x1] σ Q := Ci.of ⟨by decide +kernel, rfl, rfl⟩ (Nat.le_of_ble_eq_true rfl) (bX5_heaviestOf_0  x1 K)
theorem bX5_heaviestOf_7 {E : tp_E} {d : Nat} {Q : Int32 → tp_M → Prop} {σ : tp_M}   (x1 : Int32) (x2 : Int32) (x3 : Int32) (x4 : Int32) (K : if 8 ≤ x4 then (Q x2 σ) else (Ci E TC yX9_has iX9_has d [.int x1, .int x4] σ (fun v3 σ2 => if v3 = 0 then (Wi E TC iX5_heaviestOf (d + 1) Q 7 [(0, .ref 1), (1, .int x1), (2, .int x2), (3, .int x3), (4, .int (x4 + 1))] [] σ2) else (vp_in x4 8 ∧ (if (σ2 5 (Int32.toNatClampNeg x4)) ≤ x3 then (Wi E TC iX5_heaviestOf (d + 1) Q 7 [(0, .ref 1), (1, .int x1), (2, .int x2), (3, .int x3), (4, .int (x4 + 1))] [] σ2) else (vp_in x4 8 ∧ (Wi E TC iX5_heaviestOf (d + 1) Q 7 [(0, .ref 1), (1, .int x1), (2, .int x4), (3, .int (σ2 5 (Int32.toNatClampNeg x4))), (4, .int (x4 + 1))] [] σ2))))))) : Wi E TC iX5_heaviestOf (d + 1) Q 7 [(0, .ref 1), (1, .int x1), (2, .int x2), (3, .int x3), (4, .int x4)] [] σ := by
  refine wp_iload 4 dX5_heaviestOf_7 rfl rfl ?_
  refine wp_bipush (v := 8) dX5_heaviestOf_9 rfl (by decide) ?_
  refine wp_icmp_ge 51 dX5_heaviestOf_11 (by decide) rfl (fun h1 => ?_) (fun h1 => ?_)
  · rw [if_pos h1] at K
    refine wp_iload_n 2 dX5_heaviestOf_51 rfl rfl rfl ?_
    exact wp_ret .int rfl rfl (Nat.le_refl 0) (Nat.le_refl 0) dX5_heaviestOf_52 ⟨rfl, _, rfl, K⟩
  · rw [if_neg h1] at K
    refine wp_iload_n 1 dX5_heaviestOf_14 rfl rfl rfl ?_
    refine wp_iload 4 dX5_heaviestOf_15 rfl rfl ?_
    refine wn_callNi (As := [.int x1, .int x4]) (rest := []) kmX5_72 (by decide) rfl rfl (Nat.le_of_ble_eq_true rfl) dX5_heaviestOf_17 rfl ?_
    refine Ci.mono K (fun v3 σ2 K => ?_)
    refine wp_if_eq 45 dX5_heaviestOf_20 (by decide) rfl (fun h4 => ?_) (fun h4 => ?_)
    · rw [if_pos h4] at K
      refine wp_iinc (v := x4 + 1) 4 [1, 2, 3, 4, 0] dX5_heaviestOf_45 rfl (by decide) rfl rfl rfl ?_
      show WP _ _ _ _ _ _ _ 48 [(0, .ref 1), (1, .int x1), (2, .int x2), (3, .int x3), (4, .int (x4 + 1))] _ _ _
      refine wp_goto 7 dX5_heaviestOf_48 (by decide) ?_
      exact K
    · rw [if_neg h4] at K
      refine wp_aload_n 0 dX5_heaviestOf_23 rfl rfl rfl ?_
      refine wp_getR 5 9 kcX5 kfX5_21 rfl lC_1 (congrArg Prod.fst gC_1) rC_1_9 dX5_heaviestOf_24 rfl ?_
      refine wp_iload 4 dX5_heaviestOf_27 rfl rfl ?_
      obtain ⟨k5, K⟩ := K
      refine wn_iald lC_5 gC_5 k5 dX5_heaviestOf_29 rfl ?_
      refine wp_iload_n 3 dX5_heaviestOf_30 rfl rfl rfl ?_
      refine wp_icmp_le 45 dX5_heaviestOf_31 (by decide) rfl (fun h6 => ?_) (fun h6 => ?_)
      · rw [if_pos h6] at K
        refine wp_iinc (v := x4 + 1) 4 [1, 2, 3, 4, 0] dX5_heaviestOf_45 rfl (by decide) rfl rfl rfl ?_
        show WP _ _ _ _ _ _ _ 48 [(0, .ref 1), (1, .int x1), (2, .int x2), (3, .int x3), (4, .int (x4 + 1))] _ _ _
        refine wp_goto 7 dX5_heaviestOf_48 (by decide) ?_
        exact K
      · rw [if_neg h6] at K
        refine wp_iload 4 dX5_heaviestOf_34 rfl rfl ?_
        refine wp_istore_n [1, 2, 0, 3, 4] dX5_heaviestOf_36 rfl rfl (by decide) rfl ?_
        show WP _ _ _ _ _ _ _ 37 [(0, .ref 1), (1, .int x1), (2, .int x4), (3, .int x3), (4, .int x4)] _ _ _
        refine wp_aload_n 0 dX5_heaviestOf_37 rfl rfl rfl ?_
        refine wp_getR 5 9 kcX5 kfX5_21 rfl lC_1 (congrArg Prod.fst gC_1) rC_1_9 dX5_heaviestOf_38 rfl ?_
        refine wp_iload 4 dX5_heaviestOf_41 rfl rfl ?_
        obtain ⟨k7, K⟩ := K
        refine wn_iald lC_5 gC_5 k7 dX5_heaviestOf_43 rfl ?_
        refine wp_istore_n [1, 2, 3, 0, 4] dX5_heaviestOf_44 rfl rfl (by decide) rfl ?_
        show WP _ _ _ _ _ _ _ 45 [(0, .ref 1), (1, .int x1), (2, .int x4), (3, .int (σ2 5 (Int32.toNatClampNeg x4))), (4, .int x4)] _ _ _
        refine wp_iinc (v := x4 + 1) 4 [1, 2, 3, 4, 0] dX5_heaviestOf_45 rfl (by decide) rfl rfl rfl ?_
        show WP _ _ _ _ _ _ _ 48 [(0, .ref 1), (1, .int x1), (2, .int x4), (3, .int (σ2 5 (Int32.toNatClampNeg x4))), (4, .int (x4 + 1))] _ _ _
        refine wp_goto 7 dX5_heaviestOf_48 (by decide) ?_
        exact K
theorem bX5_hasAllRooms_0 {E : tp_E} {d : Nat} {Q : Int32 → tp_M → Prop} {σ : tp_M}   (x1 : Int32) (K : Wi E TC iX5_hasAllRooms (d + 1) Q 4 [(0, .ref 1), (2, .int x1), (3, .int 0)] [] σ) : Wi E TC iX5_hasAllRooms (d + 1) Q 0 [(0, .ref 1), (1, .int x1)] [] σ := by
  refine wp_iload_n 1 dX5_hasAllRooms_0 rfl rfl rfl ?_
  refine wp_istore_n [1, 2, 0] dX5_hasAllRooms_1 rfl rfl (by decide) rfl ?_
  show WP _ _ _ _ _ _ _ 2 [(0, .ref 1), (1, .int x1), (2, .int x1)] _ _ _
  refine wp_iconst (v := 0) dX5_hasAllRooms_2 rfl (by decide) ?_
  refine wp_istore_n [1, 2, 3, 0] dX5_hasAllRooms_3 rfl rfl (by decide) rfl ?_
  show WP _ _ _ _ _ _ _ 4 [(0, .ref 1), (1, .int x1), (2, .int x1), (3, .int 0)] _ _ _
  refine wp_lv [0, 2, 3] rfl ?_
  exact K
theorem eX5_hasAllRooms {E : tp_E} {d : Nat} {Q : Int32 → tp_M → Prop} {σ : tp_M}   (x1 : Int32) (K : Wi E TC iX5_hasAllRooms (d + 1) Q 4 [(0, .ref 1), (2, .int x1), (3, .int 0)] [] σ) : Ci E TC yX5_hasAllRooms iX5_hasAllRooms (d + 1) [.ref 1, .int x1] σ Q := Ci.of ⟨by decide +kernel, rfl, rfl⟩ (Nat.le_of_ble_eq_true rfl) (bX5_hasAllRooms_0  x1 K)
theorem bX5_hasAllRooms_4 {E : tp_E} {d : Nat} {Q : Int32 → tp_M → Prop} {σ : tp_M}   (x2 : Int32) (x3 : Int32) (K : if 9 ≤ x3 then (Q 1 σ) else (if x2 ≤ 0 then (Q 1 σ) else (Ci E TC yX5_hasRoom iX5_hasRoom d [.ref 1, .int ((x2 - x2 / 10 * 10) - 1)] σ (fun v4 σ3 => if v4 = 0 then (Q 0 σ3) else (Wi E TC iX5_hasAllRooms (d + 1) Q 4 [(0, .ref 1), (2, .int (x2 / 10)), (3, .int (x3 + 1))] [] σ3))))) : Wi E TC iX5_hasAllRooms (d + 1) Q 4 [(0, .ref 1), (2, .int x2), (3, .int x3)] [] σ := by
  refine wp_iload_n 2 dX5_hasAllRooms_4 rfl rfl rfl ?_
  refine wp_bipush (v := 9) dX5_hasAllRooms_5 rfl (by decide) ?_
  refine wp_icmp_ge 40 dX5_hasAllRooms_7 (by decide) rfl (fun h1 => ?_) (fun h1 => ?_)
  · rw [if_pos h1] at K
    refine wp_iconst (v := 1) dX5_hasAllRooms_40 rfl (by decide) ?_
    exact wp_ret .boolean rfl rfl (Nat.le_refl 0) (Nat.le_refl 0) dX5_hasAllRooms_41 ⟨rfl, _, rfl, K⟩
  · rw [if_neg h1] at K
    refine wp_iload_n 1 dX5_hasAllRooms_10 rfl rfl rfl ?_
    refine wp_if_le 40 dX5_hasAllRooms_11 (by decide) rfl (fun h2 => ?_) (fun h2 => ?_)
    · rw [if_pos h2] at K
      refine wp_iconst (v := 1) dX5_hasAllRooms_40 rfl (by decide) ?_
      exact wp_ret .boolean rfl rfl (Nat.le_refl 0) (Nat.le_refl 0) dX5_hasAllRooms_41 ⟨rfl, _, rfl, K⟩
    · rw [if_neg h2] at K
      refine wp_aload_n 0 dX5_hasAllRooms_14 rfl rfl rfl ?_
      refine wp_iload_n 1 dX5_hasAllRooms_15 rfl rfl rfl ?_
      refine wp_bipush (v := 10) dX5_hasAllRooms_16 rfl (by decide) ?_
      refine wp_irem dX5_hasAllRooms_18 rfl (by decide) ?_
      refine wp_iconst (v := 1) dX5_hasAllRooms_19 rfl (by decide) ?_
      refine wp_isub dX5_hasAllRooms_20 rfl ?_
      refine wn_callVi (As := [.int ((x2 - x2 / 10 * 10) - 1)]) (rest := []) 5 kmX5_69 (by decide) rfl rfl (Nat.le_of_ble_eq_true rfl) lC_1 (congrArg Prod.fst gC_1) dX5_hasAllRooms_21 rfl ?_
      refine Ci.mono K (fun v4 σ3 K => ?_)
      refine wp_if_ne 29 dX5_hasAllRooms_24 (by decide) rfl (fun h5 => ?_) (fun h5 => ?_)
      · rw [if_neg h5] at K
        refine wp_iload_n 1 dX5_hasAllRooms_29 rfl rfl rfl ?_
        refine wp_bipush (v := 10) dX5_hasAllRooms_30 rfl (by decide) ?_
        refine wp_idiv dX5_hasAllRooms_32 rfl (by decide) ?_
        refine wp_istore_n [1, 0, 2] dX5_hasAllRooms_33 rfl rfl (by decide) rfl ?_
        show WP _ _ _ _ _ _ _ 34 [(0, .ref 1), (2, .int (x2 / 10)), (3, .int x3)] _ _ _
        refine wp_iinc (v := x3 + 1) 2 [1, 2, 0] dX5_hasAllRooms_34 rfl (by decide) rfl rfl rfl ?_
        show WP _ _ _ _ _ _ _ 37 [(0, .ref 1), (2, .int (x2 / 10)), (3, .int (x3 + 1))] _ _ _
        refine wp_goto 4 dX5_hasAllRooms_37 (by decide) ?_
        exact K
      · rw [if_pos h5] at K
        refine wp_iconst (v := 0) dX5_hasAllRooms_27 rfl (by decide) ?_
        exact wp_ret .boolean rfl rfl (Nat.le_refl 0) (Nat.le_refl 0) dX5_hasAllRooms_28 ⟨rfl, _, rfl, K⟩
theorem bX5_canBeGone_0 {E : tp_E} {d : Nat} {Q : Int32 → tp_M → Prop} {σ : tp_M}   (x1 : Int32) (x2 : Int32) (K : Wi E TC iX5_canBeGone (d + 1) Q 8 [(0, .ref 1), (3, .int x1), (4, .int x2), (5, .int 0)] [] σ) : Wi E TC iX5_canBeGone (d + 1) Q 0 [(0, .ref 1), (1, .int x1), (2, .int x2)] [] σ := by
  refine wp_iload_n 1 dX5_canBeGone_0 rfl rfl rfl ?_
  refine wp_istore_n [1, 2, 3, 0] dX5_canBeGone_1 rfl rfl (by decide) rfl ?_
  show WP _ _ _ _ _ _ _ 2 [(0, .ref 1), (1, .int x1), (2, .int x2), (3, .int x1)] _ _ _
  refine wp_iload_n 2 dX5_canBeGone_2 rfl rfl rfl ?_
  refine wp_istore [1, 2, 3, 4, 0] dX5_canBeGone_3 rfl (by decide) rfl ?_
  show WP _ _ _ _ _ _ _ 5 [(0, .ref 1), (1, .int x1), (2, .int x2), (3, .int x1), (4, .int x2)] _ _ _
  refine wp_iconst (v := 0) dX5_canBeGone_5 rfl (by decide) ?_
  refine wp_istore [1, 2, 3, 4, 5, 0] dX5_canBeGone_6 rfl (by decide) rfl ?_
  show WP _ _ _ _ _ _ _ 8 [(0, .ref 1), (1, .int x1), (2, .int x2), (3, .int x1), (4, .int x2), (5, .int 0)] _ _ _
  refine wp_lv [0, 3, 4, 5] rfl ?_
  exact K
theorem eX5_canBeGone {E : tp_E} {d : Nat} {Q : Int32 → tp_M → Prop} {σ : tp_M}   (x1 : Int32) (x2 : Int32) (K : Wi E TC iX5_canBeGone (d + 1) Q 8 [(0, .ref 1), (3, .int x1), (4, .int x2), (5, .int 0)] [] σ) : Ci E TC yX5_canBeGone iX5_canBeGone (d + 1) [.ref 1, .int x1, .int x2] σ Q := Ci.of ⟨by decide +kernel, rfl, rfl⟩ (Nat.le_of_ble_eq_true rfl) (bX5_canBeGone_0  x1 x2 K)
theorem bX5_canBeGone_8 {E : tp_E} {d : Nat} {Q : Int32 → tp_M → Prop} {σ : tp_M}   (x3 : Int32) (x4 : Int32) (x5 : Int32) (K : if 9 ≤ x5 then (Q 1 σ) else (if x4 ≤ 0 then (Q 1 σ) else (Ci E TC yX5_joinedTo iX5_joinedTo d [.ref 1, .int x3] σ (fun v4 σ3 => Ci E TC yX9_has iX9_has d [.int v4, .int ((x4 - x4 / 10 * 10) - 1)] σ3 (fun v6 σ5 => if v6 = 0 then (Q 0 σ5) else (Wi E TC iX5_canBeGone (d + 1) Q 8 [(0, .ref 1), (3, .int ((x4 - x4 / 10 * 10) - 1)), (4, .int (x4 / 10)), (5, .int (x5 + 1))] [] σ5)))))) : Wi E TC iX5_canBeGone (d + 1) Q 8 [(0, .ref 1), (3, .int x3), (4, .int x4), (5, .int x5)] [] σ := by
  refine wp_iload 3 dX5_canBeGone_8 rfl rfl ?_
  refine wp_bipush (v := 9) dX5_canBeGone_10 rfl (by decide) ?_
  refine wp_icmp_ge 60 dX5_canBeGone_12 (by decide) rfl (fun h1 => ?_) (fun h1 => ?_)
  · rw [if_pos h1] at K
    refine wp_iconst (v := 1) dX5_canBeGone_60 rfl (by decide) ?_
    exact wp_ret .boolean rfl rfl (Nat.le_refl 0) (Nat.le_refl 0) dX5_canBeGone_61 ⟨rfl, _, rfl, K⟩
  · rw [if_neg h1] at K
    refine wp_iload 2 dX5_canBeGone_15 rfl rfl ?_
    refine wp_if_le 60 dX5_canBeGone_17 (by decide) rfl (fun h2 => ?_) (fun h2 => ?_)
    · rw [if_pos h2] at K
      refine wp_iconst (v := 1) dX5_canBeGone_60 rfl (by decide) ?_
      exact wp_ret .boolean rfl rfl (Nat.le_refl 0) (Nat.le_refl 0) dX5_canBeGone_61 ⟨rfl, _, rfl, K⟩
    · rw [if_neg h2] at K
      refine wp_iload 2 dX5_canBeGone_20 rfl rfl ?_
      refine wp_bipush (v := 10) dX5_canBeGone_22 rfl (by decide) ?_
      refine wp_irem dX5_canBeGone_24 rfl (by decide) ?_
      refine wp_iconst (v := 1) dX5_canBeGone_25 rfl (by decide) ?_
      refine wp_isub dX5_canBeGone_26 rfl ?_
      refine wp_istore [1, 2, 3, 4, 0] dX5_canBeGone_27 rfl (by decide) rfl ?_
      show WP _ _ _ _ _ _ _ 29 [(0, .ref 1), (3, .int x3), (4, .int x4), (5, .int x5), (6, .int ((x4 - x4 / 10 * 10) - 1))] _ _ _
      refine wp_aload_n 0 dX5_canBeGone_29 rfl rfl rfl ?_
      refine wp_iload_n 1 dX5_canBeGone_30 rfl rfl rfl ?_
      refine wn_callVi (As := [.int x3]) (rest := []) 5 kmX5_76 (by decide) rfl rfl (Nat.le_of_ble_eq_true rfl) lC_1 (congrArg Prod.fst gC_1) dX5_canBeGone_31 rfl ?_
      refine Ci.mono K (fun v4 σ3 K => ?_)
      refine wp_iload 4 dX5_canBeGone_34 rfl rfl ?_
      refine wn_callNi (As := [.int v4, .int ((x4 - x4 / 10 * 10) - 1)]) (rest := []) kmX5_72 (by decide) rfl rfl (Nat.le_of_ble_eq_true rfl) dX5_canBeGone_36 rfl ?_
      refine Ci.mono K (fun v6 σ5 K => ?_)
      refine wp_if_ne 44 dX5_canBeGone_39 (by decide) rfl (fun h7 => ?_) (fun h7 => ?_)
      · rw [if_neg h7] at K
        refine wp_iload 4 dX5_canBeGone_44 rfl rfl ?_
        refine wp_istore_n [1, 0, 2, 3, 4] dX5_canBeGone_46 rfl rfl (by decide) rfl ?_
        show WP _ _ _ _ _ _ _ 47 [(0, .ref 1), (3, .int ((x4 - x4 / 10 * 10) - 1)), (4, .int x4), (5, .int x5), (6, .int ((x4 - x4 / 10 * 10) - 1))] _ _ _
        refine wp_iload 2 dX5_canBeGone_47 rfl rfl ?_
        refine wp_bipush (v := 10) dX5_canBeGone_49 rfl (by decide) ?_
        refine wp_idiv dX5_canBeGone_51 rfl (by decide) ?_
        refine wp_istore [1, 2, 0, 3, 4] dX5_canBeGone_52 rfl (by decide) rfl ?_
        show WP _ _ _ _ _ _ _ 54 [(0, .ref 1), (3, .int ((x4 - x4 / 10 * 10) - 1)), (4, .int (x4 / 10)), (5, .int x5), (6, .int ((x4 - x4 / 10 * 10) - 1))] _ _ _
        refine wp_iinc (v := x5 + 1) 3 [1, 2, 3, 0, 4] dX5_canBeGone_54 rfl (by decide) rfl rfl rfl ?_
        show WP _ _ _ _ _ _ _ 57 [(0, .ref 1), (3, .int ((x4 - x4 / 10 * 10) - 1)), (4, .int (x4 / 10)), (5, .int (x5 + 1)), (6, .int ((x4 - x4 / 10 * 10) - 1))] _ _ _
        refine wp_goto 8 dX5_canBeGone_57 (by decide) ?_
        refine wp_lv [0, 1, 2, 3] rfl ?_
        exact K
      · rw [if_pos h7] at K
        refine wp_iconst (v := 0) dX5_canBeGone_42 rfl (by decide) ?_
        exact wp_ret .boolean rfl rfl (Nat.le_refl 0) (Nat.le_refl 0) dX5_canBeGone_43 ⟨rfl, _, rfl, K⟩
theorem bX5_distance_0 {E : tp_E} {d : Nat} {Q : Int32 → tp_M → Prop} {σ : tp_M}   (x1 : Int32) (x2 : Int32) (K : Wi E TC iX5_distance (d + 1) Q 7 [(0, .ref 1), (2, .int x2), (3, .int (1 <<< (x1 &&& 31))), (4, .int 0)] [] σ) : Wi E TC iX5_distance (d + 1) Q 0 [(0, .ref 1), (1, .int x1), (2, .int x2)] [] σ := by
  refine wp_iconst (v := 1) dX5_distance_0 rfl (by decide) ?_
  refine wp_iload_n 1 dX5_distance_1 rfl rfl rfl ?_
  refine wp_ishl dX5_distance_2 rfl ?_
  refine wp_istore_n [1, 2, 3, 0] dX5_distance_3 rfl rfl (by decide) rfl ?_
  show WP _ _ _ _ _ _ _ 4 [(0, .ref 1), (1, .int x1), (2, .int x2), (3, .int (1 <<< (x1 &&& 31)))] _ _ _
  refine wp_iconst (v := 0) dX5_distance_4 rfl (by decide) ?_
  refine wp_istore [1, 2, 3, 4, 0] dX5_distance_5 rfl (by decide) rfl ?_
  show WP _ _ _ _ _ _ _ 7 [(0, .ref 1), (1, .int x1), (2, .int x2), (3, .int (1 <<< (x1 &&& 31))), (4, .int 0)] _ _ _
  refine wp_lv [0, 2, 3, 4] rfl ?_
  exact K
theorem eX5_distance {E : tp_E} {d : Nat} {Q : Int32 → tp_M → Prop} {σ : tp_M}   (x1 : Int32) (x2 : Int32) (K : Wi E TC iX5_distance (d + 1) Q 7 [(0, .ref 1), (2, .int x2), (3, .int (1 <<< (x1 &&& 31))), (4, .int 0)] [] σ) : Ci E TC yX5_distance iX5_distance (d + 1) [.ref 1, .int x1, .int x2] σ Q := Ci.of ⟨by decide +kernel, rfl, rfl⟩ (Nat.le_of_ble_eq_true rfl) (bX5_distance_0  x1 x2 K)
theorem bX5_distance_7 {E : tp_E} {d : Nat} {Q : Int32 → tp_M → Prop} {σ : tp_M}   (x2 : Int32) (x3 : Int32) (x4 : Int32) (K : if 8 ≤ x4 then (Q (-1) σ) else (Ci E TC yX9_has iX9_has d [.int x3, .int x2] σ (fun v3 σ2 => if v3 = 0 then (Ci E TC yX5_joinedToAny iX5_joinedToAny d [.ref 1, .int x3] σ2 (fun v6 σ5 => Wi E TC iX5_distance (d + 1) Q 7 [(0, .ref 1), (2, .int x2), (3, .int (x3 ||| v6)), (4, .int (x4 + 1))] [] σ5)) else (Q x4 σ2)))) : Wi E TC iX5_distance (d + 1) Q 7 [(0, .ref 1), (2, .int x2), (3, .int x3), (4, .int x4)] [] σ := by
  refine wp_iload 3 dX5_distance_7 rfl rfl ?_
  refine wp_bipush (v := 8) dX5_distance_9 rfl (by decide) ?_
  refine wp_icmp_ge 39 dX5_distance_11 (by decide) rfl (fun h1 => ?_) (fun h1 => ?_)
  · rw [if_pos h1] at K
    refine wp_iconst (v := (-1)) dX5_distance_39 rfl (by decide) ?_
    exact wp_ret .int rfl rfl (Nat.le_refl 0) (Nat.le_refl 0) dX5_distance_40 ⟨rfl, _, rfl, K⟩
  · rw [if_neg h1] at K
    refine wp_iload_n 2 dX5_distance_14 rfl rfl rfl ?_
    refine wp_iload_n 1 dX5_distance_15 rfl rfl rfl ?_
    refine wn_callNi (As := [.int x3, .int x2]) (rest := []) kmX5_72 (by decide) rfl rfl (Nat.le_of_ble_eq_true rfl) dX5_distance_16 rfl ?_
    refine Ci.mono K (fun v3 σ2 K => ?_)
    refine wp_if_eq 25 dX5_distance_19 (by decide) rfl (fun h4 => ?_) (fun h4 => ?_)
    · rw [if_pos h4] at K
      refine wp_iload_n 2 dX5_distance_25 rfl rfl rfl ?_
      refine wp_aload_n 0 dX5_distance_26 rfl rfl rfl ?_
      refine wp_iload_n 2 dX5_distance_27 rfl rfl rfl ?_
      refine wn_callVi (As := [.int x3]) (rest := [.int x3]) 5 kmX5_80 (by decide) rfl rfl (Nat.le_of_ble_eq_true rfl) lC_1 (congrArg Prod.fst gC_1) dX5_distance_28 rfl ?_
      refine Ci.mono K (fun v6 σ5 K => ?_)
      refine wp_ior dX5_distance_31 rfl ?_
      refine wp_istore_n [1, 2, 0, 3] dX5_distance_32 rfl rfl (by decide) rfl ?_
      show WP _ _ _ _ _ _ _ 33 [(0, .ref 1), (2, .int x2), (3, .int (x3 ||| v6)), (4, .int x4)] _ _ _
      refine wp_iinc (v := x4 + 1) 3 [1, 2, 3, 0] dX5_distance_33 rfl (by decide) rfl rfl rfl ?_
      show WP _ _ _ _ _ _ _ 36 [(0, .ref 1), (2, .int x2), (3, .int (x3 ||| v6)), (4, .int (x4 + 1))] _ _ _
      refine wp_goto 7 dX5_distance_36 (by decide) ?_
      exact K
    · rw [if_neg h4] at K
      refine wp_iload 3 dX5_distance_22 rfl rfl ?_
      exact wp_ret .int rfl rfl (Nat.le_refl 0) (Nat.le_refl 0) dX5_distance_24 ⟨rfl, _, rfl, K⟩
theorem bX5_joinedToAny_0 {E : tp_E} {d : Nat} {Q : Int32 → tp_M → Prop} {σ : tp_M}   (x1 : Int32) (K : Wi E TC iX5_joinedToAny (d + 1) Q 4 [(0, .ref 1), (1, .int x1), (2, .int 0), (3, .int 0)] [] σ) : Wi E TC iX5_joinedToAny (d + 1) Q 0 [(0, .ref 1), (1, .int x1)] [] σ := by
  refine wp_iconst (v := 0) dX5_joinedToAny_0 rfl (by decide) ?_
  refine wp_istore_n [1, 2, 0] dX5_joinedToAny_1 rfl rfl (by decide) rfl ?_
  show WP _ _ _ _ _ _ _ 2 [(0, .ref 1), (1, .int x1), (2, .int 0)] _ _ _
  refine wp_iconst (v := 0) dX5_joinedToAny_2 rfl (by decide) ?_
  refine wp_istore_n [1, 2, 3, 0] dX5_joinedToAny_3 rfl rfl (by decide) rfl ?_
  show WP _ _ _ _ _ _ _ 4 [(0, .ref 1), (1, .int x1), (2, .int 0), (3, .int 0)] _ _ _
  exact K
theorem eX5_joinedToAny {E : tp_E} {d : Nat} {Q : Int32 → tp_M → Prop} {σ : tp_M}   (x1 : Int32) (K : Wi E TC iX5_joinedToAny (d + 1) Q 4 [(0, .ref 1), (1, .int x1), (2, .int 0), (3, .int 0)] [] σ) : Ci E TC yX5_joinedToAny iX5_joinedToAny (d + 1) [.ref 1, .int x1] σ Q := Ci.of ⟨by decide +kernel, rfl, rfl⟩ (Nat.le_of_ble_eq_true rfl) (bX5_joinedToAny_0  x1 K)
theorem bX5_joinedToAny_4 {E : tp_E} {d : Nat} {Q : Int32 → tp_M → Prop} {σ : tp_M}   (x1 : Int32) (x2 : Int32) (x3 : Int32) (K : if 8 ≤ x3 then (Q x2 σ) else (Ci E TC yX9_has iX9_has d [.int x1, .int x3] σ (fun v3 σ2 => if v3 = 0 then (Wi E TC iX5_joinedToAny (d + 1) Q 4 [(0, .ref 1), (1, .int x1), (2, .int x2), (3, .int (x3 + 1))] [] σ2) else (vp_in x3 8 ∧ (Wi E TC iX5_joinedToAny (d + 1) Q 4 [(0, .ref 1), (1, .int x1), (2, .int (x2 ||| (σ2 2 (Int32.toNatClampNeg x3)))), (3, .int (x3 + 1))] [] σ2))))) : Wi E TC iX5_joinedToAny (d + 1) Q 4 [(0, .ref 1), (1, .int x1), (2, .int x2), (3, .int x3)] [] σ := by
  refine wp_iload_n 3 dX5_joinedToAny_4 rfl rfl rfl ?_
  refine wp_bipush (v := 8) dX5_joinedToAny_5 rfl (by decide) ?_
  refine wp_icmp_ge 33 dX5_joinedToAny_7 (by decide) rfl (fun h1 => ?_) (fun h1 => ?_)
  · rw [if_pos h1] at K
    refine wp_iload_n 2 dX5_joinedToAny_33 rfl rfl rfl ?_
    exact wp_ret .int rfl rfl (Nat.le_refl 0) (Nat.le_refl 0) dX5_joinedToAny_34 ⟨rfl, _, rfl, K⟩
  · rw [if_neg h1] at K
    refine wp_iload_n 1 dX5_joinedToAny_10 rfl rfl rfl ?_
    refine wp_iload_n 3 dX5_joinedToAny_11 rfl rfl rfl ?_
    refine wn_callNi (As := [.int x1, .int x3]) (rest := []) kmX5_72 (by decide) rfl rfl (Nat.le_of_ble_eq_true rfl) dX5_joinedToAny_12 rfl ?_
    refine Ci.mono K (fun v3 σ2 K => ?_)
    refine wp_if_eq 27 dX5_joinedToAny_15 (by decide) rfl (fun h4 => ?_) (fun h4 => ?_)
    · rw [if_pos h4] at K
      refine wp_iinc (v := x3 + 1) 3 [1, 2, 3, 0] dX5_joinedToAny_27 rfl (by decide) rfl rfl rfl ?_
      show WP _ _ _ _ _ _ _ 30 [(0, .ref 1), (1, .int x1), (2, .int x2), (3, .int (x3 + 1))] _ _ _
      refine wp_goto 4 dX5_joinedToAny_30 (by decide) ?_
      exact K
    · rw [if_neg h4] at K
      refine wp_iload_n 2 dX5_joinedToAny_18 rfl rfl rfl ?_
      refine wp_aload_n 0 dX5_joinedToAny_19 rfl rfl rfl ?_
      refine wp_getR 5 6 kcX5 kfX5_9 rfl lC_1 (congrArg Prod.fst gC_1) rC_1_6 dX5_joinedToAny_20 rfl ?_
      refine wp_iload_n 3 dX5_joinedToAny_23 rfl rfl rfl ?_
      obtain ⟨k5, K⟩ := K
      refine wn_iald lC_2 gC_2 k5 dX5_joinedToAny_24 rfl ?_
      refine wp_ior dX5_joinedToAny_25 rfl ?_
      refine wp_istore_n [1, 2, 0, 3] dX5_joinedToAny_26 rfl rfl (by decide) rfl ?_
      show WP _ _ _ _ _ _ _ 27 [(0, .ref 1), (1, .int x1), (2, .int (x2 ||| (σ2 2 (Int32.toNatClampNeg x3)))), (3, .int x3)] _ _ _
      refine wp_iinc (v := x3 + 1) 3 [1, 2, 3, 0] dX5_joinedToAny_27 rfl (by decide) rfl rfl rfl ?_
      show WP _ _ _ _ _ _ _ 30 [(0, .ref 1), (1, .int x1), (2, .int (x2 ||| (σ2 2 (Int32.toNatClampNeg x3)))), (3, .int (x3 + 1))] _ _ _
      refine wp_goto 4 dX5_joinedToAny_30 (by decide) ?_
      exact K
theorem bX5_nextTowards_0 {E : tp_E} {d : Nat} {Q : Int32 → tp_M → Prop} {σ : tp_M}   (x1 : Int32) (x2 : Int32) (K : Ci E TC yX5_distance iX5_distance d [.ref 1, .int x1, .int x2] σ (fun v2 σ1 => if 0 < v2 then (Wi E TC iX5_nextTowards (d + 1) Q 16 [(0, .ref 1), (1, .int x1), (2, .int x2), (3, .int v2), (4, .int 0)] [] σ1) else (Q (-1) σ1))) : Wi E TC iX5_nextTowards (d + 1) Q 0 [(0, .ref 1), (1, .int x1), (2, .int x2)] [] σ := by
  refine wp_aload_n 0 dX5_nextTowards_0 rfl rfl rfl ?_
  refine wp_iload_n 1 dX5_nextTowards_1 rfl rfl rfl ?_
  refine wp_iload_n 2 dX5_nextTowards_2 rfl rfl rfl ?_
  refine wn_callVi (As := [.int x1, .int x2]) (rest := []) 5 kmX5_83 (by decide) rfl rfl (Nat.le_of_ble_eq_true rfl) lC_1 (congrArg Prod.fst gC_1) dX5_nextTowards_3 rfl ?_
  refine Ci.mono K (fun v2 σ1 K => ?_)
  refine wp_istore_n [1, 2, 3, 0] dX5_nextTowards_6 rfl rfl (by decide) rfl ?_
  show WP _ _ _ _ _ _ _ 7 [(0, .ref 1), (1, .int x1), (2, .int x2), (3, .int v2)] _ _ _
  refine wp_iload_n 3 dX5_nextTowards_7 rfl rfl rfl ?_
  refine wp_if_gt 13 dX5_nextTowards_8 (by decide) rfl (fun h3 => ?_) (fun h3 => ?_)
  · rw [if_pos h3] at K
    refine wp_iconst (v := 0) dX5_nextTowards_13 rfl (by decide) ?_
    refine wp_istore [1, 2, 3, 4, 0] dX5_nextTowards_14 rfl (by decide) rfl ?_
    show WP _ _ _ _ _ _ _ 16 [(0, .ref 1), (1, .int x1), (2, .int x2), (3, .int v2), (4, .int 0)] _ _ _
    exact K
  · rw [if_neg h3] at K
    refine wp_iconst (v := (-1)) dX5_nextTowards_11 rfl (by decide) ?_
    exact wp_ret .int rfl rfl (Nat.le_refl 0) (Nat.le_refl 0) dX5_nextTowards_12 ⟨rfl, _, rfl, K⟩
theorem eX5_nextTowards {E : tp_E} {d : Nat} {Q : Int32 → tp_M → Prop} {σ : tp_M}   (x1 : Int32) (x2 : Int32) (K : Ci E TC yX5_distance iX5_distance d [.ref 1, .int x1, .int x2] σ (fun v2 σ1 => if 0 < v2 then (Wi E TC iX5_nextTowards (d + 1) Q 16 [(0, .ref 1), (1, .int x1), (2, .int x2), (3, .int v2), (4, .int 0)] [] σ1) else (Q (-1) σ1))) : Ci E TC yX5_nextTowards iX5_nextTowards (d + 1) [.ref 1, .int x1, .int x2] σ Q := Ci.of ⟨by decide +kernel, rfl, rfl⟩ (Nat.le_of_ble_eq_true rfl) (bX5_nextTowards_0  x1 x2 K)
theorem bX5_nextTowards_16 {E : tp_E} {d : Nat} {Q : Int32 → tp_M → Prop} {σ : tp_M}   (x1 : Int32) (x2 : Int32) (x3 : Int32) (x4 : Int32) (K : if (σ 1 0) ≤ x4 then (Q (-1) σ) else (Ci E TC yX5_joinedTo iX5_joinedTo d [.ref 1, .int x1] σ (fun v3 σ2 => Ci E TC yX9_has iX9_has d [.int v3, .int x4] σ2 (fun v5 σ4 => if v5 = 0 then (Wi E TC iX5_nextTowards (d + 1) Q 16 [(0, .ref 1), (1, .int x1), (2, .int x2), (3, .int x3), (4, .int (x4 + 1))] [] σ4) else (Ci E TC yX5_distance iX5_distance d [.ref 1, .int x4, .int x2] σ4 (fun v8 σ7 => if v8 = (x3 - 1) then (Q x4 σ7) else (Wi E TC iX5_nextTowards (d + 1) Q 16 [(0, .ref 1), (1, .int x1), (2, .int x2), (3, .int x3), (4, .int (x4 + 1))] [] σ7))))))) : Wi E TC iX5_nextTowards (d + 1) Q 16 [(0, .ref 1), (1, .int x1), (2, .int x2), (3, .int x3), (4, .int x4)] [] σ := by
  refine wp_iload 4 dX5_nextTowards_16 rfl rfl ?_
  refine wp_aload_n 0 dX5_nextTowards_18 rfl rfl rfl ?_
  refine wp_getI 5 0 kcX5 kfX5_33 rfl lC_1 (congrArg Prod.fst gC_1) dX5_nextTowards_19 rfl ?_
  refine wp_icmp_ge 60 dX5_nextTowards_22 (by decide) rfl (fun h1 => ?_) (fun h1 => ?_)
  · rw [if_pos h1] at K
    refine wp_iconst (v := (-1)) dX5_nextTowards_60 rfl (by decide) ?_
    exact wp_ret .int rfl rfl (Nat.le_refl 0) (Nat.le_refl 0) dX5_nextTowards_61 ⟨rfl, _, rfl, K⟩
  · rw [if_neg h1] at K
    refine wp_aload_n 0 dX5_nextTowards_25 rfl rfl rfl ?_
    refine wp_iload_n 1 dX5_nextTowards_26 rfl rfl rfl ?_
    refine wn_callVi (As := [.int x1]) (rest := []) 5 kmX5_76 (by decide) rfl rfl (Nat.le_of_ble_eq_true rfl) lC_1 (congrArg Prod.fst gC_1) dX5_nextTowards_27 rfl ?_
    refine Ci.mono K (fun v3 σ2 K => ?_)
    refine wp_iload 4 dX5_nextTowards_30 rfl rfl ?_
    refine wn_callNi (As := [.int v3, .int x4]) (rest := []) kmX5_72 (by decide) rfl rfl (Nat.le_of_ble_eq_true rfl) dX5_nextTowards_32 rfl ?_
    refine Ci.mono K (fun v5 σ4 K => ?_)
    refine wp_if_eq 54 dX5_nextTowards_35 (by decide) rfl (fun h6 => ?_) (fun h6 => ?_)
    · rw [if_pos h6] at K
      refine wp_iinc (v := x4 + 1) 4 [1, 2, 3, 4, 0] dX5_nextTowards_54 rfl (by decide) rfl rfl rfl ?_
      show WP _ _ _ _ _ _ _ 57 [(0, .ref 1), (1, .int x1), (2, .int x2), (3, .int x3), (4, .int (x4 + 1))] _ _ _
      refine wp_goto 16 dX5_nextTowards_57 (by decide) ?_
      exact K
    · rw [if_neg h6] at K
      refine wp_aload_n 0 dX5_nextTowards_38 rfl rfl rfl ?_
      refine wp_iload 4 dX5_nextTowards_39 rfl rfl ?_
      refine wp_iload_n 2 dX5_nextTowards_41 rfl rfl rfl ?_
      refine wn_callVi (As := [.int x4, .int x2]) (rest := []) 5 kmX5_83 (by decide) rfl rfl (Nat.le_of_ble_eq_true rfl) lC_1 (congrArg Prod.fst gC_1) dX5_nextTowards_42 rfl ?_
      refine Ci.mono K (fun v8 σ7 K => ?_)
      refine wp_iload_n 3 dX5_nextTowards_45 rfl rfl rfl ?_
      refine wp_iconst (v := 1) dX5_nextTowards_46 rfl (by decide) ?_
      refine wp_isub dX5_nextTowards_47 rfl ?_
      refine wp_icmp_ne 54 dX5_nextTowards_48 (by decide) rfl (fun h9 => ?_) (fun h9 => ?_)
      · rw [if_neg h9] at K
        refine wp_iinc (v := x4 + 1) 4 [1, 2, 3, 4, 0] dX5_nextTowards_54 rfl (by decide) rfl rfl rfl ?_
        show WP _ _ _ _ _ _ _ 57 [(0, .ref 1), (1, .int x1), (2, .int x2), (3, .int x3), (4, .int (x4 + 1))] _ _ _
        refine wp_goto 16 dX5_nextTowards_57 (by decide) ?_
        exact K
      · rw [if_pos h9] at K
        refine wp_iload 4 dX5_nextTowards_51 rfl rfl ?_
        exact wp_ret .int rfl rfl (Nat.le_refl 0) (Nat.le_refl 0) dX5_nextTowards_53 ⟨rfl, _, rfl, K⟩
theorem bX5_hasOrder_0 {E : tp_E} {d : Nat} {Q : Int32 → tp_M → Prop} {σ : tp_M}   (x1 : Int32) (K : if x1 < 0 then (Q 0 σ) else (if (σ 1 5) ≤ x1 then (Q 0 σ) else (if 4 ≤ x1 then (Q 0 σ) else (Q 1 σ)))) : Wi E TC iX5_hasOrder d Q 0 [(0, .ref 1), (1, .int x1)] [] σ := by
  refine wp_iload_n 1 dX5_hasOrder_0 rfl rfl rfl ?_
  refine wp_if_lt 21 dX5_hasOrder_1 (by decide) rfl (fun h1 => ?_) (fun h1 => ?_)
  · rw [if_pos h1] at K
    refine wp_iconst (v := 0) dX5_hasOrder_21 rfl (by decide) ?_
    exact wp_ret .boolean rfl rfl (Nat.le_refl 0) (Nat.le_refl 0) dX5_hasOrder_22 ⟨rfl, _, rfl, K⟩
  · rw [if_neg h1] at K
    refine wp_iload_n 1 dX5_hasOrder_4 rfl rfl rfl ?_
    refine wp_aload_n 0 dX5_hasOrder_5 rfl rfl rfl ?_
    refine wp_getI 5 5 kcX5 kfX5_49 rfl lC_1 (congrArg Prod.fst gC_1) dX5_hasOrder_6 rfl ?_
    refine wp_icmp_ge 21 dX5_hasOrder_9 (by decide) rfl (fun h2 => ?_) (fun h2 => ?_)
    · rw [if_pos h2] at K
      refine wp_iconst (v := 0) dX5_hasOrder_21 rfl (by decide) ?_
      exact wp_ret .boolean rfl rfl (Nat.le_refl 0) (Nat.le_refl 0) dX5_hasOrder_22 ⟨rfl, _, rfl, K⟩
    · rw [if_neg h2] at K
      refine wp_iload_n 1 dX5_hasOrder_12 rfl rfl rfl ?_
      refine wp_iconst (v := 4) dX5_hasOrder_13 rfl (by decide) ?_
      refine wp_icmp_ge 21 dX5_hasOrder_14 (by decide) rfl (fun h3 => ?_) (fun h3 => ?_)
      · rw [if_pos h3] at K
        refine wp_iconst (v := 0) dX5_hasOrder_21 rfl (by decide) ?_
        exact wp_ret .boolean rfl rfl (Nat.le_refl 0) (Nat.le_refl 0) dX5_hasOrder_22 ⟨rfl, _, rfl, K⟩
      · rw [if_neg h3] at K
        refine wp_iconst (v := 1) dX5_hasOrder_17 rfl (by decide) ?_
        refine wp_goto 22 dX5_hasOrder_18 (by decide) ?_
        exact wp_ret .boolean rfl rfl (Nat.le_refl 0) (Nat.le_refl 0) dX5_hasOrder_22 ⟨rfl, _, rfl, K⟩
theorem eX5_hasOrder {E : tp_E} {d : Nat} {Q : Int32 → tp_M → Prop} {σ : tp_M}   (x1 : Int32) (K : if x1 < 0 then (Q 0 σ) else (if (σ 1 5) ≤ x1 then (Q 0 σ) else (if 4 ≤ x1 then (Q 0 σ) else (Q 1 σ)))) : Ci E TC yX5_hasOrder iX5_hasOrder d [.ref 1, .int x1] σ Q := Ci.of ⟨by decide +kernel, rfl, rfl⟩ (Nat.le_of_ble_eq_true rfl) (bX5_hasOrder_0  x1 K)
theorem bX5_evenestLeft_0 {E : tp_E} {d : Nat} {Q : Int32 → tp_M → Prop} {σ : tp_M}   (x1 : Int32) (K : Ci E TC yX5_weightOf iX5_weightOf d [.ref 1, .int x1] σ (fun v2 σ1 => Wi E TC iX5_evenestLeft (d + 1) Q 11 [(0, .ref 1), (1, .int x1), (2, .int 0), (3, .int v2), (4, .int 1)] [] σ1)) : Wi E TC iX5_evenestLeft (d + 1) Q 0 [(0, .ref 1), (1, .int x1)] [] σ := by
  refine wp_iconst (v := 0) dX5_evenestLeft_0 rfl (by decide) ?_
  refine wp_istore_n [1, 2, 0] dX5_evenestLeft_1 rfl rfl (by decide) rfl ?_
  show WP _ _ _ _ _ _ _ 2 [(0, .ref 1), (1, .int x1), (2, .int 0)] _ _ _
  refine wp_aload_n 0 dX5_evenestLeft_2 rfl rfl rfl ?_
  refine wp_iload_n 1 dX5_evenestLeft_3 rfl rfl rfl ?_
  refine wn_callVi (As := [.int x1]) (rest := []) 5 kmX5_91 (by decide) rfl rfl (Nat.le_of_ble_eq_true rfl) lC_1 (congrArg Prod.fst gC_1) dX5_evenestLeft_4 rfl ?_
  refine Ci.mono K (fun v2 σ1 K => ?_)
  refine wp_istore_n [1, 2, 3, 0] dX5_evenestLeft_7 rfl rfl (by decide) rfl ?_
  show WP _ _ _ _ _ _ _ 8 [(0, .ref 1), (1, .int x1), (2, .int 0), (3, .int v2)] _ _ _
  refine wp_iconst (v := 1) dX5_evenestLeft_8 rfl (by decide) ?_
  refine wp_istore [1, 2, 3, 4, 0] dX5_evenestLeft_9 rfl (by decide) rfl ?_
  show WP _ _ _ _ _ _ _ 11 [(0, .ref 1), (1, .int x1), (2, .int 0), (3, .int v2), (4, .int 1)] _ _ _
  exact K
theorem eX5_evenestLeft {E : tp_E} {d : Nat} {Q : Int32 → tp_M → Prop} {σ : tp_M}   (x1 : Int32) (K : Ci E TC yX5_weightOf iX5_weightOf d [.ref 1, .int x1] σ (fun v2 σ1 => Wi E TC iX5_evenestLeft (d + 1) Q 11 [(0, .ref 1), (1, .int x1), (2, .int 0), (3, .int v2), (4, .int 1)] [] σ1)) : Ci E TC yX5_evenestLeft iX5_evenestLeft (d + 1) [.ref 1, .int x1] σ Q := Ci.of ⟨by decide +kernel, rfl, rfl⟩ (Nat.le_of_ble_eq_true rfl) (bX5_evenestLeft_0  x1 K)
theorem bX5_evenestLeft_11 {E : tp_E} {d : Nat} {Q : Int32 → tp_M → Prop} {σ : tp_M}   (x1 : Int32) (x2 : Int32) (x3 : Int32) (x4 : Int32) (K : if 256 ≤ x4 then (Q x2 σ) else (if (x4 &&& (x1 ^^^ (-1))) = 0 then (Ci E TC yX5_difference iX5_difference d [.ref 1, .int x1, .int x4] σ (fun v5 σ4 => if x3 ≤ v5 then (Wi E TC iX5_evenestLeft (d + 1) Q 11 [(0, .ref 1), (1, .int x1), (2, .int x2), (3, .int x3), (4, .int (x4 + 1))] [] σ4) else (Wi E TC iX5_evenestLeft (d + 1) Q 11 [(0, .ref 1), (1, .int x1), (2, .int x4), (3, .int v5), (4, .int (x4 + 1))] [] σ4))) else (if x3 ≤ x3 then (Wi E TC iX5_evenestLeft (d + 1) Q 11 [(0, .ref 1), (1, .int x1), (2, .int x2), (3, .int x3), (4, .int (x4 + 1))] [] σ) else (Wi E TC iX5_evenestLeft (d + 1) Q 11 [(0, .ref 1), (1, .int x1), (2, .int x4), (3, .int x3), (4, .int (x4 + 1))] [] σ)))) : Wi E TC iX5_evenestLeft (d + 1) Q 11 [(0, .ref 1), (1, .int x1), (2, .int x2), (3, .int x3), (4, .int x4)] [] σ := by
  refine wp_iload 4 dX5_evenestLeft_11 rfl rfl ?_
  refine wp_sipush (v := 256) dX5_evenestLeft_13 rfl (by decide) ?_
  refine wp_icmp_ge 59 dX5_evenestLeft_16 (by decide) rfl (fun h1 => ?_) (fun h1 => ?_)
  · rw [if_pos h1] at K
    refine wp_iload_n 2 dX5_evenestLeft_59 rfl rfl rfl ?_
    exact wp_ret .int rfl rfl (Nat.le_refl 0) (Nat.le_refl 0) dX5_evenestLeft_60 ⟨rfl, _, rfl, K⟩
  · rw [if_neg h1] at K
    refine wp_iload 4 dX5_evenestLeft_19 rfl rfl ?_
    refine wp_iload_n 1 dX5_evenestLeft_21 rfl rfl rfl ?_
    refine wp_iconst (v := (-1)) dX5_evenestLeft_22 rfl (by decide) ?_
    refine wp_ixor dX5_evenestLeft_23 rfl ?_
    refine wp_iand dX5_evenestLeft_24 rfl ?_
    refine wp_if_ne 38 dX5_evenestLeft_25 (by decide) rfl (fun h2 => ?_) (fun h2 => ?_)
    · rw [if_neg h2] at K
      refine wp_iload_n 3 dX5_evenestLeft_38 rfl rfl rfl ?_
      refine wp_istore [1, 2, 3, 4, 5, 0] dX5_evenestLeft_39 rfl (by decide) rfl ?_
      show WP _ _ _ _ _ _ _ 41 [(0, .ref 1), (1, .int x1), (2, .int x2), (3, .int x3), (4, .int x4), (5, .int x3)] _ _ _
      refine wp_iload 5 dX5_evenestLeft_41 rfl rfl ?_
      refine wp_iload_n 3 dX5_evenestLeft_43 rfl rfl rfl ?_
      refine wp_icmp_ge 53 dX5_evenestLeft_44 (by decide) rfl (fun h3 => ?_) (fun h3 => ?_)
      · rw [if_pos h3] at K
        refine wp_iinc (v := x4 + 1) 4 [1, 2, 3, 4, 0, 5] dX5_evenestLeft_53 rfl (by decide) rfl rfl rfl ?_
        show WP _ _ _ _ _ _ _ 56 [(0, .ref 1), (1, .int x1), (2, .int x2), (3, .int x3), (4, .int (x4 + 1)), (5, .int x3)] _ _ _
        refine wp_goto 11 dX5_evenestLeft_56 (by decide) ?_
        refine wp_lv [0, 1, 2, 3, 4] rfl ?_
        exact K
      · rw [if_neg h3] at K
        refine wp_iload 4 dX5_evenestLeft_47 rfl rfl ?_
        refine wp_istore_n [1, 2, 0, 3, 4, 5] dX5_evenestLeft_49 rfl rfl (by decide) rfl ?_
        show WP _ _ _ _ _ _ _ 50 [(0, .ref 1), (1, .int x1), (2, .int x4), (3, .int x3), (4, .int x4), (5, .int x3)] _ _ _
        refine wp_iload 5 dX5_evenestLeft_50 rfl rfl ?_
        refine wp_istore_n [1, 2, 3, 0, 4, 5] dX5_evenestLeft_52 rfl rfl (by decide) rfl ?_
        show WP _ _ _ _ _ _ _ 53 [(0, .ref 1), (1, .int x1), (2, .int x4), (3, .int x3), (4, .int x4), (5, .int x3)] _ _ _
        refine wp_iinc (v := x4 + 1) 4 [1, 2, 3, 4, 0, 5] dX5_evenestLeft_53 rfl (by decide) rfl rfl rfl ?_
        show WP _ _ _ _ _ _ _ 56 [(0, .ref 1), (1, .int x1), (2, .int x4), (3, .int x3), (4, .int (x4 + 1)), (5, .int x3)] _ _ _
        refine wp_goto 11 dX5_evenestLeft_56 (by decide) ?_
        refine wp_lv [0, 1, 2, 3, 4] rfl ?_
        exact K
    · rw [if_pos h2] at K
      refine wp_aload_n 0 dX5_evenestLeft_28 rfl rfl rfl ?_
      refine wp_iload_n 1 dX5_evenestLeft_29 rfl rfl rfl ?_
      refine wp_iload 4 dX5_evenestLeft_30 rfl rfl ?_
      refine wn_callVi (As := [.int x1, .int x4]) (rest := []) 5 kmX5_99 (by decide) rfl rfl (Nat.le_of_ble_eq_true rfl) lC_1 (congrArg Prod.fst gC_1) dX5_evenestLeft_32 rfl ?_
      refine Ci.mono K (fun v5 σ4 K => ?_)
      refine wp_goto 39 dX5_evenestLeft_35 (by decide) ?_
      refine wp_istore [1, 2, 3, 4, 5, 0] dX5_evenestLeft_39 rfl (by decide) rfl ?_
      show WP _ _ _ _ _ _ _ 41 [(0, .ref 1), (1, .int x1), (2, .int x2), (3, .int x3), (4, .int x4), (5, .int v5)] _ _ _
      refine wp_iload 5 dX5_evenestLeft_41 rfl rfl ?_
      refine wp_iload_n 3 dX5_evenestLeft_43 rfl rfl rfl ?_
      refine wp_icmp_ge 53 dX5_evenestLeft_44 (by decide) rfl (fun h6 => ?_) (fun h6 => ?_)
      · rw [if_pos h6] at K
        refine wp_iinc (v := x4 + 1) 4 [1, 2, 3, 4, 0, 5] dX5_evenestLeft_53 rfl (by decide) rfl rfl rfl ?_
        show WP _ _ _ _ _ _ _ 56 [(0, .ref 1), (1, .int x1), (2, .int x2), (3, .int x3), (4, .int (x4 + 1)), (5, .int v5)] _ _ _
        refine wp_goto 11 dX5_evenestLeft_56 (by decide) ?_
        refine wp_lv [0, 1, 2, 3, 4] rfl ?_
        exact K
      · rw [if_neg h6] at K
        refine wp_iload 4 dX5_evenestLeft_47 rfl rfl ?_
        refine wp_istore_n [1, 2, 0, 3, 4, 5] dX5_evenestLeft_49 rfl rfl (by decide) rfl ?_
        show WP _ _ _ _ _ _ _ 50 [(0, .ref 1), (1, .int x1), (2, .int x4), (3, .int x3), (4, .int x4), (5, .int v5)] _ _ _
        refine wp_iload 5 dX5_evenestLeft_50 rfl rfl ?_
        refine wp_istore_n [1, 2, 3, 0, 4, 5] dX5_evenestLeft_52 rfl rfl (by decide) rfl ?_
        show WP _ _ _ _ _ _ _ 53 [(0, .ref 1), (1, .int x1), (2, .int x4), (3, .int v5), (4, .int x4), (5, .int v5)] _ _ _
        refine wp_iinc (v := x4 + 1) 4 [1, 2, 3, 4, 0, 5] dX5_evenestLeft_53 rfl (by decide) rfl rfl rfl ?_
        show WP _ _ _ _ _ _ _ 56 [(0, .ref 1), (1, .int x1), (2, .int x4), (3, .int v5), (4, .int (x4 + 1)), (5, .int v5)] _ _ _
        refine wp_goto 11 dX5_evenestLeft_56 (by decide) ?_
        refine wp_lv [0, 1, 2, 3, 4] rfl ?_
        exact K
theorem bX5_worthiest_0 {E : tp_E} {d : Nat} {Q : Int32 → tp_M → Prop} {σ : tp_M}   (x1 : Int32) (x2 : Int32) (K : Wi E TC iX5_worthiest (d + 1) Q 8 [(0, .ref 1), (1, .int x1), (2, .int x2), (3, .int 0), (4, .int 0), (5, .int 1)] [] σ) : Wi E TC iX5_worthiest (d + 1) Q 0 [(0, .ref 1), (1, .int x1), (2, .int x2)] [] σ := by
  refine wp_iconst (v := 0) dX5_worthiest_0 rfl (by decide) ?_
  refine wp_istore_n [1, 2, 3, 0] dX5_worthiest_1 rfl rfl (by decide) rfl ?_
  show WP _ _ _ _ _ _ _ 2 [(0, .ref 1), (1, .int x1), (2, .int x2), (3, .int 0)] _ _ _
  refine wp_iconst (v := 0) dX5_worthiest_2 rfl (by decide) ?_
  refine wp_istore [1, 2, 3, 4, 0] dX5_worthiest_3 rfl (by decide) rfl ?_
  show WP _ _ _ _ _ _ _ 5 [(0, .ref 1), (1, .int x1), (2, .int x2), (3, .int 0), (4, .int 0)] _ _ _
  refine wp_iconst (v := 1) dX5_worthiest_5 rfl (by decide) ?_
  refine wp_istore [1, 2, 3, 4, 5, 0] dX5_worthiest_6 rfl (by decide) rfl ?_
  show WP _ _ _ _ _ _ _ 8 [(0, .ref 1), (1, .int x1), (2, .int x2), (3, .int 0), (4, .int 0), (5, .int 1)] _ _ _
  exact K
theorem eX5_worthiest {E : tp_E} {d : Nat} {Q : Int32 → tp_M → Prop} {σ : tp_M}   (x1 : Int32) (x2 : Int32) (K : Wi E TC iX5_worthiest (d + 1) Q 8 [(0, .ref 1), (1, .int x1), (2, .int x2), (3, .int 0), (4, .int 0), (5, .int 1)] [] σ) : Ci E TC yX5_worthiest iX5_worthiest (d + 1) [.ref 1, .int x1, .int x2] σ Q := Ci.of ⟨by decide +kernel, rfl, rfl⟩ (Nat.le_of_ble_eq_true rfl) (bX5_worthiest_0  x1 x2 K)
theorem bX5_worthiest_8 {E : tp_E} {d : Nat} {Q : Int32 → tp_M → Prop} {σ : tp_M}   (x1 : Int32) (x2 : Int32) (x3 : Int32) (x4 : Int32) (x5 : Int32) (K : if 256 ≤ x5 then (Q x3 σ) else (if (x5 &&& (x1 ^^^ (-1))) = 0 then (Ci E TC yX5_worthOf iX5_worthOf d [.ref 1, .int x5] σ (fun v4 σ3 => Wi E TC iX5_worthiest (d + 1) Q 35 [(0, .ref 1), (1, .int x1), (2, .int x2), (3, .int x3), (4, .int x4), (5, .int x5)] [.int v4] σ3)) else (Wi E TC iX5_worthiest (d + 1) Q 35 [(0, .ref 1), (1, .int x1), (2, .int x2), (3, .int x3), (4, .int x4), (5, .int x5)] [.int 0] σ))) : Wi E TC iX5_worthiest (d + 1) Q 8 [(0, .ref 1), (1, .int x1), (2, .int x2), (3, .int x3), (4, .int x4), (5, .int x5)] [] σ := by
  refine wp_iload 5 dX5_worthiest_8 rfl rfl ?_
  refine wp_sipush (v := 256) dX5_worthiest_10 rfl (by decide) ?_
  refine wp_icmp_ge 67 dX5_worthiest_13 (by decide) rfl (fun h1 => ?_) (fun h1 => ?_)
  · rw [if_pos h1] at K
    refine wp_iload_n 3 dX5_worthiest_67 rfl rfl rfl ?_
    exact wp_ret .int rfl rfl (Nat.le_refl 0) (Nat.le_refl 0) dX5_worthiest_68 ⟨rfl, _, rfl, K⟩
  · rw [if_neg h1] at K
    refine wp_iload 5 dX5_worthiest_16 rfl rfl ?_
    refine wp_iload_n 1 dX5_worthiest_18 rfl rfl rfl ?_
    refine wp_iconst (v := (-1)) dX5_worthiest_19 rfl (by decide) ?_
    refine wp_ixor dX5_worthiest_20 rfl ?_
    refine wp_iand dX5_worthiest_21 rfl ?_
    refine wp_if_ne 34 dX5_worthiest_22 (by decide) rfl (fun h2 => ?_) (fun h2 => ?_)
    · rw [if_neg h2] at K
      refine wp_iconst (v := 0) dX5_worthiest_34 rfl (by decide) ?_
      exact K
    · rw [if_pos h2] at K
      refine wp_aload_n 0 dX5_worthiest_25 rfl rfl rfl ?_
      refine wp_iload 5 dX5_worthiest_26 rfl rfl ?_
      refine wn_callVi (As := [.int x5]) (rest := []) 5 kmX5_102 (by decide) rfl rfl (Nat.le_of_ble_eq_true rfl) lC_1 (congrArg Prod.fst gC_1) dX5_worthiest_28 rfl ?_
      refine Ci.mono K (fun v4 σ3 K => ?_)
      refine wp_goto 35 dX5_worthiest_31 (by decide) ?_
      exact K
theorem bX5_worthiest_35 {E : tp_E} {d : Nat} {Q : Int32 → tp_M → Prop} {σ : tp_M}   (x1 : Int32) (x2 : Int32) (x3 : Int32) (x4 : Int32) (x5 : Int32) (s0 : Int32) (K : if s0 ≤ x4 then (Wi E TC iX5_worthiest (d + 1) Q 8 [(0, .ref 1), (1, .int x1), (2, .int x2), (3, .int x3), (4, .int x4), (5, .int (x5 + 1))] [] σ) else (Ci E TC yX5_weightOf iX5_weightOf d [.ref 1, .int x5] σ (fun v3 σ2 => if x2 < v3 then (Wi E TC iX5_worthiest (d + 1) Q 8 [(0, .ref 1), (1, .int x1), (2, .int x2), (3, .int x3), (4, .int x4), (5, .int (x5 + 1))] [] σ2) else (Wi E TC iX5_worthiest (d + 1) Q 8 [(0, .ref 1), (1, .int x1), (2, .int x2), (3, .int x5), (4, .int s0), (5, .int (x5 + 1))] [] σ2)))) : Wi E TC iX5_worthiest (d + 1) Q 35 [(0, .ref 1), (1, .int x1), (2, .int x2), (3, .int x3), (4, .int x4), (5, .int x5)] [.int s0] σ := by
  refine wp_istore [1, 2, 3, 4, 5, 6, 0] dX5_worthiest_35 rfl (by decide) rfl ?_
  show WP _ _ _ _ _ _ _ 37 [(0, .ref 1), (1, .int x1), (2, .int x2), (3, .int x3), (4, .int x4), (5, .int x5), (6, .int s0)] _ _ _
  refine wp_iload 6 dX5_worthiest_37 rfl rfl ?_
  refine wp_iload 4 dX5_worthiest_39 rfl rfl ?_
  refine wp_icmp_le 61 dX5_worthiest_41 (by decide) rfl (fun h1 => ?_) (fun h1 => ?_)
  · rw [if_pos h1] at K
    refine wp_iinc (v := x5 + 1) 5 [1, 2, 3, 4, 5, 0, 6] dX5_worthiest_61 rfl (by decide) rfl rfl rfl ?_
    show WP _ _ _ _ _ _ _ 64 [(0, .ref 1), (1, .int x1), (2, .int x2), (3, .int x3), (4, .int x4), (5, .int (x5 + 1)), (6, .int s0)] _ _ _
    refine wp_goto 8 dX5_worthiest_64 (by decide) ?_
    refine wp_lv [0, 1, 2, 3, 4, 5] rfl ?_
    exact K
  · rw [if_neg h1] at K
    refine wp_aload_n 0 dX5_worthiest_44 rfl rfl rfl ?_
    refine wp_iload 5 dX5_worthiest_45 rfl rfl ?_
    refine wn_callVi (As := [.int x5]) (rest := []) 5 kmX5_91 (by decide) rfl rfl (Nat.le_of_ble_eq_true rfl) lC_1 (congrArg Prod.fst gC_1) dX5_worthiest_47 rfl ?_
    refine Ci.mono K (fun v3 σ2 K => ?_)
    refine wp_iload_n 2 dX5_worthiest_50 rfl rfl rfl ?_
    refine wp_icmp_gt 61 dX5_worthiest_51 (by decide) rfl (fun h4 => ?_) (fun h4 => ?_)
    · rw [if_pos h4] at K
      refine wp_iinc (v := x5 + 1) 5 [1, 2, 3, 4, 5, 0, 6] dX5_worthiest_61 rfl (by decide) rfl rfl rfl ?_
      show WP _ _ _ _ _ _ _ 64 [(0, .ref 1), (1, .int x1), (2, .int x2), (3, .int x3), (4, .int x4), (5, .int (x5 + 1)), (6, .int s0)] _ _ _
      refine wp_goto 8 dX5_worthiest_64 (by decide) ?_
      refine wp_lv [0, 1, 2, 3, 4, 5] rfl ?_
      exact K
    · rw [if_neg h4] at K
      refine wp_iload 5 dX5_worthiest_54 rfl rfl ?_
      refine wp_istore_n [1, 2, 3, 0, 4, 5, 6] dX5_worthiest_56 rfl rfl (by decide) rfl ?_
      show WP _ _ _ _ _ _ _ 57 [(0, .ref 1), (1, .int x1), (2, .int x2), (3, .int x5), (4, .int x4), (5, .int x5), (6, .int s0)] _ _ _
      refine wp_iload 6 dX5_worthiest_57 rfl rfl ?_
      refine wp_istore [1, 2, 3, 4, 0, 5, 6] dX5_worthiest_59 rfl (by decide) rfl ?_
      show WP _ _ _ _ _ _ _ 61 [(0, .ref 1), (1, .int x1), (2, .int x2), (3, .int x5), (4, .int s0), (5, .int x5), (6, .int s0)] _ _ _
      refine wp_iinc (v := x5 + 1) 5 [1, 2, 3, 4, 5, 0, 6] dX5_worthiest_61 rfl (by decide) rfl rfl rfl ?_
      show WP _ _ _ _ _ _ _ 64 [(0, .ref 1), (1, .int x1), (2, .int x2), (3, .int x5), (4, .int s0), (5, .int (x5 + 1)), (6, .int s0)] _ _ _
      refine wp_goto 8 dX5_worthiest_64 (by decide) ?_
      refine wp_lv [0, 1, 2, 3, 4, 5] rfl ?_
      exact K

theorem bX0_slant_0 {E : tp_E} {d : Nat} {Q : Int32 → tp_M → Prop} {σ : tp_M}   (x1 : Int32) (K : Ci E TC yX8_thingsOf iX8_thingsOf d [.ref 9, .int x1] σ (fun v2 σ1 => Ci E TC yX9_sideOf iX9_sideOf d [.int x1, .int 0] σ1 (fun v4 σ3 => Ci E TC yX8_thingsAt iX8_thingsAt d [.ref 9, .int v4] σ3 (fun v6 σ5 => Ci E TC yX5_difference iX5_difference d [.ref 1, .int v2, .int v6] σ5 (fun v8 σ7 => Q v8 σ7))))) : Wi E TC iX0_slant (d + 1) Q 0 [(0, .ref 139), (1, .int x1)] [] σ := by
  refine wp_aload_n 0 dX0_slant_0 rfl rfl rfl ?_
  refine wp_getR 0 0 kcX0 kfX0_15 rfl lC_139 (congrArg Prod.fst gC_139) rC_139_0 dX0_slant_1 rfl ?_
  refine wp_aload_n 0 dX0_slant_4 rfl rfl rfl ?_
  refine wp_getR 0 1 kcX0 kfX0_19 rfl lC_139 (congrArg Prod.fst gC_139) rC_139_1 dX0_slant_5 rfl ?_
  refine wp_iload_n 1 dX0_slant_8 rfl rfl rfl ?_
  refine wn_callVi (As := [.int x1]) (rest := [.ref 1]) 8 kmX0_23 (by decide) rfl rfl (Nat.le_of_ble_eq_true rfl) lC_9 (congrArg Prod.fst gC_9) dX0_slant_9 rfl ?_
  refine Ci.mono K (fun v2 σ1 K => ?_)
  refine wp_aload_n 0 dX0_slant_12 rfl rfl rfl ?_
  refine wp_getR 0 1 kcX0 kfX0_19 rfl lC_139 (congrArg Prod.fst gC_139) rC_139_1 dX0_slant_13 rfl ?_
  refine wp_iload_n 1 dX0_slant_16 rfl rfl rfl ?_
  refine wp_iconst (v := 0) dX0_slant_17 rfl (by decide) ?_
  refine wn_callNi (As := [.int x1, .int 0]) (rest := [.ref 9, .int v2, .ref 1]) kmX0_29 (by decide) rfl rfl (Nat.le_of_ble_eq_true rfl) dX0_slant_18 rfl ?_
  refine Ci.mono K (fun v4 σ3 K => ?_)
  refine wn_callVi (As := [.int v4]) (rest := [.int v2, .ref 1]) 8 kmX0_33 (by decide) rfl rfl (Nat.le_of_ble_eq_true rfl) lC_9 (congrArg Prod.fst gC_9) dX0_slant_21 rfl ?_
  refine Ci.mono K (fun v6 σ5 K => ?_)
  refine wn_callVi (As := [.int v2, .int v6]) (rest := []) 5 kmX0_36 (by decide) rfl rfl (Nat.le_of_ble_eq_true rfl) lC_1 (congrArg Prod.fst gC_1) dX0_slant_24 rfl ?_
  refine Ci.mono K (fun v8 σ7 K => ?_)
  exact wp_ret .int rfl rfl (Nat.le_refl 0) (Nat.le_refl 0) dX0_slant_27 ⟨rfl, _, rfl, K⟩
theorem eX0_slant {E : tp_E} {d : Nat} {Q : Int32 → tp_M → Prop} {σ : tp_M}   (x1 : Int32) (K : Ci E TC yX8_thingsOf iX8_thingsOf d [.ref 9, .int x1] σ (fun v2 σ1 => Ci E TC yX9_sideOf iX9_sideOf d [.int x1, .int 0] σ1 (fun v4 σ3 => Ci E TC yX8_thingsAt iX8_thingsAt d [.ref 9, .int v4] σ3 (fun v6 σ5 => Ci E TC yX5_difference iX5_difference d [.ref 1, .int v2, .int v6] σ5 (fun v8 σ7 => Q v8 σ7))))) : Ci E TC yX0_slant iX0_slant (d + 1) [.ref 139, .int x1] σ Q := Ci.of ⟨by decide +kernel, rfl, rfl⟩ (Nat.le_of_ble_eq_true rfl) (bX0_slant_0  x1 K)
theorem bX0_tick_0 {E : tp_E} {d : Nat} {Q : tp_M → Prop} {σ : tp_M}    (K : Wv E TC iX0_tick (d + 1) Q 2 [(0, .ref 139), (1, .int 0)] [] σ) : Wv E TC iX0_tick (d + 1) Q 0 [(0, .ref 139)] [] σ := by
  refine wp_iconst (v := 0) dX0_tick_0 rfl (by decide) ?_
  refine wp_istore_n [1, 0] dX0_tick_1 rfl rfl (by decide) rfl ?_
  show WP _ _ _ _ _ _ _ 2 [(0, .ref 139), (1, .int 0)] _ _ _
  exact K
theorem eX0_tick {E : tp_E} {d : Nat} {Q : tp_M → Prop} {σ : tp_M}    (K : Wv E TC iX0_tick (d + 1) Q 2 [(0, .ref 139), (1, .int 0)] [] σ) : Cv E TC yX0_tick iX0_tick (d + 1) [.ref 139] σ Q := Cv.of ⟨by decide +kernel, rfl, rfl⟩ (Nat.le_of_ble_eq_true rfl) (bX0_tick_0   K)
theorem bX0_tick_2 {E : tp_E} {d : Nat} {Q : tp_M → Prop} {σ : tp_M}   (x1 : Int32) (K : if 4 ≤ x1 then (Ci E TC yX0_countMeetings iX0_countMeetings d [.ref 139] σ (fun v3 σ2 => Wv E TC iX0_tick (d + 1) Q 43 [(0, .ref 139), (1, .int v3), (2, .int 0)] [] σ2)) else (vp_in x1 4 ∧ (vp_in x1 4 ∧ (Cv E TC yX8_step iX8_step d [.ref 9, .int x1] (tp_u σ 140 (Int32.toNatClampNeg x1) (σ 10 (Int32.toNatClampNeg x1))) (fun σ6 => Wv E TC iX0_tick (d + 1) Q 2 [(0, .ref 139), (1, .int (x1 + 1))] [] σ6))))) : Wv E TC iX0_tick (d + 1) Q 2 [(0, .ref 139), (1, .int x1)] [] σ := by
  refine wp_iload_n 1 dX0_tick_2 rfl rfl rfl ?_
  refine wp_iconst (v := 4) dX0_tick_3 rfl (by decide) ?_
  refine wp_icmp_ge 36 dX0_tick_4 (by decide) rfl (fun h1 => ?_) (fun h1 => ?_)
  · rw [if_pos h1] at K
    refine wp_aload_n 0 dX0_tick_36 rfl rfl rfl ?_
    refine wn_callVi (As := []) (rest := []) 0 kmX0_48 (by decide) rfl rfl (Nat.le_of_ble_eq_true rfl) lC_139 (congrArg Prod.fst gC_139) dX0_tick_37 rfl ?_
    refine Ci.mono K (fun v3 σ2 K => ?_)
    refine wp_istore_n [1, 0] dX0_tick_40 rfl rfl (by decide) rfl ?_
    show WP _ _ _ _ _ _ _ 41 [(0, .ref 139), (1, .int v3)] _ _ _
    refine wp_iconst (v := 0) dX0_tick_41 rfl (by decide) ?_
    refine wp_istore_n [1, 2, 0] dX0_tick_42 rfl rfl (by decide) rfl ?_
    show WP _ _ _ _ _ _ _ 43 [(0, .ref 139), (1, .int v3), (2, .int 0)] _ _ _
    exact K
  · rw [if_neg h1] at K
    refine wp_aload_n 0 dX0_tick_7 rfl rfl rfl ?_
    refine wp_getR 0 2 kcX0 kfX0_9 rfl lC_139 (congrArg Prod.fst gC_139) rC_139_2 dX0_tick_8 rfl ?_
    refine wp_iload_n 1 dX0_tick_11 rfl rfl rfl ?_
    refine wp_aload_n 0 dX0_tick_12 rfl rfl rfl ?_
    refine wp_getR 0 1 kcX0 kfX0_19 rfl lC_139 (congrArg Prod.fst gC_139) rC_139_1 dX0_tick_13 rfl ?_
    refine wp_getR 8 2 kcX8 kfX0_41 rfl lC_9 (congrArg Prod.fst gC_9) rC_9_2 dX0_tick_16 rfl ?_
    refine wp_iload_n 1 dX0_tick_19 rfl rfl rfl ?_
    obtain ⟨k4, K⟩ := K
    refine wn_iald lC_10 gC_10 k4 dX0_tick_20 rfl ?_
    obtain ⟨k5, K⟩ := K
    refine wn_iast lC_140 gC_140 k5 dX0_tick_21 rfl ?_
    refine wp_aload_n 0 dX0_tick_22 rfl rfl rfl ?_
    refine wp_getR 0 1 kcX0 kfX0_19 rfl lC_139 (congrArg Prod.fst gC_139) rC_139_1 dX0_tick_23 rfl ?_
    refine wp_iload_n 1 dX0_tick_26 rfl rfl rfl ?_
    refine wn_callVv (As := [.int x1]) (rest := []) 8 kmX0_44 (by decide) rfl rfl (Nat.le_of_ble_eq_true rfl) lC_9 (congrArg Prod.fst gC_9) dX0_tick_27 rfl ?_
    refine Cv.mono K (fun σ6 K => ?_)
    refine wp_iinc (v := x1 + 1) 1 [1, 0] dX0_tick_30 rfl (by decide) rfl rfl rfl ?_
    show WP _ _ _ _ _ _ _ 33 [(0, .ref 139), (1, .int (x1 + 1))] _ _ _
    refine wp_goto 2 dX0_tick_33 (by decide) ?_
    exact K
theorem bX0_tick_43 {E : tp_E} {d : Nat} {Q : tp_M → Prop} {σ : tp_M}   (x1 : Int32) (x2 : Int32) (K : if (σ 1 3) ≤ x2 then (Q (tp_u σ 9 0 ((σ 9 0) + 1))) else (Ci E TC yX9_has iX9_has d [.int x1, .int x2] σ (fun v3 σ2 => if v3 = 0 then (Wv E TC iX0_tick (d + 1) Q 43 [(0, .ref 139), (1, .int x1), (2, .int (x2 + 1))] [] σ2) else (Ci E TC yX0_slant iX0_slant d [.ref 139, .int x2] σ2 (fun v6 σ5 => if v6 ≤ (σ5 1 1) then (Wv E TC iX0_tick (d + 1) Q 43 [(0, .ref 139), (1, .int x1), (2, .int (x2 + 1))] [] σ5) else (Ci E TC yX8_thingsOf iX8_thingsOf d [.ref 9, .int x2] σ5 (fun v9 σ8 => Ci E TC yX5_heaviestOf iX5_heaviestOf d [.ref 1, .int v9] σ8 (fun v11 σ10 => Cv E TC yX8_put iX8_put d [.ref 9, .int v11, .int (-2)] σ10 (fun σ12 => Wv E TC iX0_tick (d + 1) Q 43 [(0, .ref 139), (1, .int x1), (2, .int (x2 + 1))] [] σ12))))))))) : Wv E TC iX0_tick (d + 1) Q 43 [(0, .ref 139), (1, .int x1), (2, .int x2)] [] σ := by
  refine wp_iload_n 2 dX0_tick_43 rfl rfl rfl ?_
  refine wp_aload_n 0 dX0_tick_44 rfl rfl rfl ?_
  refine wp_getR 0 0 kcX0 kfX0_15 rfl lC_139 (congrArg Prod.fst gC_139) rC_139_0 dX0_tick_45 rfl ?_
  refine wp_getI 5 3 kcX5 kfX0_52 rfl lC_1 (congrArg Prod.fst gC_1) dX0_tick_48 rfl ?_
  refine wp_icmp_ge 107 dX0_tick_51 (by decide) rfl (fun h1 => ?_) (fun h1 => ?_)
  · rw [if_pos h1] at K
    refine wp_aload_n 0 dX0_tick_107 rfl rfl rfl ?_
    refine wp_getR 0 1 kcX0 kfX0_19 rfl lC_139 (congrArg Prod.fst gC_139) rC_139_1 dX0_tick_108 rfl ?_
    refine wp_dup dX0_tick_111 rfl rfl ?_
    refine wp_getI 8 0 kcX8 kfX0_73 rfl lC_9 (congrArg Prod.fst gC_9) dX0_tick_112 rfl ?_
    refine wp_iconst (v := 1) dX0_tick_115 rfl (by decide) ?_
    refine wp_iadd dX0_tick_116 rfl ?_
    refine wp_putI 8 0 kcX8 kfX0_73 rfl rfl rfl rfl lC_9 (congrArg Prod.fst gC_9) dX0_tick_117 rfl ?_
    exact wp_vret rfl (Nat.le_refl 0) (Nat.le_refl 0) dX0_tick_120 ⟨rfl, rfl, K⟩
  · rw [if_neg h1] at K
    refine wp_iload_n 1 dX0_tick_54 rfl rfl rfl ?_
    refine wp_iload_n 2 dX0_tick_55 rfl rfl rfl ?_
    refine wn_callNi (As := [.int x1, .int x2]) (rest := []) kmX0_56 (by decide) rfl rfl (Nat.le_of_ble_eq_true rfl) dX0_tick_56 rfl ?_
    refine Ci.mono K (fun v3 σ2 K => ?_)
    refine wp_if_eq 101 dX0_tick_59 (by decide) rfl (fun h4 => ?_) (fun h4 => ?_)
    · rw [if_pos h4] at K
      refine wp_iinc (v := x2 + 1) 2 [1, 2, 0] dX0_tick_101 rfl (by decide) rfl rfl rfl ?_
      show WP _ _ _ _ _ _ _ 104 [(0, .ref 139), (1, .int x1), (2, .int (x2 + 1))] _ _ _
      refine wp_goto 43 dX0_tick_104 (by decide) ?_
      exact K
    · rw [if_neg h4] at K
      refine wp_aload_n 0 dX0_tick_62 rfl rfl rfl ?_
      refine wp_iload_n 2 dX0_tick_63 rfl rfl rfl ?_
      refine wn_callVi (As := [.int x2]) (rest := []) 0 kmX0_60 (by decide) rfl rfl (Nat.le_of_ble_eq_true rfl) lC_139 (congrArg Prod.fst gC_139) dX0_tick_64 rfl ?_
      refine Ci.mono K (fun v6 σ5 K => ?_)
      refine wp_aload_n 0 dX0_tick_67 rfl rfl rfl ?_
      refine wp_getR 0 0 kcX0 kfX0_15 rfl lC_139 (congrArg Prod.fst gC_139) rC_139_0 dX0_tick_68 rfl ?_
      refine wp_getI 5 1 kcX5 kfX0_63 rfl lC_1 (congrArg Prod.fst gC_1) dX0_tick_71 rfl ?_
      refine wp_icmp_le 101 dX0_tick_74 (by decide) rfl (fun h7 => ?_) (fun h7 => ?_)
      · rw [if_pos h7] at K
        refine wp_iinc (v := x2 + 1) 2 [1, 2, 0] dX0_tick_101 rfl (by decide) rfl rfl rfl ?_
        show WP _ _ _ _ _ _ _ 104 [(0, .ref 139), (1, .int x1), (2, .int (x2 + 1))] _ _ _
        refine wp_goto 43 dX0_tick_104 (by decide) ?_
        exact K
      · rw [if_neg h7] at K
        refine wp_aload_n 0 dX0_tick_77 rfl rfl rfl ?_
        refine wp_getR 0 1 kcX0 kfX0_19 rfl lC_139 (congrArg Prod.fst gC_139) rC_139_1 dX0_tick_78 rfl ?_
        refine wp_aload_n 0 dX0_tick_81 rfl rfl rfl ?_
        refine wp_getR 0 0 kcX0 kfX0_15 rfl lC_139 (congrArg Prod.fst gC_139) rC_139_0 dX0_tick_82 rfl ?_
        refine wp_aload_n 0 dX0_tick_85 rfl rfl rfl ?_
        refine wp_getR 0 1 kcX0 kfX0_19 rfl lC_139 (congrArg Prod.fst gC_139) rC_139_1 dX0_tick_86 rfl ?_
        refine wp_iload_n 2 dX0_tick_89 rfl rfl rfl ?_
        refine wn_callVi (As := [.int x2]) (rest := [.ref 1, .ref 9]) 8 kmX0_23 (by decide) rfl rfl (Nat.le_of_ble_eq_true rfl) lC_9 (congrArg Prod.fst gC_9) dX0_tick_90 rfl ?_
        refine Ci.mono K (fun v9 σ8 K => ?_)
        refine wn_callVi (As := [.int v9]) (rest := [.ref 9]) 5 kmX0_66 (by decide) rfl rfl (Nat.le_of_ble_eq_true rfl) lC_1 (congrArg Prod.fst gC_1) dX0_tick_93 rfl ?_
        refine Ci.mono K (fun v11 σ10 K => ?_)
        refine wp_bipush (v := (-2)) dX0_tick_96 rfl (by decide) ?_
        refine wn_callVv (As := [.int v11, .int (-2)]) (rest := []) 8 kmX0_69 (by decide) rfl rfl (Nat.le_of_ble_eq_true rfl) lC_9 (congrArg Prod.fst gC_9) dX0_tick_98 rfl ?_
        refine Cv.mono K (fun σ12 K => ?_)
        refine wp_iinc (v := x2 + 1) 2 [1, 2, 0] dX0_tick_101 rfl (by decide) rfl rfl rfl ?_
        show WP _ _ _ _ _ _ _ 104 [(0, .ref 139), (1, .int x1), (2, .int (x2 + 1))] _ _ _
        refine wp_goto 43 dX0_tick_104 (by decide) ?_
        exact K
theorem bX0_countMeetings_0 {E : tp_E} {d : Nat} {Q : Int32 → tp_M → Prop} {σ : tp_M}    (K : Wi E TC iX0_countMeetings (d + 1) Q 4 [(0, .ref 139), (1, .int 0), (2, .int 0)] [] σ) : Wi E TC iX0_countMeetings (d + 1) Q 0 [(0, .ref 139)] [] σ := by
  refine wp_iconst (v := 0) dX0_countMeetings_0 rfl (by decide) ?_
  refine wp_istore_n [1, 0] dX0_countMeetings_1 rfl rfl (by decide) rfl ?_
  show WP _ _ _ _ _ _ _ 2 [(0, .ref 139), (1, .int 0)] _ _ _
  refine wp_iconst (v := 0) dX0_countMeetings_2 rfl (by decide) ?_
  refine wp_istore_n [1, 2, 0] dX0_countMeetings_3 rfl rfl (by decide) rfl ?_
  show WP _ _ _ _ _ _ _ 4 [(0, .ref 139), (1, .int 0), (2, .int 0)] _ _ _
  exact K
theorem eX0_countMeetings {E : tp_E} {d : Nat} {Q : Int32 → tp_M → Prop} {σ : tp_M}    (K : Wi E TC iX0_countMeetings (d + 1) Q 4 [(0, .ref 139), (1, .int 0), (2, .int 0)] [] σ) : Ci E TC yX0_countMeetings iX0_countMeetings (d + 1) [.ref 139] σ Q := Ci.of ⟨by decide +kernel, rfl, rfl⟩ (Nat.le_of_ble_eq_true rfl) (bX0_countMeetings_0   K)
theorem bX0_countMeetings_4 {E : tp_E} {d : Nat} {Q : Int32 → tp_M → Prop} {σ : tp_M}   (x1 : Int32) (x2 : Int32) (K : if (σ 1 3) ≤ x2 then (Q x1 σ) else (Wi E TC iX0_countMeetings (d + 1) Q 19 [(0, .ref 139), (1, .int x1), (2, .int x2), (3, .int (x2 + 1))] [] σ)) : Wi E TC iX0_countMeetings (d + 1) Q 4 [(0, .ref 139), (1, .int x1), (2, .int x2)] [] σ := by
  refine wp_iload_n 2 dX0_countMeetings_4 rfl rfl rfl ?_
  refine wp_aload_n 0 dX0_countMeetings_5 rfl rfl rfl ?_
  refine wp_getR 0 0 kcX0 kfX0_15 rfl lC_139 (congrArg Prod.fst gC_139) rC_139_0 dX0_countMeetings_6 rfl ?_
  refine wp_getI 5 3 kcX5 kfX0_52 rfl lC_1 (congrArg Prod.fst gC_1) dX0_countMeetings_9 rfl ?_
  refine wp_icmp_ge 92 dX0_countMeetings_12 (by decide) rfl (fun h1 => ?_) (fun h1 => ?_)
  · rw [if_pos h1] at K
    refine wp_iload_n 1 dX0_countMeetings_92 rfl rfl rfl ?_
    exact wp_ret .int rfl rfl (Nat.le_refl 0) (Nat.le_refl 0) dX0_countMeetings_93 ⟨rfl, _, rfl, K⟩
  · rw [if_neg h1] at K
    refine wp_iload_n 2 dX0_countMeetings_15 rfl rfl rfl ?_
    refine wp_iconst (v := 1) dX0_countMeetings_16 rfl (by decide) ?_
    refine wp_iadd dX0_countMeetings_17 rfl ?_
    refine wp_istore_n [1, 2, 3, 0] dX0_countMeetings_18 rfl rfl (by decide) rfl ?_
    show WP _ _ _ _ _ _ _ 19 [(0, .ref 139), (1, .int x1), (2, .int x2), (3, .int (x2 + 1))] _ _ _
    exact K
theorem bX0_countMeetings_19 {E : tp_E} {d : Nat} {Q : Int32 → tp_M → Prop} {σ : tp_M}   (x1 : Int32) (x2 : Int32) (x3 : Int32) (K : if (σ 1 3) ≤ x3 then (Wi E TC iX0_countMeetings (d + 1) Q 4 [(0, .ref 139), (1, .int x1), (2, .int (x2 + 1))] [] σ) else (Ci E TC yX0_haveMet iX0_haveMet d [.ref 139, .int x2, .int x3] σ (fun v3 σ2 => if v3 = 0 then (Wi E TC iX0_countMeetings (d + 1) Q 19 [(0, .ref 139), (1, .int x1), (2, .int x2), (3, .int (x3 + 1))] [] σ2) else (Ci E TC yX8_treatiesOf iX8_treatiesOf d [.ref 9, .int x2] (tp_u σ2 9 1 ((σ2 9 1) + 1)) (fun v6 σ5 => Ci E TC yX9_has iX9_has d [.int v6, .int x3] σ5 (fun v8 σ7 => if v8 = 0 then (Wi E TC iX0_countMeetings (d + 1) Q 19 [(0, .ref 139), (1, .int (x1 ||| ((1 <<< (x2 &&& 31)) ||| (1 <<< (x3 &&& 31))))), (2, .int x2), (3, .int (x3 + 1))] [] σ7) else (Wi E TC iX0_countMeetings (d + 1) Q 19 [(0, .ref 139), (1, .int x1), (2, .int x2), (3, .int (x3 + 1))] [] σ7))))))) : Wi E TC iX0_countMeetings (d + 1) Q 19 [(0, .ref 139), (1, .int x1), (2, .int x2), (3, .int x3)] [] σ := by
  refine wp_iload_n 3 dX0_countMeetings_19 rfl rfl rfl ?_
  refine wp_aload_n 0 dX0_countMeetings_20 rfl rfl rfl ?_
  refine wp_getR 0 0 kcX0 kfX0_15 rfl lC_139 (congrArg Prod.fst gC_139) rC_139_0 dX0_countMeetings_21 rfl ?_
  refine wp_getI 5 3 kcX5 kfX0_52 rfl lC_1 (congrArg Prod.fst gC_1) dX0_countMeetings_24 rfl ?_
  refine wp_icmp_ge 86 dX0_countMeetings_27 (by decide) rfl (fun h1 => ?_) (fun h1 => ?_)
  · rw [if_pos h1] at K
    refine wp_iinc (v := x2 + 1) 2 [1, 2, 0, 3] dX0_countMeetings_86 rfl (by decide) rfl rfl rfl ?_
    show WP _ _ _ _ _ _ _ 89 [(0, .ref 139), (1, .int x1), (2, .int (x2 + 1)), (3, .int x3)] _ _ _
    refine wp_goto 4 dX0_countMeetings_89 (by decide) ?_
    refine wp_lv [0, 1, 2] rfl ?_
    exact K
  · rw [if_neg h1] at K
    refine wp_aload_n 0 dX0_countMeetings_30 rfl rfl rfl ?_
    refine wp_iload_n 2 dX0_countMeetings_31 rfl rfl rfl ?_
    refine wp_iload_n 3 dX0_countMeetings_32 rfl rfl rfl ?_
    refine wn_callVi (As := [.int x2, .int x3]) (rest := []) 0 kmX0_76 (by decide) rfl rfl (Nat.le_of_ble_eq_true rfl) lC_139 (congrArg Prod.fst gC_139) dX0_countMeetings_33 rfl ?_
    refine Ci.mono K (fun v3 σ2 K => ?_)
    refine wp_if_ne 42 dX0_countMeetings_36 (by decide) rfl (fun h4 => ?_) (fun h4 => ?_)
    · rw [if_neg h4] at K
      refine wp_aload_n 0 dX0_countMeetings_42 rfl rfl rfl ?_
      refine wp_getR 0 1 kcX0 kfX0_19 rfl lC_139 (congrArg Prod.fst gC_139) rC_139_1 dX0_countMeetings_43 rfl ?_
      refine wp_dup dX0_countMeetings_46 rfl rfl ?_
      refine wp_getI 8 1 kcX8 kfX0_79 rfl lC_9 (congrArg Prod.fst gC_9) dX0_countMeetings_47 rfl ?_
      refine wp_iconst (v := 1) dX0_countMeetings_50 rfl (by decide) ?_
      refine wp_iadd dX0_countMeetings_51 rfl ?_
      refine wp_putI 8 1 kcX8 kfX0_79 rfl rfl rfl rfl lC_9 (congrArg Prod.fst gC_9) dX0_countMeetings_52 rfl ?_
      refine wp_aload_n 0 dX0_countMeetings_55 rfl rfl rfl ?_
      refine wp_getR 0 1 kcX0 kfX0_19 rfl lC_139 (congrArg Prod.fst gC_139) rC_139_1 dX0_countMeetings_56 rfl ?_
      refine wp_iload_n 2 dX0_countMeetings_59 rfl rfl rfl ?_
      refine wn_callVi (As := [.int x2]) (rest := []) 8 kmX0_82 (by decide) rfl rfl (Nat.le_of_ble_eq_true rfl) lC_9 (congrArg Prod.fst gC_9) dX0_countMeetings_60 rfl ?_
      refine Ci.mono K (fun v6 σ5 K => ?_)
      refine wp_iload_n 3 dX0_countMeetings_63 rfl rfl rfl ?_
      refine wn_callNi (As := [.int v6, .int x3]) (rest := []) kmX0_56 (by decide) rfl rfl (Nat.le_of_ble_eq_true rfl) dX0_countMeetings_64 rfl ?_
      refine Ci.mono K (fun v8 σ7 K => ?_)
      refine wp_if_ne 80 dX0_countMeetings_67 (by decide) rfl (fun h9 => ?_) (fun h9 => ?_)
      · rw [if_neg h9] at K
        refine wp_iinc (v := x3 + 1) 3 [1, 2, 3, 0] dX0_countMeetings_80 rfl (by decide) rfl rfl rfl ?_
        show WP _ _ _ _ _ _ _ 83 [(0, .ref 139), (1, .int x1), (2, .int x2), (3, .int (x3 + 1))] _ _ _
        refine wp_goto 19 dX0_countMeetings_83 (by decide) ?_
        exact K
      · rw [if_pos h9] at K
        refine wp_iload_n 1 dX0_countMeetings_70 rfl rfl rfl ?_
        refine wp_iconst (v := 1) dX0_countMeetings_71 rfl (by decide) ?_
        refine wp_iload_n 2 dX0_countMeetings_72 rfl rfl rfl ?_
        refine wp_ishl dX0_countMeetings_73 rfl ?_
        refine wp_iconst (v := 1) dX0_countMeetings_74 rfl (by decide) ?_
        refine wp_iload_n 3 dX0_countMeetings_75 rfl rfl rfl ?_
        refine wp_ishl dX0_countMeetings_76 rfl ?_
        refine wp_ior dX0_countMeetings_77 rfl ?_
        refine wp_ior dX0_countMeetings_78 rfl ?_
        refine wp_istore_n [1, 0, 2, 3] dX0_countMeetings_79 rfl rfl (by decide) rfl ?_
        show WP _ _ _ _ _ _ _ 80 [(0, .ref 139), (1, .int (x1 ||| ((1 <<< (x2 &&& 31)) ||| (1 <<< (x3 &&& 31))))), (2, .int x2), (3, .int x3)] _ _ _
        refine wp_iinc (v := x3 + 1) 3 [1, 2, 3, 0] dX0_countMeetings_80 rfl (by decide) rfl rfl rfl ?_
        show WP _ _ _ _ _ _ _ 83 [(0, .ref 139), (1, .int (x1 ||| ((1 <<< (x2 &&& 31)) ||| (1 <<< (x3 &&& 31))))), (2, .int x2), (3, .int (x3 + 1))] _ _ _
        refine wp_goto 19 dX0_countMeetings_83 (by decide) ?_
        exact K
    · rw [if_pos h4] at K
      refine wp_goto 80 dX0_countMeetings_39 (by decide) ?_
      refine wp_iinc (v := x3 + 1) 3 [1, 2, 3, 0] dX0_countMeetings_80 rfl (by decide) rfl rfl rfl ?_
      show WP _ _ _ _ _ _ _ 83 [(0, .ref 139), (1, .int x1), (2, .int x2), (3, .int (x3 + 1))] _ _ _
      refine wp_goto 19 dX0_countMeetings_83 (by decide) ?_
      exact K
theorem bX0_haveMet_0 {E : tp_E} {d : Nat} {Q : Int32 → tp_M → Prop} {σ : tp_M}   (x1 : Int32) (x2 : Int32) (K : Ci E TC yX5_hasTwoWaiters iX5_hasTwoWaiters d [.ref 1, .int x1, .int x2] σ (fun v2 σ1 => if v2 = 0 then (Q 0 σ1) else (vp_in x1 4 ∧ (vp_in x1 4 ∧ (vp_in x2 4 ∧ (vp_in x2 4 ∧ (Ci E TC yX0_meetBetween iX0_meetBetween d [.int (σ1 140 (Int32.toNatClampNeg x1)), .int (σ1 10 (Int32.toNatClampNeg x1)), .int (σ1 140 (Int32.toNatClampNeg x2)), .int (σ1 10 (Int32.toNatClampNeg x2))] σ1 (fun v9 σ8 => (v9 = 0 ∨ v9 = 1) ∧ (Q v9 σ8))))))))) : Wi E TC iX0_haveMet (d + 1) Q 0 [(0, .ref 139), (1, .int x1), (2, .int x2)] [] σ := by
  refine wp_aload_n 0 dX0_haveMet_0 rfl rfl rfl ?_
  refine wp_getR 0 0 kcX0 kfX0_15 rfl lC_139 (congrArg Prod.fst gC_139) rC_139_0 dX0_haveMet_1 rfl ?_
  refine wp_iload_n 1 dX0_haveMet_4 rfl rfl rfl ?_
  refine wp_iload_n 2 dX0_haveMet_5 rfl rfl rfl ?_
  refine wn_callVi (As := [.int x1, .int x2]) (rest := []) 5 kmX0_85 (by decide) rfl rfl (Nat.le_of_ble_eq_true rfl) lC_1 (congrArg Prod.fst gC_1) dX0_haveMet_6 rfl ?_
  refine Ci.mono K (fun v2 σ1 K => ?_)
  refine wp_if_ne 14 dX0_haveMet_9 (by decide) rfl (fun h3 => ?_) (fun h3 => ?_)
  · rw [if_neg h3] at K
    refine wp_aload_n 0 dX0_haveMet_14 rfl rfl rfl ?_
    refine wp_getR 0 2 kcX0 kfX0_9 rfl lC_139 (congrArg Prod.fst gC_139) rC_139_2 dX0_haveMet_15 rfl ?_
    refine wp_iload_n 1 dX0_haveMet_18 rfl rfl rfl ?_
    obtain ⟨k4, K⟩ := K
    refine wn_iald lC_140 gC_140 k4 dX0_haveMet_19 rfl ?_
    refine wp_aload_n 0 dX0_haveMet_20 rfl rfl rfl ?_
    refine wp_getR 0 1 kcX0 kfX0_19 rfl lC_139 (congrArg Prod.fst gC_139) rC_139_1 dX0_haveMet_21 rfl ?_
    refine wp_getR 8 2 kcX8 kfX0_41 rfl lC_9 (congrArg Prod.fst gC_9) rC_9_2 dX0_haveMet_24 rfl ?_
    refine wp_iload_n 1 dX0_haveMet_27 rfl rfl rfl ?_
    obtain ⟨k5, K⟩ := K
    refine wn_iald lC_10 gC_10 k5 dX0_haveMet_28 rfl ?_
    refine wp_aload_n 0 dX0_haveMet_29 rfl rfl rfl ?_
    refine wp_getR 0 2 kcX0 kfX0_9 rfl lC_139 (congrArg Prod.fst gC_139) rC_139_2 dX0_haveMet_30 rfl ?_
    refine wp_iload_n 2 dX0_haveMet_33 rfl rfl rfl ?_
    obtain ⟨k6, K⟩ := K
    refine wn_iald lC_140 gC_140 k6 dX0_haveMet_34 rfl ?_
    refine wp_aload_n 0 dX0_haveMet_35 rfl rfl rfl ?_
    refine wp_getR 0 1 kcX0 kfX0_19 rfl lC_139 (congrArg Prod.fst gC_139) rC_139_1 dX0_haveMet_36 rfl ?_
    refine wp_getR 8 2 kcX8 kfX0_41 rfl lC_9 (congrArg Prod.fst gC_9) rC_9_2 dX0_haveMet_39 rfl ?_
    refine wp_iload_n 2 dX0_haveMet_42 rfl rfl rfl ?_
    obtain ⟨k7, K⟩ := K
    refine wn_iald lC_10 gC_10 k7 dX0_haveMet_43 rfl ?_
    refine wn_callSi (As := [.int (σ1 140 (Int32.toNatClampNeg x1)), .int (σ1 10 (Int32.toNatClampNeg x1)), .int (σ1 140 (Int32.toNatClampNeg x2)), .int (σ1 10 (Int32.toNatClampNeg x2))]) (rest := []) kmX0_88 (by decide) rfl rfl (Nat.le_of_ble_eq_true rfl) dX0_haveMet_44 rfl ?_
    refine Ci.mono K (fun v9 σ8 K => ?_)
    obtain ⟨k10, K⟩ := K
    exact wp_ret .boolean rfl (bool_nar k10) (Nat.le_refl 0) (Nat.le_refl 0) dX0_haveMet_47 ⟨rfl, _, rfl, K⟩
  · rw [if_pos h3] at K
    refine wp_iconst (v := 0) dX0_haveMet_12 rfl (by decide) ?_
    exact wp_ret .boolean rfl rfl (Nat.le_refl 0) (Nat.le_refl 0) dX0_haveMet_13 ⟨rfl, _, rfl, K⟩
theorem eX0_haveMet {E : tp_E} {d : Nat} {Q : Int32 → tp_M → Prop} {σ : tp_M}   (x1 : Int32) (x2 : Int32) (K : Ci E TC yX5_hasTwoWaiters iX5_hasTwoWaiters d [.ref 1, .int x1, .int x2] σ (fun v2 σ1 => if v2 = 0 then (Q 0 σ1) else (vp_in x1 4 ∧ (vp_in x1 4 ∧ (vp_in x2 4 ∧ (vp_in x2 4 ∧ (Ci E TC yX0_meetBetween iX0_meetBetween d [.int (σ1 140 (Int32.toNatClampNeg x1)), .int (σ1 10 (Int32.toNatClampNeg x1)), .int (σ1 140 (Int32.toNatClampNeg x2)), .int (σ1 10 (Int32.toNatClampNeg x2))] σ1 (fun v9 σ8 => (v9 = 0 ∨ v9 = 1) ∧ (Q v9 σ8))))))))) : Ci E TC yX0_haveMet iX0_haveMet (d + 1) [.ref 139, .int x1, .int x2] σ Q := Ci.of ⟨by decide +kernel, rfl, rfl⟩ (Nat.le_of_ble_eq_true rfl) (bX0_haveMet_0  x1 x2 K)
theorem bX0_drawRoute_0 {E : tp_E} {d : Nat} {Q : tp_M → Prop} {σ : tp_M}    (K : if (σ 1 3) = 0 then (Q σ) else (Ci E TC yX0_draw iX0_draw d [.ref 139, .int (σ 1 3)] σ (fun v3 σ2 => Ci E TC yX8_roomOf iX8_roomOf d [.ref 9, .int v3] σ2 (fun v5 σ4 => Ci E TC yX5_joinedTo iX5_joinedTo d [.ref 1, .int v5] σ4 (fun v7 σ6 => Ci E TC yX8_routeOf iX8_routeOf d [.ref 9, .int v3] σ6 (fun v9 σ8 => if v9 = 0 then (if v7 = 0 then (Q σ8) else (Ci E TC yJ6_bitCount_0f7a4 iJ6_bitCount_0f7a4 d [.int v7] σ8 (fun v13 σ12 => Ci E TC yX0_draw iX0_draw d [.ref 139, .int v13] σ12 (fun v15 σ14 => Ci E TC yX0_memberOf iX0_memberOf d [.int v7, .int v15] σ14 (fun v17 σ16 => Cv E TC yX8_setRoute iX8_setRoute d [.ref 9, .int v3, .int (v17 + 1)] σ16 (fun σ18 => Q σ18)))))) else (Q σ8))))))) : Wv E TC iX0_drawRoute (d + 1) Q 0 [(0, .ref 139)] [] σ := by
  refine wp_aload_n 0 dX0_drawRoute_0 rfl rfl rfl ?_
  refine wp_getR 0 0 kcX0 kfX0_15 rfl lC_139 (congrArg Prod.fst gC_139) rC_139_0 dX0_drawRoute_1 rfl ?_
  refine wp_getI 5 3 kcX5 kfX0_52 rfl lC_1 (congrArg Prod.fst gC_1) dX0_drawRoute_4 rfl ?_
  refine wp_if_ne 11 dX0_drawRoute_7 (by decide) rfl (fun h1 => ?_) (fun h1 => ?_)
  · rw [if_neg h1] at K
    refine wp_aload_n 0 dX0_drawRoute_11 rfl rfl rfl ?_
    refine wp_aload_n 0 dX0_drawRoute_12 rfl rfl rfl ?_
    refine wp_getR 0 0 kcX0 kfX0_15 rfl lC_139 (congrArg Prod.fst gC_139) rC_139_0 dX0_drawRoute_13 rfl ?_
    refine wp_getI 5 3 kcX5 kfX0_52 rfl lC_1 (congrArg Prod.fst gC_1) dX0_drawRoute_16 rfl ?_
    refine wn_callVi (As := [.int (σ 1 3)]) (rest := []) 0 kmX0_92 (by decide) rfl rfl (Nat.le_of_ble_eq_true rfl) lC_139 (congrArg Prod.fst gC_139) dX0_drawRoute_19 rfl ?_
    refine Ci.mono K (fun v3 σ2 K => ?_)
    refine wp_istore_n [1, 0] dX0_drawRoute_22 rfl rfl (by decide) rfl ?_
    show WP _ _ _ _ _ _ _ 23 [(0, .ref 139), (1, .int v3)] _ _ _
    refine wp_aload_n 0 dX0_drawRoute_23 rfl rfl rfl ?_
    refine wp_getR 0 0 kcX0 kfX0_15 rfl lC_139 (congrArg Prod.fst gC_139) rC_139_0 dX0_drawRoute_24 rfl ?_
    refine wp_aload_n 0 dX0_drawRoute_27 rfl rfl rfl ?_
    refine wp_getR 0 1 kcX0 kfX0_19 rfl lC_139 (congrArg Prod.fst gC_139) rC_139_1 dX0_drawRoute_28 rfl ?_
    refine wp_iload_n 1 dX0_drawRoute_31 rfl rfl rfl ?_
    refine wn_callVi (As := [.int v3]) (rest := [.ref 1]) 8 kmX0_95 (by decide) rfl rfl (Nat.le_of_ble_eq_true rfl) lC_9 (congrArg Prod.fst gC_9) dX0_drawRoute_32 rfl ?_
    refine Ci.mono K (fun v5 σ4 K => ?_)
    refine wn_callVi (As := [.int v5]) (rest := []) 5 kmX0_98 (by decide) rfl rfl (Nat.le_of_ble_eq_true rfl) lC_1 (congrArg Prod.fst gC_1) dX0_drawRoute_35 rfl ?_
    refine Ci.mono K (fun v7 σ6 K => ?_)
    refine wp_istore_n [1, 2, 0] dX0_drawRoute_38 rfl rfl (by decide) rfl ?_
    show WP _ _ _ _ _ _ _ 39 [(0, .ref 139), (1, .int v3), (2, .int v7)] _ _ _
    refine wp_aload_n 0 dX0_drawRoute_39 rfl rfl rfl ?_
    refine wp_getR 0 1 kcX0 kfX0_19 rfl lC_139 (congrArg Prod.fst gC_139) rC_139_1 dX0_drawRoute_40 rfl ?_
    refine wp_iload_n 1 dX0_drawRoute_43 rfl rfl rfl ?_
    refine wn_callVi (As := [.int v3]) (rest := []) 8 kmX0_101 (by decide) rfl rfl (Nat.le_of_ble_eq_true rfl) lC_9 (congrArg Prod.fst gC_9) dX0_drawRoute_44 rfl ?_
    refine Ci.mono K (fun v9 σ8 K => ?_)
    refine wp_if_ne 76 dX0_drawRoute_47 (by decide) rfl (fun h10 => ?_) (fun h10 => ?_)
    · rw [if_neg h10] at K
      exact wp_vret rfl (Nat.le_refl 0) (Nat.le_refl 0) dX0_drawRoute_76 ⟨rfl, rfl, K⟩
    · rw [if_pos h10] at K
      refine wp_iload_n 2 dX0_drawRoute_50 rfl rfl rfl ?_
      refine wp_if_eq 76 dX0_drawRoute_51 (by decide) rfl (fun h11 => ?_) (fun h11 => ?_)
      · rw [if_pos h11] at K
        exact wp_vret rfl (Nat.le_refl 0) (Nat.le_refl 0) dX0_drawRoute_76 ⟨rfl, rfl, K⟩
      · rw [if_neg h11] at K
        refine wp_aload_n 0 dX0_drawRoute_54 rfl rfl rfl ?_
        refine wp_getR 0 1 kcX0 kfX0_19 rfl lC_139 (congrArg Prod.fst gC_139) rC_139_1 dX0_drawRoute_55 rfl ?_
        refine wp_iload_n 1 dX0_drawRoute_58 rfl rfl rfl ?_
        refine wp_iload_n 2 dX0_drawRoute_59 rfl rfl rfl ?_
        refine wp_aload_n 0 dX0_drawRoute_60 rfl rfl rfl ?_
        refine wp_iload_n 2 dX0_drawRoute_61 rfl rfl rfl ?_
        refine wn_callSi (As := [.int v7]) (rest := [.ref 139, .int v7, .int v3, .ref 9]) kmX0_104 (by decide) rfl rfl (Nat.le_of_ble_eq_true rfl) dX0_drawRoute_62 rfl ?_
        refine Ci.mono K (fun v13 σ12 K => ?_)
        refine wn_callVi (As := [.int v13]) (rest := [.int v7, .int v3, .ref 9]) 0 kmX0_92 (by decide) rfl rfl (Nat.le_of_ble_eq_true rfl) lC_139 (congrArg Prod.fst gC_139) dX0_drawRoute_65 rfl ?_
        refine Ci.mono K (fun v15 σ14 K => ?_)
        refine wn_callSi (As := [.int v7, .int v15]) (rest := [.int v3, .ref 9]) kmX0_109 (by decide) rfl rfl (Nat.le_of_ble_eq_true rfl) dX0_drawRoute_68 rfl ?_
        refine Ci.mono K (fun v17 σ16 K => ?_)
        refine wp_iconst (v := 1) dX0_drawRoute_71 rfl (by decide) ?_
        refine wp_iadd dX0_drawRoute_72 rfl ?_
        refine wn_callVv (As := [.int v3, .int (v17 + 1)]) (rest := []) 8 kmX0_112 (by decide) rfl rfl (Nat.le_of_ble_eq_true rfl) lC_9 (congrArg Prod.fst gC_9) dX0_drawRoute_73 rfl ?_
        refine Cv.mono K (fun σ18 K => ?_)
        exact wp_vret rfl (Nat.le_refl 0) (Nat.le_refl 0) dX0_drawRoute_76 ⟨rfl, rfl, K⟩
  · rw [if_pos h1] at K
    exact wp_vret rfl (Nat.le_refl 0) (Nat.le_refl 0) dX0_drawRoute_10 ⟨rfl, rfl, K⟩
theorem eX0_drawRoute {E : tp_E} {d : Nat} {Q : tp_M → Prop} {σ : tp_M}    (K : if (σ 1 3) = 0 then (Q σ) else (Ci E TC yX0_draw iX0_draw d [.ref 139, .int (σ 1 3)] σ (fun v3 σ2 => Ci E TC yX8_roomOf iX8_roomOf d [.ref 9, .int v3] σ2 (fun v5 σ4 => Ci E TC yX5_joinedTo iX5_joinedTo d [.ref 1, .int v5] σ4 (fun v7 σ6 => Ci E TC yX8_routeOf iX8_routeOf d [.ref 9, .int v3] σ6 (fun v9 σ8 => if v9 = 0 then (if v7 = 0 then (Q σ8) else (Ci E TC yJ6_bitCount_0f7a4 iJ6_bitCount_0f7a4 d [.int v7] σ8 (fun v13 σ12 => Ci E TC yX0_draw iX0_draw d [.ref 139, .int v13] σ12 (fun v15 σ14 => Ci E TC yX0_memberOf iX0_memberOf d [.int v7, .int v15] σ14 (fun v17 σ16 => Cv E TC yX8_setRoute iX8_setRoute d [.ref 9, .int v3, .int (v17 + 1)] σ16 (fun σ18 => Q σ18)))))) else (Q σ8))))))) : Cv E TC yX0_drawRoute iX0_drawRoute (d + 1) [.ref 139] σ Q := Cv.of ⟨by decide +kernel, rfl, rfl⟩ (Nat.le_of_ble_eq_true rfl) (bX0_drawRoute_0   K)
theorem bX0_draw_0 {E : tp_E} {d : Nat} {Q : Int32 → tp_M → Prop} {σ : tp_M}   (x1 : Int32) (K : if x1 ≤ 0 then (Q 0 (tp_u σ 139 3 (Int64.toInt32 ((((Int32.toInt64 (σ 139 3)) * 1103515245) + 12345) - (((Int32.toInt64 (σ 139 3)) * 1103515245) + 12345) / 2147483648 * 2147483648)))) else ((¬ x1 = 0) ∧ (Q ((((tp_u σ 139 3 (Int64.toInt32 ((((Int32.toInt64 (σ 139 3)) * 1103515245) + 12345) - (((Int32.toInt64 (σ 139 3)) * 1103515245) + 12345) / 2147483648 * 2147483648))) 139 3) / 65536) - (((tp_u σ 139 3 (Int64.toInt32 ((((Int32.toInt64 (σ 139 3)) * 1103515245) + 12345) - (((Int32.toInt64 (σ 139 3)) * 1103515245) + 12345) / 2147483648 * 2147483648))) 139 3) / 65536) / x1 * x1) (tp_u σ 139 3 (Int64.toInt32 ((((Int32.toInt64 (σ 139 3)) * 1103515245) + 12345) - (((Int32.toInt64 (σ 139 3)) * 1103515245) + 12345) / 2147483648 * 2147483648)))))) : Wi E TC iX0_draw d Q 0 [(0, .ref 139), (1, .int x1)] [] σ := by
  refine wp_aload_n 0 dX0_draw_0 rfl rfl rfl ?_
  refine wp_aload_n 0 dX0_draw_1 rfl rfl rfl ?_
  refine wp_getI 0 3 kcX0 kfX0_115 rfl lC_139 (congrArg Prod.fst gC_139) dX0_draw_2 rfl ?_
  refine wp_i2l dX0_draw_5 rfl ?_
  refine wp_ldc2 dX0_draw_6 rfl tw_697 ?_
  refine wp_lmul dX0_draw_9 rfl ?_
  refine wp_ldc2 dX0_draw_10 rfl tw_698 ?_
  refine wp_ladd dX0_draw_13 rfl ?_
  refine wp_ldc2 dX0_draw_14 rfl tw_699 ?_
  refine wp_lrem dX0_draw_17 rfl (by decide) ?_
  refine wp_l2i dX0_draw_18 rfl ?_
  refine wp_putI 0 3 kcX0 kfX0_115 rfl rfl rfl rfl lC_139 (congrArg Prod.fst gC_139) dX0_draw_19 rfl ?_
  refine wp_iload_n 1 dX0_draw_22 rfl rfl rfl ?_
  refine wp_if_le 38 dX0_draw_23 (by decide) rfl (fun h1 => ?_) (fun h1 => ?_)
  · rw [if_pos h1] at K
    refine wp_iconst (v := 0) dX0_draw_38 rfl (by decide) ?_
    exact wp_ret .int rfl rfl (Nat.le_refl 0) (Nat.le_refl 0) dX0_draw_39 ⟨rfl, _, rfl, K⟩
  · rw [if_neg h1] at K
    refine wp_aload_n 0 dX0_draw_26 rfl rfl rfl ?_
    refine wp_getI 0 3 kcX0 kfX0_115 rfl lC_139 (congrArg Prod.fst gC_139) dX0_draw_27 rfl ?_
    refine wp_ldc dX0_draw_30 rfl tw_700 ?_
    refine wp_idiv dX0_draw_32 rfl (by decide) ?_
    refine wp_iload_n 1 dX0_draw_33 rfl rfl rfl ?_
    obtain ⟨k2, K⟩ := K
    refine wp_irem dX0_draw_34 rfl k2 ?_
    refine wp_goto 39 dX0_draw_35 (by decide) ?_
    exact wp_ret .int rfl rfl (Nat.le_refl 0) (Nat.le_refl 0) dX0_draw_39 ⟨rfl, _, rfl, K⟩
theorem eX0_draw {E : tp_E} {d : Nat} {Q : Int32 → tp_M → Prop} {σ : tp_M}   (x1 : Int32) (K : if x1 ≤ 0 then (Q 0 (tp_u σ 139 3 (Int64.toInt32 ((((Int32.toInt64 (σ 139 3)) * 1103515245) + 12345) - (((Int32.toInt64 (σ 139 3)) * 1103515245) + 12345) / 2147483648 * 2147483648)))) else ((¬ x1 = 0) ∧ (Q ((((tp_u σ 139 3 (Int64.toInt32 ((((Int32.toInt64 (σ 139 3)) * 1103515245) + 12345) - (((Int32.toInt64 (σ 139 3)) * 1103515245) + 12345) / 2147483648 * 2147483648))) 139 3) / 65536) - (((tp_u σ 139 3 (Int64.toInt32 ((((Int32.toInt64 (σ 139 3)) * 1103515245) + 12345) - (((Int32.toInt64 (σ 139 3)) * 1103515245) + 12345) / 2147483648 * 2147483648))) 139 3) / 65536) / x1 * x1) (tp_u σ 139 3 (Int64.toInt32 ((((Int32.toInt64 (σ 139 3)) * 1103515245) + 12345) - (((Int32.toInt64 (σ 139 3)) * 1103515245) + 12345) / 2147483648 * 2147483648)))))) : Ci E TC yX0_draw iX0_draw d [.ref 139, .int x1] σ Q := Ci.of ⟨by decide +kernel, rfl, rfl⟩ (Nat.le_of_ble_eq_true rfl) (bX0_draw_0  x1 K)

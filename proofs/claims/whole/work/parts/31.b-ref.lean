theorem bX10_feed_0 {E : tp_E} {d : Nat} {Q : Int32 → tp_M → Prop} {σ : tp_M}   (x1 : Int32) (K : Ci E TM yX10_in iX10_in d [.long (Int32.toInt64 x1), .long 0, .long 255] σ (fun v2 σ1 => if v2 = 0 then (Q (-1000000002) σ1) else (if (σ1 0 16) = 240 then (Q (-1000000004) σ1) else (vp_in (σ1 0 16) 240 ∧ (Q ((tp_u (tp_u σ1 9 (Int32.toNatClampNeg (σ1 0 16)) x1) 0 16 (((tp_u σ1 9 (Int32.toNatClampNeg (σ1 0 16)) x1) 0 16) + 1)) 0 16) (tp_u (tp_u σ1 9 (Int32.toNatClampNeg (σ1 0 16)) x1) 0 16 (((tp_u σ1 9 (Int32.toNatClampNeg (σ1 0 16)) x1) 0 16) + 1))))))) : Wi E TM iX10_feed (d + 1) Q 0 [(0, .ref 0), (1, .int x1)] [] σ := by
  refine wp_iload_n 1 dX10_feed_0 rfl rfl rfl ?_
  refine wp_i2l dX10_feed_1 rfl ?_
  refine wp_lconst (v := 0) dX10_feed_2 rfl (by decide) ?_
  refine wp_ldc2 dX10_feed_3 rfl tw_1104 ?_
  refine wn_callSi (As := [.long (Int32.toInt64 x1), .long 0, .long 255]) (rest := []) kmX10_93 (by decide) rfl rfl (Nat.le_of_ble_eq_true rfl) dX10_feed_6 rfl ?_
  refine Ci.mono K (fun v2 σ1 K => ?_)
  refine wp_if_ne 15 dX10_feed_9 (by decide) rfl (fun h3 => ?_) (fun h3 => ?_)
  · rw [if_neg h3] at K
    refine wp_aload_n 0 dX10_feed_15 rfl rfl rfl ?_
    refine wp_getI 10 16 kcX10 kfX10_110 rfl lM_0 (congrArg Prod.fst gM_0) dX10_feed_16 rfl ?_
    refine wp_sipush (v := 240) dX10_feed_19 rfl (by decide) ?_
    refine wp_icmp_ne 28 dX10_feed_22 (by decide) rfl (fun h4 => ?_) (fun h4 => ?_)
    · rw [if_neg h4] at K
      refine wp_aload_n 0 dX10_feed_28 rfl rfl rfl ?_
      refine wp_getR 10 15 kcX10 kfX10_35 rfl lM_0 (congrArg Prod.fst gM_0) rM_0_15 dX10_feed_29 rfl ?_
      refine wp_aload_n 0 dX10_feed_32 rfl rfl rfl ?_
      refine wp_getI 10 16 kcX10 kfX10_110 rfl lM_0 (congrArg Prod.fst gM_0) dX10_feed_33 rfl ?_
      refine wp_iload_n 1 dX10_feed_36 rfl rfl rfl ?_
      obtain ⟨k5, K⟩ := K
      refine wn_iast lM_9 gM_9 k5 dX10_feed_37 rfl ?_
      refine wp_aload_n 0 dX10_feed_38 rfl rfl rfl ?_
      refine wp_dup dX10_feed_39 rfl rfl ?_
      refine wp_getI 10 16 kcX10 kfX10_110 rfl lM_0 (congrArg Prod.fst gM_0) dX10_feed_40 rfl ?_
      refine wp_iconst (v := 1) dX10_feed_43 rfl (by decide) ?_
      refine wp_iadd dX10_feed_44 rfl ?_
      refine wp_putI 10 16 kcX10 kfX10_110 rfl rfl rfl rfl lM_0 (congrArg Prod.fst gM_0) dX10_feed_45 rfl ?_
      refine wp_aload_n 0 dX10_feed_48 rfl rfl rfl ?_
      refine wp_getI 10 16 kcX10 kfX10_110 rfl lM_0 (congrArg Prod.fst gM_0) dX10_feed_49 rfl ?_
      exact wp_ret .int rfl rfl (Nat.le_refl 0) (Nat.le_refl 0) dX10_feed_52 ⟨rfl, _, rfl, K⟩
    · rw [if_pos h4] at K
      refine wp_ldc dX10_feed_25 rfl tw_1109 ?_
      exact wp_ret .int rfl rfl (Nat.le_refl 0) (Nat.le_refl 0) dX10_feed_27 ⟨rfl, _, rfl, K⟩
  · rw [if_pos h3] at K
    refine wp_ldc dX10_feed_12 rfl tw_1108 ?_
    exact wp_ret .int rfl rfl (Nat.le_refl 0) (Nat.le_refl 0) dX10_feed_14 ⟨rfl, _, rfl, K⟩
theorem eX10_feed {E : tp_E} {d : Nat} {Q : Int32 → tp_M → Prop} {σ : tp_M}   (x1 : Int32) (K : Ci E TM yX10_in iX10_in d [.long (Int32.toInt64 x1), .long 0, .long 255] σ (fun v2 σ1 => if v2 = 0 then (Q (-1000000002) σ1) else (if (σ1 0 16) = 240 then (Q (-1000000004) σ1) else (vp_in (σ1 0 16) 240 ∧ (Q ((tp_u (tp_u σ1 9 (Int32.toNatClampNeg (σ1 0 16)) x1) 0 16 (((tp_u σ1 9 (Int32.toNatClampNeg (σ1 0 16)) x1) 0 16) + 1)) 0 16) (tp_u (tp_u σ1 9 (Int32.toNatClampNeg (σ1 0 16)) x1) 0 16 (((tp_u σ1 9 (Int32.toNatClampNeg (σ1 0 16)) x1) 0 16) + 1))))))) : Ci E TM yX10_feed iX10_feed (d + 1) [.ref 0, .int x1] σ Q := Ci.of ⟨by decide +kernel, rfl, rfl⟩ (Nat.le_of_ble_eq_true rfl) (bX10_feed_0  x1 K)
theorem bX10_in_0 {E : tp_E} {d : Nat} {Q : Int32 → tp_M → Prop} {σ : tp_M}   (x0 : Int64) (x2 : Int64) (x4 : Int64) (K : if (lg_cmp x0 x2) < 0 then (Q 0 σ) else (if 0 < (lg_cmp x0 x4) then (Q 0 σ) else (Q 1 σ))) : Wi E TM iX10_in d Q 0 [(0, .long x0), (2, .long x2), (4, .long x4)] [] σ := by
  refine wp_lload_n 0 dX10_in_0 rfl rfl rfl ?_
  refine wp_lload_n 1 dX10_in_1 rfl rfl rfl ?_
  refine wp_lcmp dX10_in_2 rfl ?_
  refine wp_if_lt 17 dX10_in_3 (by decide) rfl (fun h1 => ?_) (fun h1 => ?_)
  · rw [if_pos h1] at K
    refine wp_iconst (v := 0) dX10_in_17 rfl (by decide) ?_
    exact wp_ret .boolean rfl rfl (Nat.le_refl 0) (Nat.le_refl 0) dX10_in_18 ⟨rfl, _, rfl, K⟩
  · rw [if_neg h1] at K
    refine wp_lload_n 0 dX10_in_6 rfl rfl rfl ?_
    refine wp_lload 2 dX10_in_7 rfl rfl ?_
    refine wp_lcmp dX10_in_9 rfl ?_
    refine wp_if_gt 17 dX10_in_10 (by decide) rfl (fun h2 => ?_) (fun h2 => ?_)
    · rw [if_pos h2] at K
      refine wp_iconst (v := 0) dX10_in_17 rfl (by decide) ?_
      exact wp_ret .boolean rfl rfl (Nat.le_refl 0) (Nat.le_refl 0) dX10_in_18 ⟨rfl, _, rfl, K⟩
    · rw [if_neg h2] at K
      refine wp_iconst (v := 1) dX10_in_13 rfl (by decide) ?_
      refine wp_goto 18 dX10_in_14 (by decide) ?_
      exact wp_ret .boolean rfl rfl (Nat.le_refl 0) (Nat.le_refl 0) dX10_in_18 ⟨rfl, _, rfl, K⟩
theorem eX10_in {E : tp_E} {d : Nat} {Q : Int32 → tp_M → Prop} {σ : tp_M}   (x0 : Int64) (x2 : Int64) (x4 : Int64) (K : if (lg_cmp x0 x2) < 0 then (Q 0 σ) else (if 0 < (lg_cmp x0 x4) then (Q 0 σ) else (Q 1 σ))) : Ci E TM yX10_in iX10_in d [.long x0, .long x2, .long x4] σ Q := Ci.of ⟨by decide +kernel, rfl, rfl⟩ (Nat.le_of_ble_eq_true rfl) (bX10_in_0  x0 x2 x4 K)
theorem bX10_hotel_0 {E : tp_E} {d : Nat} {Q : Int32 → tp_M → Prop} {σ : tp_M}    (K : Wi E TM iX10_hotel (d + 1) Q 47 [(0, .ref 0), (1, .int 0)] [] (tp_u (tp_u (tp_u (tp_u (tp_u (tp_u (tp_u (tp_u (tp_u σ 0 17 0) 0 20 0) 0 21 (-1)) 0 22 0) 0 23 0) 0 24 0) 0 26 0) 0 28 0) 0 30 0)) : Wi E TM iX10_hotel (d + 1) Q 0 [(0, .ref 0)] [] σ := by
  refine wp_aload_n 0 dX10_hotel_0 rfl rfl rfl ?_
  refine wp_iconst (v := 0) dX10_hotel_1 rfl (by decide) ?_
  refine wp_putI 10 17 kcX10 kfX10_114 rfl rfl rfl rfl lM_0 (congrArg Prod.fst gM_0) dX10_hotel_2 rfl ?_
  refine wp_aload_n 0 dX10_hotel_5 rfl rfl rfl ?_
  refine wp_iconst (v := 0) dX10_hotel_6 rfl (by decide) ?_
  refine wp_putI 10 20 kcX10 kfX10_124 rfl rfl rfl rfl lM_0 (congrArg Prod.fst gM_0) dX10_hotel_7 rfl ?_
  refine wp_aload_n 0 dX10_hotel_10 rfl rfl rfl ?_
  refine wp_iconst (v := (-1)) dX10_hotel_11 rfl (by decide) ?_
  refine wp_putI 10 21 kcX10 kfX10_38 rfl rfl rfl rfl lM_0 (congrArg Prod.fst gM_0) dX10_hotel_12 rfl ?_
  refine wp_aload_n 0 dX10_hotel_15 rfl rfl rfl ?_
  refine wp_iconst (v := 0) dX10_hotel_16 rfl (by decide) ?_
  refine wp_putI 10 22 kcX10 kfX10_145 rfl rfl rfl rfl lM_0 (congrArg Prod.fst gM_0) dX10_hotel_17 rfl ?_
  refine wp_aload_n 0 dX10_hotel_20 rfl rfl rfl ?_
  refine wp_iconst (v := 0) dX10_hotel_21 rfl (by decide) ?_
  refine wp_putI 10 23 kcX10 kfX10_148 rfl rfl rfl rfl lM_0 (congrArg Prod.fst gM_0) dX10_hotel_22 rfl ?_
  refine wp_aload_n 0 dX10_hotel_25 rfl rfl rfl ?_
  refine wp_iconst (v := 0) dX10_hotel_26 rfl (by decide) ?_
  refine wp_putI 10 24 kcX10 kfX10_154 rfl rfl rfl rfl lM_0 (congrArg Prod.fst gM_0) dX10_hotel_27 rfl ?_
  refine wp_aload_n 0 dX10_hotel_30 rfl rfl rfl ?_
  refine wp_iconst (v := 0) dX10_hotel_31 rfl (by decide) ?_
  refine wp_putI 10 26 kcX10 kfX10_157 rfl rfl rfl rfl lM_0 (congrArg Prod.fst gM_0) dX10_hotel_32 rfl ?_
  refine wp_aload_n 0 dX10_hotel_35 rfl rfl rfl ?_
  refine wp_iconst (v := 0) dX10_hotel_36 rfl (by decide) ?_
  refine wp_putI 10 28 kcX10 kfX10_160 rfl rfl rfl rfl lM_0 (congrArg Prod.fst gM_0) dX10_hotel_37 rfl ?_
  refine wp_aload_n 0 dX10_hotel_40 rfl rfl rfl ?_
  refine wp_iconst (v := 0) dX10_hotel_41 rfl (by decide) ?_
  refine wp_putI 10 30 kcX10 kfX10_163 rfl rfl rfl rfl lM_0 (congrArg Prod.fst gM_0) dX10_hotel_42 rfl ?_
  refine wp_iconst (v := 0) dX10_hotel_45 rfl (by decide) ?_
  refine wp_istore_n [1, 0] dX10_hotel_46 rfl rfl (by decide) rfl ?_
  show WP _ _ _ _ _ _ _ 47 [(0, .ref 0), (1, .int 0)] _ _ _
  exact K
theorem eX10_hotel {E : tp_E} {d : Nat} {Q : Int32 → tp_M → Prop} {σ : tp_M}    (K : Wi E TM iX10_hotel (d + 1) Q 47 [(0, .ref 0), (1, .int 0)] [] (tp_u (tp_u (tp_u (tp_u (tp_u (tp_u (tp_u (tp_u (tp_u σ 0 17 0) 0 20 0) 0 21 (-1)) 0 22 0) 0 23 0) 0 24 0) 0 26 0) 0 28 0) 0 30 0)) : Ci E TM yX10_hotel iX10_hotel (d + 1) [.ref 0] σ Q := Ci.of ⟨by decide +kernel, rfl, rfl⟩ (Nat.le_of_ble_eq_true rfl) (bX10_hotel_0   K)
theorem bX10_hotel_47 {E : tp_E} {d : Nat} {Q : Int32 → tp_M → Prop} {σ : tp_M}   (x1 : Int32) (K : if 8 ≤ x1 then (Wi E TM iX10_hotel (d + 1) Q 68 [(0, .ref 0), (1, .int 1)] [] σ) else (vp_in x1 8 ∧ (Wi E TM iX10_hotel (d + 1) Q 47 [(0, .ref 0), (1, .int (x1 + 1))] [] (tp_u σ 10 (Int32.toNatClampNeg x1) 0)))) : Wi E TM iX10_hotel (d + 1) Q 47 [(0, .ref 0), (1, .int x1)] [] σ := by
  refine wp_iload_n 1 dX10_hotel_47 rfl rfl rfl ?_
  refine wp_bipush (v := 8) dX10_hotel_48 rfl (by decide) ?_
  refine wp_icmp_ge 66 dX10_hotel_50 (by decide) rfl (fun h1 => ?_) (fun h1 => ?_)
  · rw [if_pos h1] at K
    refine wp_iconst (v := 1) dX10_hotel_66 rfl (by decide) ?_
    refine wp_istore_n [1, 0] dX10_hotel_67 rfl rfl (by decide) rfl ?_
    show WP _ _ _ _ _ _ _ 68 [(0, .ref 0), (1, .int 1)] _ _ _
    exact K
  · rw [if_neg h1] at K
    refine wp_aload_n 0 dX10_hotel_53 rfl rfl rfl ?_
    refine wp_getR 10 25 kcX10 kfX10_42 rfl lM_0 (congrArg Prod.fst gM_0) rM_0_25 dX10_hotel_54 rfl ?_
    refine wp_iload_n 1 dX10_hotel_57 rfl rfl rfl ?_
    refine wp_iconst (v := 0) dX10_hotel_58 rfl (by decide) ?_
    obtain ⟨k2, K⟩ := K
    refine wn_iast lM_10 gM_10 k2 dX10_hotel_59 rfl ?_
    refine wp_iinc (v := x1 + 1) 1 [1, 0] dX10_hotel_60 rfl (by decide) rfl rfl rfl ?_
    show WP _ _ _ _ _ _ _ 63 [(0, .ref 0), (1, .int (x1 + 1))] _ _ _
    refine wp_goto 47 dX10_hotel_63 (by decide) ?_
    exact K
theorem bX10_hotel_68 {E : tp_E} {d : Nat} {Q : Int32 → tp_M → Prop} {σ : tp_M}   (x1 : Int32) (K : if x1 = 0 then (Wi E TM iX10_hotel (d + 1) Q 88 [(0, .ref 0), (1, .int x1)] [] σ) else (Ci E TM yX10_here iX10_here d [.ref 0] σ (fun v3 σ2 => if v3 = (-1) then (Wi E TM iX10_hotel (d + 1) Q 88 [(0, .ref 0), (1, .int x1)] [] σ2) else (Ci E TM yX10_takesClause iX10_takesClause d [.ref 0] σ2 (fun v6 σ5 => Wi E TM iX10_hotel (d + 1) Q 68 [(0, .ref 0), (1, .int v6)] [] σ5))))) : Wi E TM iX10_hotel (d + 1) Q 68 [(0, .ref 0), (1, .int x1)] [] σ := by
  refine wp_iload_n 1 dX10_hotel_68 rfl rfl rfl ?_
  refine wp_if_eq 88 dX10_hotel_69 (by decide) rfl (fun h1 => ?_) (fun h1 => ?_)
  · rw [if_pos h1] at K
    exact K
  · rw [if_neg h1] at K
    refine wp_aload_n 0 dX10_hotel_72 rfl rfl rfl ?_
    refine wn_callVi (As := []) (rest := []) 10 kmX10_127 (by decide) rfl rfl (Nat.le_of_ble_eq_true rfl) lM_0 (congrArg Prod.fst gM_0) dX10_hotel_73 rfl ?_
    refine Ci.mono K (fun v3 σ2 K => ?_)
    refine wp_iconst (v := (-1)) dX10_hotel_76 rfl (by decide) ?_
    refine wp_icmp_eq 88 dX10_hotel_77 (by decide) rfl (fun h4 => ?_) (fun h4 => ?_)
    · rw [if_pos h4] at K
      exact K
    · rw [if_neg h4] at K
      refine wp_aload_n 0 dX10_hotel_80 rfl rfl rfl ?_
      refine wn_callVi (As := []) (rest := []) 10 kmX10_188 (by decide) rfl rfl (Nat.le_of_ble_eq_true rfl) lM_0 (congrArg Prod.fst gM_0) dX10_hotel_81 rfl ?_
      refine Ci.mono K (fun v6 σ5 K => ?_)
      refine wp_istore_n [1, 0] dX10_hotel_84 rfl rfl (by decide) rfl ?_
      show WP _ _ _ _ _ _ _ 85 [(0, .ref 0), (1, .int v6)] _ _ _
      refine wp_goto 68 dX10_hotel_85 (by decide) ?_
      exact K
theorem bX10_hotel_88 {E : tp_E} {d : Nat} {Q : Int32 → tp_M → Prop} {σ : tp_M}   (x1 : Int32) (K : if x1 = 0 then (Q ((-10) - ((tp_u σ 0 16 0) 0 20)) (tp_u σ 0 16 0)) else (vp_in 58 1416 ∧ (Wi E TM iX10_hotel (d + 1) Q 115 [(0, .ref 0), (2, .int ((tp_u σ 0 16 0) 1 (Int32.toNatClampNeg 58))), (3, .int 0)] [] (tp_u σ 0 16 0)))) : Wi E TM iX10_hotel (d + 1) Q 88 [(0, .ref 0), (1, .int x1)] [] σ := by
  refine wp_aload_n 0 dX10_hotel_88 rfl rfl rfl ?_
  refine wp_iconst (v := 0) dX10_hotel_89 rfl (by decide) ?_
  refine wp_putI 10 16 kcX10 kfX10_110 rfl rfl rfl rfl lM_0 (congrArg Prod.fst gM_0) dX10_hotel_90 rfl ?_
  refine wp_iload_n 1 dX10_hotel_93 rfl rfl rfl ?_
  refine wp_if_ne 105 dX10_hotel_94 (by decide) rfl (fun h1 => ?_) (fun h1 => ?_)
  · rw [if_neg h1] at K
    refine wp_aload_n 0 dX10_hotel_105 rfl rfl rfl ?_
    refine wp_getR 10 0 kcX10 kfX10_7 rfl lM_0 (congrArg Prod.fst gM_0) rM_0_0 dX10_hotel_106 rfl ?_
    refine wp_bipush (v := 58) dX10_hotel_109 rfl (by decide) ?_
    obtain ⟨k2, K⟩ := K
    refine wn_iald lM_1 gM_1 k2 dX10_hotel_111 rfl ?_
    refine wp_istore_n [1, 2, 0] dX10_hotel_112 rfl rfl (by decide) rfl ?_
    show WP _ _ _ _ _ _ _ 113 [(0, .ref 0), (1, .int x1), (2, .int ((tp_u σ 0 16 0) 1 (Int32.toNatClampNeg 58)))] _ _ _
    refine wp_iconst (v := 0) dX10_hotel_113 rfl (by decide) ?_
    refine wp_istore_n [1, 2, 3, 0] dX10_hotel_114 rfl rfl (by decide) rfl ?_
    show WP _ _ _ _ _ _ _ 115 [(0, .ref 0), (1, .int x1), (2, .int ((tp_u σ 0 16 0) 1 (Int32.toNatClampNeg 58))), (3, .int 0)] _ _ _
    refine wp_lv [0, 2, 3] rfl ?_
    exact K
  · rw [if_pos h1] at K
    refine wp_bipush (v := (-10)) dX10_hotel_97 rfl (by decide) ?_
    refine wp_aload_n 0 dX10_hotel_99 rfl rfl rfl ?_
    refine wp_getI 10 20 kcX10 kfX10_124 rfl lM_0 (congrArg Prod.fst gM_0) dX10_hotel_100 rfl ?_
    refine wp_isub dX10_hotel_103 rfl ?_
    exact wp_ret .int rfl rfl (Nat.le_refl 0) (Nat.le_refl 0) dX10_hotel_104 ⟨rfl, _, rfl, K⟩
theorem bX10_hotel_115 {E : tp_E} {d : Nat} {Q : Int32 → tp_M → Prop} {σ : tp_M}   (x2 : Int32) (x3 : Int32) (K : if 59 ≤ x3 then (vp_in 58 1416 ∧ (Wi E TM iX10_hotel (d + 1) Q 192 [(0, .ref 0), (3, .int 0)] [] (tp_u (tp_u (tp_u (tp_u (tp_u (tp_u (tp_u σ 1 (Int32.toNatClampNeg 58) x2) 0 3 ((tp_u σ 1 (Int32.toNatClampNeg 58) x2) 0 22)) 0 4 ((tp_u (tp_u σ 1 (Int32.toNatClampNeg 58) x2) 0 3 ((tp_u σ 1 (Int32.toNatClampNeg 58) x2) 0 22)) 0 23)) 0 5 ((tp_u (tp_u (tp_u σ 1 (Int32.toNatClampNeg 58) x2) 0 3 ((tp_u σ 1 (Int32.toNatClampNeg 58) x2) 0 22)) 0 4 ((tp_u (tp_u σ 1 (Int32.toNatClampNeg 58) x2) 0 3 ((tp_u σ 1 (Int32.toNatClampNeg 58) x2) 0 22)) 0 23)) 0 24)) 0 7 ((tp_u (tp_u (tp_u (tp_u σ 1 (Int32.toNatClampNeg 58) x2) 0 3 ((tp_u σ 1 (Int32.toNatClampNeg 58) x2) 0 22)) 0 4 ((tp_u (tp_u σ 1 (Int32.toNatClampNeg 58) x2) 0 3 ((tp_u σ 1 (Int32.toNatClampNeg 58) x2) 0 22)) 0 23)) 0 5 ((tp_u (tp_u (tp_u σ 1 (Int32.toNatClampNeg 58) x2) 0 3 ((tp_u σ 1 (Int32.toNatClampNeg 58) x2) 0 22)) 0 4 ((tp_u (tp_u σ 1 (Int32.toNatClampNeg 58) x2) 0 3 ((tp_u σ 1 (Int32.toNatClampNeg 58) x2) 0 22)) 0 23)) 0 24)) 0 26)) 0 9 ((tp_u (tp_u (tp_u (tp_u (tp_u σ 1 (Int32.toNatClampNeg 58) x2) 0 3 ((tp_u σ 1 (Int32.toNatClampNeg 58) x2) 0 22)) 0 4 ((tp_u (tp_u σ 1 (Int32.toNatClampNeg 58) x2) 0 3 ((tp_u σ 1 (Int32.toNatClampNeg 58) x2) 0 22)) 0 23)) 0 5 ((tp_u (tp_u (tp_u σ 1 (Int32.toNatClampNeg 58) x2) 0 3 ((tp_u σ 1 (Int32.toNatClampNeg 58) x2) 0 22)) 0 4 ((tp_u (tp_u σ 1 (Int32.toNatClampNeg 58) x2) 0 3 ((tp_u σ 1 (Int32.toNatClampNeg 58) x2) 0 22)) 0 23)) 0 24)) 0 7 ((tp_u (tp_u (tp_u (tp_u σ 1 (Int32.toNatClampNeg 58) x2) 0 3 ((tp_u σ 1 (Int32.toNatClampNeg 58) x2) 0 22)) 0 4 ((tp_u (tp_u σ 1 (Int32.toNatClampNeg 58) x2) 0 3 ((tp_u σ 1 (Int32.toNatClampNeg 58) x2) 0 22)) 0 23)) 0 5 ((tp_u (tp_u (tp_u σ 1 (Int32.toNatClampNeg 58) x2) 0 3 ((tp_u σ 1 (Int32.toNatClampNeg 58) x2) 0 22)) 0 4 ((tp_u (tp_u σ 1 (Int32.toNatClampNeg 58) x2) 0 3 ((tp_u σ 1 (Int32.toNatClampNeg 58) x2) 0 22)) 0 23)) 0 24)) 0 26)) 0 28)) 0 12 ((tp_u (tp_u (tp_u (tp_u (tp_u (tp_u σ 1 (Int32.toNatClampNeg 58) x2) 0 3 ((tp_u σ 1 (Int32.toNatClampNeg 58) x2) 0 22)) 0 4 ((tp_u (tp_u σ 1 (Int32.toNatClampNeg 58) x2) 0 3 ((tp_u σ 1 (Int32.toNatClampNeg 58) x2) 0 22)) 0 23)) 0 5 ((tp_u (tp_u (tp_u σ 1 (Int32.toNatClampNeg 58) x2) 0 3 ((tp_u σ 1 (Int32.toNatClampNeg 58) x2) 0 22)) 0 4 ((tp_u (tp_u σ 1 (Int32.toNatClampNeg 58) x2) 0 3 ((tp_u σ 1 (Int32.toNatClampNeg 58) x2) 0 22)) 0 23)) 0 24)) 0 7 ((tp_u (tp_u (tp_u (tp_u σ 1 (Int32.toNatClampNeg 58) x2) 0 3 ((tp_u σ 1 (Int32.toNatClampNeg 58) x2) 0 22)) 0 4 ((tp_u (tp_u σ 1 (Int32.toNatClampNeg 58) x2) 0 3 ((tp_u σ 1 (Int32.toNatClampNeg 58) x2) 0 22)) 0 23)) 0 5 ((tp_u (tp_u (tp_u σ 1 (Int32.toNatClampNeg 58) x2) 0 3 ((tp_u σ 1 (Int32.toNatClampNeg 58) x2) 0 22)) 0 4 ((tp_u (tp_u σ 1 (Int32.toNatClampNeg 58) x2) 0 3 ((tp_u σ 1 (Int32.toNatClampNeg 58) x2) 0 22)) 0 23)) 0 24)) 0 26)) 0 9 ((tp_u (tp_u (tp_u (tp_u (tp_u σ 1 (Int32.toNatClampNeg 58) x2) 0 3 ((tp_u σ 1 (Int32.toNatClampNeg 58) x2) 0 22)) 0 4 ((tp_u (tp_u σ 1 (Int32.toNatClampNeg 58) x2) 0 3 ((tp_u σ 1 (Int32.toNatClampNeg 58) x2) 0 22)) 0 23)) 0 5 ((tp_u (tp_u (tp_u σ 1 (Int32.toNatClampNeg 58) x2) 0 3 ((tp_u σ 1 (Int32.toNatClampNeg 58) x2) 0 22)) 0 4 ((tp_u (tp_u σ 1 (Int32.toNatClampNeg 58) x2) 0 3 ((tp_u σ 1 (Int32.toNatClampNeg 58) x2) 0 22)) 0 23)) 0 24)) 0 7 ((tp_u (tp_u (tp_u (tp_u σ 1 (Int32.toNatClampNeg 58) x2) 0 3 ((tp_u σ 1 (Int32.toNatClampNeg 58) x2) 0 22)) 0 4 ((tp_u (tp_u σ 1 (Int32.toNatClampNeg 58) x2) 0 3 ((tp_u σ 1 (Int32.toNatClampNeg 58) x2) 0 22)) 0 23)) 0 5 ((tp_u (tp_u (tp_u σ 1 (Int32.toNatClampNeg 58) x2) 0 3 ((tp_u σ 1 (Int32.toNatClampNeg 58) x2) 0 22)) 0 4 ((tp_u (tp_u σ 1 (Int32.toNatClampNeg 58) x2) 0 3 ((tp_u σ 1 (Int32.toNatClampNeg 58) x2) 0 22)) 0 23)) 0 24)) 0 26)) 0 28)) 0 30)))) else (vp_in x3 1416 ∧ (Wi E TM iX10_hotel (d + 1) Q 115 [(0, .ref 0), (2, .int x2), (3, .int (x3 + 1))] [] (tp_u σ 1 (Int32.toNatClampNeg x3) 0)))) : Wi E TM iX10_hotel (d + 1) Q 115 [(0, .ref 0), (2, .int x2), (3, .int x3)] [] σ := by
  refine wp_iload_n 2 dX10_hotel_115 rfl rfl rfl ?_
  refine wp_bipush (v := 59) dX10_hotel_116 rfl (by decide) ?_
  refine wp_icmp_ge 134 dX10_hotel_118 (by decide) rfl (fun h1 => ?_) (fun h1 => ?_)
  · rw [if_pos h1] at K
    refine wp_aload_n 0 dX10_hotel_134 rfl rfl rfl ?_
    refine wp_getR 10 0 kcX10 kfX10_7 rfl lM_0 (congrArg Prod.fst gM_0) rM_0_0 dX10_hotel_135 rfl ?_
    refine wp_bipush (v := 58) dX10_hotel_138 rfl (by decide) ?_
    refine wp_iload_n 1 dX10_hotel_140 rfl rfl rfl ?_
    obtain ⟨k2, K⟩ := K
    refine wn_iast lM_1 gM_1 k2 dX10_hotel_141 rfl ?_
    refine wp_aload_n 0 dX10_hotel_142 rfl rfl rfl ?_
    refine wp_aload_n 0 dX10_hotel_143 rfl rfl rfl ?_
    refine wp_getI 10 22 kcX10 kfX10_145 rfl lM_0 (congrArg Prod.fst gM_0) dX10_hotel_144 rfl ?_
    refine wp_putI 10 3 kcX10 kfX10_90 rfl rfl rfl rfl lM_0 (congrArg Prod.fst gM_0) dX10_hotel_147 rfl ?_
    refine wp_aload_n 0 dX10_hotel_150 rfl rfl rfl ?_
    refine wp_aload_n 0 dX10_hotel_151 rfl rfl rfl ?_
    refine wp_getI 10 23 kcX10 kfX10_148 rfl lM_0 (congrArg Prod.fst gM_0) dX10_hotel_152 rfl ?_
    refine wp_putI 10 4 kcX10 kfX10_191 rfl rfl rfl rfl lM_0 (congrArg Prod.fst gM_0) dX10_hotel_155 rfl ?_
    refine wp_aload_n 0 dX10_hotel_158 rfl rfl rfl ?_
    refine wp_aload_n 0 dX10_hotel_159 rfl rfl rfl ?_
    refine wp_getI 10 24 kcX10 kfX10_154 rfl lM_0 (congrArg Prod.fst gM_0) dX10_hotel_160 rfl ?_
    refine wp_putI 10 5 kcX10 kfX10_194 rfl rfl rfl rfl lM_0 (congrArg Prod.fst gM_0) dX10_hotel_163 rfl ?_
    refine wp_aload_n 0 dX10_hotel_166 rfl rfl rfl ?_
    refine wp_aload_n 0 dX10_hotel_167 rfl rfl rfl ?_
    refine wp_getI 10 26 kcX10 kfX10_157 rfl lM_0 (congrArg Prod.fst gM_0) dX10_hotel_168 rfl ?_
    refine wp_putI 10 7 kcX10 kfX10_97 rfl rfl rfl rfl lM_0 (congrArg Prod.fst gM_0) dX10_hotel_171 rfl ?_
    refine wp_aload_n 0 dX10_hotel_174 rfl rfl rfl ?_
    refine wp_aload_n 0 dX10_hotel_175 rfl rfl rfl ?_
    refine wp_getI 10 28 kcX10 kfX10_160 rfl lM_0 (congrArg Prod.fst gM_0) dX10_hotel_176 rfl ?_
    refine wp_putI 10 9 kcX10 kfX10_104 rfl rfl rfl rfl lM_0 (congrArg Prod.fst gM_0) dX10_hotel_179 rfl ?_
    refine wp_aload_n 0 dX10_hotel_182 rfl rfl rfl ?_
    refine wp_aload_n 0 dX10_hotel_183 rfl rfl rfl ?_
    refine wp_getI 10 30 kcX10 kfX10_163 rfl lM_0 (congrArg Prod.fst gM_0) dX10_hotel_184 rfl ?_
    refine wp_putI 10 12 kcX10 kfX10_197 rfl rfl rfl rfl lM_0 (congrArg Prod.fst gM_0) dX10_hotel_187 rfl ?_
    refine wp_iconst (v := 0) dX10_hotel_190 rfl (by decide) ?_
    refine wp_istore_n [1, 2, 0] dX10_hotel_191 rfl rfl (by decide) rfl ?_
    show WP _ _ _ _ _ _ _ 192 [(0, .ref 0), (2, .int x2), (3, .int 0)] _ _ _
    refine wp_lv [0, 2] rfl ?_
    exact K
  · rw [if_neg h1] at K
    refine wp_aload_n 0 dX10_hotel_121 rfl rfl rfl ?_
    refine wp_getR 10 0 kcX10 kfX10_7 rfl lM_0 (congrArg Prod.fst gM_0) rM_0_0 dX10_hotel_122 rfl ?_
    refine wp_iload_n 2 dX10_hotel_125 rfl rfl rfl ?_
    refine wp_iconst (v := 0) dX10_hotel_126 rfl (by decide) ?_
    obtain ⟨k3, K⟩ := K
    refine wn_iast lM_1 gM_1 k3 dX10_hotel_127 rfl ?_
    refine wp_iinc (v := x3 + 1) 2 [1, 2, 0] dX10_hotel_128 rfl (by decide) rfl rfl rfl ?_
    show WP _ _ _ _ _ _ _ 131 [(0, .ref 0), (2, .int x2), (3, .int (x3 + 1))] _ _ _
    refine wp_goto 115 dX10_hotel_131 (by decide) ?_
    exact K
theorem bX10_hotel_192 {E : tp_E} {d : Nat} {Q : Int32 → tp_M → Prop} {σ : tp_M}   (x3 : Int32) (K : if 8 ≤ x3 then (Wi E TM iX10_hotel (d + 1) Q 218 [(0, .ref 0), (3, .int 0)] [] σ) else (vp_in x3 8 ∧ (vp_in x3 8 ∧ (Wi E TM iX10_hotel (d + 1) Q 192 [(0, .ref 0), (3, .int (x3 + 1))] [] (tp_u σ 3 (Int32.toNatClampNeg x3) (σ 10 (Int32.toNatClampNeg x3))))))) : Wi E TM iX10_hotel (d + 1) Q 192 [(0, .ref 0), (3, .int x3)] [] σ := by
  refine wp_iload_n 1 dX10_hotel_192 rfl rfl rfl ?_
  refine wp_bipush (v := 8) dX10_hotel_193 rfl (by decide) ?_
  refine wp_icmp_ge 216 dX10_hotel_195 (by decide) rfl (fun h1 => ?_) (fun h1 => ?_)
  · rw [if_pos h1] at K
    refine wp_iconst (v := 0) dX10_hotel_216 rfl (by decide) ?_
    refine wp_istore_n [1, 0] dX10_hotel_217 rfl rfl (by decide) rfl ?_
    show WP _ _ _ _ _ _ _ 218 [(0, .ref 0), (3, .int 0)] _ _ _
    exact K
  · rw [if_neg h1] at K
    refine wp_aload_n 0 dX10_hotel_198 rfl rfl rfl ?_
    refine wp_getR 10 6 kcX10 kfX10_17 rfl lM_0 (congrArg Prod.fst gM_0) rM_0_6 dX10_hotel_199 rfl ?_
    refine wp_iload_n 1 dX10_hotel_202 rfl rfl rfl ?_
    refine wp_aload_n 0 dX10_hotel_203 rfl rfl rfl ?_
    refine wp_getR 10 25 kcX10 kfX10_42 rfl lM_0 (congrArg Prod.fst gM_0) rM_0_25 dX10_hotel_204 rfl ?_
    refine wp_iload_n 1 dX10_hotel_207 rfl rfl rfl ?_
    obtain ⟨k2, K⟩ := K
    refine wn_iald lM_10 gM_10 k2 dX10_hotel_208 rfl ?_
    obtain ⟨k3, K⟩ := K
    refine wn_iast lM_3 gM_3 k3 dX10_hotel_209 rfl ?_
    refine wp_iinc (v := x3 + 1) 1 [1, 0] dX10_hotel_210 rfl (by decide) rfl rfl rfl ?_
    show WP _ _ _ _ _ _ _ 213 [(0, .ref 0), (3, .int (x3 + 1))] _ _ _
    refine wp_goto 192 dX10_hotel_213 (by decide) ?_
    exact K
theorem bX10_hotel_218 {E : tp_E} {d : Nat} {Q : Int32 → tp_M → Prop} {σ : tp_M}   (x3 : Int32) (K : if (σ 0 7) ≤ x3 then (Wi E TM iX10_hotel (d + 1) Q 266 [(0, .ref 0), (3, .int 0)] [] σ) else (vp_in (2 * x3) 8 ∧ (vp_in (2 + x3) 1416 ∧ (vp_in ((2 * x3) + 1) 8 ∧ (vp_in x3 4 ∧ (Wi E TM iX10_hotel (d + 1) Q 218 [(0, .ref 0), (3, .int (x3 + 1))] [] (tp_u (tp_u σ 1 (Int32.toNatClampNeg (2 + x3)) (σ 11 (Int32.toNatClampNeg (2 * x3)))) 4 (Int32.toNatClampNeg x3) ((tp_u σ 1 (Int32.toNatClampNeg (2 + x3)) (σ 11 (Int32.toNatClampNeg (2 * x3)))) 11 (Int32.toNatClampNeg ((2 * x3) + 1)))))))))) : Wi E TM iX10_hotel (d + 1) Q 218 [(0, .ref 0), (3, .int x3)] [] σ := by
  refine wp_iload_n 1 dX10_hotel_218 rfl rfl rfl ?_
  refine wp_aload_n 0 dX10_hotel_219 rfl rfl rfl ?_
  refine wp_getI 10 7 kcX10 kfX10_97 rfl lM_0 (congrArg Prod.fst gM_0) dX10_hotel_220 rfl ?_
  refine wp_icmp_ge 264 dX10_hotel_223 (by decide) rfl (fun h1 => ?_) (fun h1 => ?_)
  · rw [if_pos h1] at K
    refine wp_iconst (v := 0) dX10_hotel_264 rfl (by decide) ?_
    refine wp_istore_n [1, 0] dX10_hotel_265 rfl rfl (by decide) rfl ?_
    show WP _ _ _ _ _ _ _ 266 [(0, .ref 0), (3, .int 0)] _ _ _
    exact K
  · rw [if_neg h1] at K
    refine wp_aload_n 0 dX10_hotel_226 rfl rfl rfl ?_
    refine wp_getR 10 0 kcX10 kfX10_7 rfl lM_0 (congrArg Prod.fst gM_0) rM_0_0 dX10_hotel_227 rfl ?_
    refine wp_iconst (v := 2) dX10_hotel_230 rfl (by decide) ?_
    refine wp_iload_n 1 dX10_hotel_231 rfl rfl rfl ?_
    refine wp_iadd dX10_hotel_232 rfl ?_
    refine wp_aload_n 0 dX10_hotel_233 rfl rfl rfl ?_
    refine wp_getR 10 27 kcX10 kfX10_45 rfl lM_0 (congrArg Prod.fst gM_0) rM_0_27 dX10_hotel_234 rfl ?_
    refine wp_iconst (v := 2) dX10_hotel_237 rfl (by decide) ?_
    refine wp_iload_n 1 dX10_hotel_238 rfl rfl rfl ?_
    refine wp_imul dX10_hotel_239 rfl ?_
    obtain ⟨k2, K⟩ := K
    refine wn_iald lM_11 gM_11 k2 dX10_hotel_240 rfl ?_
    obtain ⟨k3, K⟩ := K
    refine wn_iast lM_1 gM_1 k3 dX10_hotel_241 rfl ?_
    refine wp_aload_n 0 dX10_hotel_242 rfl rfl rfl ?_
    refine wp_getR 10 8 kcX10 kfX10_20 rfl lM_0 (congrArg Prod.fst gM_0) rM_0_8 dX10_hotel_243 rfl ?_
    refine wp_iload_n 1 dX10_hotel_246 rfl rfl rfl ?_
    refine wp_aload_n 0 dX10_hotel_247 rfl rfl rfl ?_
    refine wp_getR 10 27 kcX10 kfX10_45 rfl lM_0 (congrArg Prod.fst gM_0) rM_0_27 dX10_hotel_248 rfl ?_
    refine wp_iconst (v := 2) dX10_hotel_251 rfl (by decide) ?_
    refine wp_iload_n 1 dX10_hotel_252 rfl rfl rfl ?_
    refine wp_imul dX10_hotel_253 rfl ?_
    refine wp_iconst (v := 1) dX10_hotel_254 rfl (by decide) ?_
    refine wp_iadd dX10_hotel_255 rfl ?_
    obtain ⟨k4, K⟩ := K
    refine wn_iald lM_11 gM_11 k4 dX10_hotel_256 rfl ?_
    obtain ⟨k5, K⟩ := K
    refine wn_iast lM_4 gM_4 k5 dX10_hotel_257 rfl ?_
    refine wp_iinc (v := x3 + 1) 1 [1, 0] dX10_hotel_258 rfl (by decide) rfl rfl rfl ?_
    show WP _ _ _ _ _ _ _ 261 [(0, .ref 0), (3, .int (x3 + 1))] _ _ _
    refine wp_goto 218 dX10_hotel_261 (by decide) ?_
    exact K
theorem bX10_hotel_266 {E : tp_E} {d : Nat} {Q : Int32 → tp_M → Prop} {σ : tp_M}   (x3 : Int32) (K : if (σ 0 9) ≤ x3 then (Wi E TM iX10_hotel (d + 1) Q 322 [(0, .ref 0), (3, .int 0)] [] σ) else (vp_in (2 * x3) 16 ∧ (vp_in x3 8 ∧ (vp_in ((2 * x3) + 1) 16 ∧ (vp_in x3 8 ∧ (vp_in (50 + x3) 1416 ∧ (Wi E TM iX10_hotel (d + 1) Q 266 [(0, .ref 0), (3, .int (x3 + 1))] [] (tp_u (tp_u (tp_u σ 5 (Int32.toNatClampNeg x3) (σ 12 (Int32.toNatClampNeg (2 * x3)))) 6 (Int32.toNatClampNeg x3) ((tp_u σ 5 (Int32.toNatClampNeg x3) (σ 12 (Int32.toNatClampNeg (2 * x3)))) 12 (Int32.toNatClampNeg ((2 * x3) + 1)))) 1 (Int32.toNatClampNeg (50 + x3)) (-1))))))))) : Wi E TM iX10_hotel (d + 1) Q 266 [(0, .ref 0), (3, .int x3)] [] σ := by
  refine wp_iload_n 1 dX10_hotel_266 rfl rfl rfl ?_
  refine wp_aload_n 0 dX10_hotel_267 rfl rfl rfl ?_
  refine wp_getI 10 9 kcX10 kfX10_104 rfl lM_0 (congrArg Prod.fst gM_0) dX10_hotel_268 rfl ?_
  refine wp_icmp_ge 320 dX10_hotel_271 (by decide) rfl (fun h1 => ?_) (fun h1 => ?_)
  · rw [if_pos h1] at K
    refine wp_iconst (v := 0) dX10_hotel_320 rfl (by decide) ?_
    refine wp_istore_n [1, 0] dX10_hotel_321 rfl rfl (by decide) rfl ?_
    show WP _ _ _ _ _ _ _ 322 [(0, .ref 0), (3, .int 0)] _ _ _
    exact K
  · rw [if_neg h1] at K
    refine wp_aload_n 0 dX10_hotel_274 rfl rfl rfl ?_
    refine wp_getR 10 10 kcX10 kfX10_23 rfl lM_0 (congrArg Prod.fst gM_0) rM_0_10 dX10_hotel_275 rfl ?_
    refine wp_iload_n 1 dX10_hotel_278 rfl rfl rfl ?_
    refine wp_aload_n 0 dX10_hotel_279 rfl rfl rfl ?_
    refine wp_getR 10 29 kcX10 kfX10_48 rfl lM_0 (congrArg Prod.fst gM_0) rM_0_29 dX10_hotel_280 rfl ?_
    refine wp_iconst (v := 2) dX10_hotel_283 rfl (by decide) ?_
    refine wp_iload_n 1 dX10_hotel_284 rfl rfl rfl ?_
    refine wp_imul dX10_hotel_285 rfl ?_
    obtain ⟨k2, K⟩ := K
    refine wn_iald lM_12 gM_12 k2 dX10_hotel_286 rfl ?_
    obtain ⟨k3, K⟩ := K
    refine wn_iast lM_5 gM_5 k3 dX10_hotel_287 rfl ?_
    refine wp_aload_n 0 dX10_hotel_288 rfl rfl rfl ?_
    refine wp_getR 10 11 kcX10 kfX10_26 rfl lM_0 (congrArg Prod.fst gM_0) rM_0_11 dX10_hotel_289 rfl ?_
    refine wp_iload_n 1 dX10_hotel_292 rfl rfl rfl ?_
    refine wp_aload_n 0 dX10_hotel_293 rfl rfl rfl ?_
    refine wp_getR 10 29 kcX10 kfX10_48 rfl lM_0 (congrArg Prod.fst gM_0) rM_0_29 dX10_hotel_294 rfl ?_
    refine wp_iconst (v := 2) dX10_hotel_297 rfl (by decide) ?_
    refine wp_iload_n 1 dX10_hotel_298 rfl rfl rfl ?_
    refine wp_imul dX10_hotel_299 rfl ?_
    refine wp_iconst (v := 1) dX10_hotel_300 rfl (by decide) ?_
    refine wp_iadd dX10_hotel_301 rfl ?_
    obtain ⟨k4, K⟩ := K
    refine wn_iald lM_12 gM_12 k4 dX10_hotel_302 rfl ?_
    obtain ⟨k5, K⟩ := K
    refine wn_iast lM_6 gM_6 k5 dX10_hotel_303 rfl ?_
    refine wp_aload_n 0 dX10_hotel_304 rfl rfl rfl ?_
    refine wp_getR 10 0 kcX10 kfX10_7 rfl lM_0 (congrArg Prod.fst gM_0) rM_0_0 dX10_hotel_305 rfl ?_
    refine wp_bipush (v := 50) dX10_hotel_308 rfl (by decide) ?_
    refine wp_iload_n 1 dX10_hotel_310 rfl rfl rfl ?_
    refine wp_iadd dX10_hotel_311 rfl ?_
    refine wp_iconst (v := (-1)) dX10_hotel_312 rfl (by decide) ?_
    obtain ⟨k6, K⟩ := K
    refine wn_iast lM_1 gM_1 k6 dX10_hotel_313 rfl ?_
    refine wp_iinc (v := x3 + 1) 1 [1, 0] dX10_hotel_314 rfl (by decide) rfl rfl rfl ?_
    show WP _ _ _ _ _ _ _ 317 [(0, .ref 0), (3, .int (x3 + 1))] _ _ _
    refine wp_goto 266 dX10_hotel_317 (by decide) ?_
    exact K
theorem bX10_hotel_322 {E : tp_E} {d : Nat} {Q : Int32 → tp_M → Prop} {σ : tp_M}   (x3 : Int32) (K : if (σ 0 12) ≤ x3 then (vp_in 0 2 ∧ (vp_in 1 2 ∧ (Q ((tp_u (tp_u (tp_u (tp_u (tp_u σ 0 39 0) 0 43 0) 0 2 0) 2 (Int32.toNatClampNeg 0) 0) 2 (Int32.toNatClampNeg 1) 0) 0 7) (tp_u (tp_u (tp_u (tp_u (tp_u σ 0 39 0) 0 43 0) 0 2 0) 2 (Int32.toNatClampNeg 0) 0) 2 (Int32.toNatClampNeg 1) 0)))) else (vp_in (2 * x3) 8 ∧ (vp_in x3 4 ∧ (vp_in ((2 * x3) + 1) 8 ∧ (vp_in x3 4 ∧ (Wi E TM iX10_hotel (d + 1) Q 322 [(0, .ref 0), (3, .int (x3 + 1))] [] (tp_u (tp_u σ 7 (Int32.toNatClampNeg x3) (σ 13 (Int32.toNatClampNeg (2 * x3)))) 8 (Int32.toNatClampNeg x3) ((tp_u σ 7 (Int32.toNatClampNeg x3) (σ 13 (Int32.toNatClampNeg (2 * x3)))) 13 (Int32.toNatClampNeg ((2 * x3) + 1)))))))))) : Wi E TM iX10_hotel (d + 1) Q 322 [(0, .ref 0), (3, .int x3)] [] σ := by
  refine wp_iload_n 1 dX10_hotel_322 rfl rfl rfl ?_
  refine wp_aload_n 0 dX10_hotel_323 rfl rfl rfl ?_
  refine wp_getI 10 12 kcX10 kfX10_197 rfl lM_0 (congrArg Prod.fst gM_0) dX10_hotel_324 rfl ?_
  refine wp_icmp_ge 366 dX10_hotel_327 (by decide) rfl (fun h1 => ?_) (fun h1 => ?_)
  · rw [if_pos h1] at K
    refine wp_aload_n 0 dX10_hotel_366 rfl rfl rfl ?_
    refine wp_iconst (v := 0) dX10_hotel_367 rfl (by decide) ?_
    refine wp_putI 10 39 kcX10 kfX10_200 rfl rfl rfl rfl lM_0 (congrArg Prod.fst gM_0) dX10_hotel_368 rfl ?_
    refine wp_aload_n 0 dX10_hotel_371 rfl rfl rfl ?_
    refine wp_iconst (v := 0) dX10_hotel_372 rfl (by decide) ?_
    refine wp_putI 10 43 kcX10 kfX10_203 rfl rfl rfl rfl lM_0 (congrArg Prod.fst gM_0) dX10_hotel_373 rfl ?_
    refine wp_aload_n 0 dX10_hotel_376 rfl rfl rfl ?_
    refine wp_iconst (v := 0) dX10_hotel_377 rfl (by decide) ?_
    refine wp_putI 10 2 kcX10 kfX10_206 rfl rfl rfl rfl lM_0 (congrArg Prod.fst gM_0) dX10_hotel_378 rfl ?_
    refine wp_aload_n 0 dX10_hotel_381 rfl rfl rfl ?_
    refine wp_getR 10 1 kcX10 kfX10_13 rfl lM_0 (congrArg Prod.fst gM_0) rM_0_1 dX10_hotel_382 rfl ?_
    refine wp_iconst (v := 0) dX10_hotel_385 rfl (by decide) ?_
    refine wp_iconst (v := 0) dX10_hotel_386 rfl (by decide) ?_
    obtain ⟨k2, K⟩ := K
    refine wn_zast lM_2 gM_2 k2 (by decide) dX10_hotel_387 rfl ?_
    refine wp_aload_n 0 dX10_hotel_388 rfl rfl rfl ?_
    refine wp_getR 10 1 kcX10 kfX10_13 rfl lM_0 (congrArg Prod.fst gM_0) rM_0_1 dX10_hotel_389 rfl ?_
    refine wp_iconst (v := 1) dX10_hotel_392 rfl (by decide) ?_
    refine wp_iconst (v := 0) dX10_hotel_393 rfl (by decide) ?_
    obtain ⟨k3, K⟩ := K
    refine wn_zast lM_2 gM_2 k3 (by decide) dX10_hotel_394 rfl ?_
    refine wp_aload_n 0 dX10_hotel_395 rfl rfl rfl ?_
    refine wp_getI 10 7 kcX10 kfX10_97 rfl lM_0 (congrArg Prod.fst gM_0) dX10_hotel_396 rfl ?_
    exact wp_ret .int rfl rfl (Nat.le_refl 0) (Nat.le_refl 0) dX10_hotel_399 ⟨rfl, _, rfl, K⟩
  · rw [if_neg h1] at K
    refine wp_aload_n 0 dX10_hotel_330 rfl rfl rfl ?_
    refine wp_getR 10 13 kcX10 kfX10_29 rfl lM_0 (congrArg Prod.fst gM_0) rM_0_13 dX10_hotel_331 rfl ?_
    refine wp_iload_n 1 dX10_hotel_334 rfl rfl rfl ?_
    refine wp_aload_n 0 dX10_hotel_335 rfl rfl rfl ?_
    refine wp_getR 10 31 kcX10 kfX10_51 rfl lM_0 (congrArg Prod.fst gM_0) rM_0_31 dX10_hotel_336 rfl ?_
    refine wp_iconst (v := 2) dX10_hotel_339 rfl (by decide) ?_
    refine wp_iload_n 1 dX10_hotel_340 rfl rfl rfl ?_
    refine wp_imul dX10_hotel_341 rfl ?_
    obtain ⟨k4, K⟩ := K
    refine wn_iald lM_13 gM_13 k4 dX10_hotel_342 rfl ?_
    obtain ⟨k5, K⟩ := K
    refine wn_iast lM_7 gM_7 k5 dX10_hotel_343 rfl ?_
    refine wp_aload_n 0 dX10_hotel_344 rfl rfl rfl ?_
    refine wp_getR 10 14 kcX10 kfX10_32 rfl lM_0 (congrArg Prod.fst gM_0) rM_0_14 dX10_hotel_345 rfl ?_
    refine wp_iload_n 1 dX10_hotel_348 rfl rfl rfl ?_
    refine wp_aload_n 0 dX10_hotel_349 rfl rfl rfl ?_
    refine wp_getR 10 31 kcX10 kfX10_51 rfl lM_0 (congrArg Prod.fst gM_0) rM_0_31 dX10_hotel_350 rfl ?_
    refine wp_iconst (v := 2) dX10_hotel_353 rfl (by decide) ?_
    refine wp_iload_n 1 dX10_hotel_354 rfl rfl rfl ?_
    refine wp_imul dX10_hotel_355 rfl ?_
    refine wp_iconst (v := 1) dX10_hotel_356 rfl (by decide) ?_
    refine wp_iadd dX10_hotel_357 rfl ?_
    obtain ⟨k6, K⟩ := K
    refine wn_iald lM_13 gM_13 k6 dX10_hotel_358 rfl ?_
    obtain ⟨k7, K⟩ := K
    refine wn_iast lM_8 gM_8 k7 dX10_hotel_359 rfl ?_
    refine wp_iinc (v := x3 + 1) 1 [1, 0] dX10_hotel_360 rfl (by decide) rfl rfl rfl ?_
    show WP _ _ _ _ _ _ _ 363 [(0, .ref 0), (3, .int (x3 + 1))] _ _ _
    refine wp_goto 322 dX10_hotel_363 (by decide) ?_
    exact K
theorem bX10_here_0 {E : tp_E} {d : Nat} {Q : Int32 → tp_M → Prop} {σ : tp_M}    (K : Ci E TM yX10_letterAt iX10_letterAt d [.ref 0, .int (σ 0 17)] σ (fun v2 σ1 => if v2 = 32 then (Wi E TM iX10_here (d + 1) Q 0 [(0, .ref 0)] [] (tp_u σ1 0 17 ((σ1 0 17) + 1))) else (Ci E TM yX10_letterAt iX10_letterAt d [.ref 0, .int ((tp_u σ1 0 18 (σ1 0 17)) 0 17)] (tp_u σ1 0 18 (σ1 0 17)) (fun v5 σ4 => Q v5 σ4)))) : Wi E TM iX10_here (d + 1) Q 0 [(0, .ref 0)] [] σ := by
  refine wp_aload_n 0 dX10_here_0 rfl rfl rfl ?_
  refine wp_aload_n 0 dX10_here_1 rfl rfl rfl ?_
  refine wp_getI 10 17 kcX10 kfX10_114 rfl lM_0 (congrArg Prod.fst gM_0) dX10_here_2 rfl ?_
  refine wn_callVi (As := [.int (σ 0 17)]) (rest := []) 10 kmX10_117 (by decide) rfl rfl (Nat.le_of_ble_eq_true rfl) lM_0 (congrArg Prod.fst gM_0) dX10_here_5 rfl ?_
  refine Ci.mono K (fun v2 σ1 K => ?_)
  refine wp_bipush (v := 32) dX10_here_8 rfl (by decide) ?_
  refine wp_icmp_ne 26 dX10_here_10 (by decide) rfl (fun h3 => ?_) (fun h3 => ?_)
  · rw [if_neg h3] at K
    refine wp_aload_n 0 dX10_here_26 rfl rfl rfl ?_
    refine wp_aload_n 0 dX10_here_27 rfl rfl rfl ?_
    refine wp_getI 10 17 kcX10 kfX10_114 rfl lM_0 (congrArg Prod.fst gM_0) dX10_here_28 rfl ?_
    refine wp_putI 10 18 kcX10 kfX10_121 rfl rfl rfl rfl lM_0 (congrArg Prod.fst gM_0) dX10_here_31 rfl ?_
    refine wp_aload_n 0 dX10_here_34 rfl rfl rfl ?_
    refine wp_aload_n 0 dX10_here_35 rfl rfl rfl ?_
    refine wp_getI 10 17 kcX10 kfX10_114 rfl lM_0 (congrArg Prod.fst gM_0) dX10_here_36 rfl ?_
    refine wn_callVi (As := [.int ((tp_u σ1 0 18 (σ1 0 17)) 0 17)]) (rest := []) 10 kmX10_117 (by decide) rfl rfl (Nat.le_of_ble_eq_true rfl) lM_0 (congrArg Prod.fst gM_0) dX10_here_39 rfl ?_
    refine Ci.mono K (fun v5 σ4 K => ?_)
    exact wp_ret .int rfl rfl (Nat.le_refl 0) (Nat.le_refl 0) dX10_here_42 ⟨rfl, _, rfl, K⟩
  · rw [if_pos h3] at K
    refine wp_aload_n 0 dX10_here_13 rfl rfl rfl ?_
    refine wp_dup dX10_here_14 rfl rfl ?_
    refine wp_getI 10 17 kcX10 kfX10_114 rfl lM_0 (congrArg Prod.fst gM_0) dX10_here_15 rfl ?_
    refine wp_iconst (v := 1) dX10_here_18 rfl (by decide) ?_
    refine wp_iadd dX10_here_19 rfl ?_
    refine wp_putI 10 17 kcX10 kfX10_114 rfl rfl rfl rfl lM_0 (congrArg Prod.fst gM_0) dX10_here_20 rfl ?_
    refine wp_goto 0 dX10_here_23 (by decide) ?_
    exact K
theorem eX10_here {E : tp_E} {d : Nat} {Q : Int32 → tp_M → Prop} {σ : tp_M}    (K : Ci E TM yX10_letterAt iX10_letterAt d [.ref 0, .int (σ 0 17)] σ (fun v2 σ1 => if v2 = 32 then (Wi E TM iX10_here (d + 1) Q 0 [(0, .ref 0)] [] (tp_u σ1 0 17 ((σ1 0 17) + 1))) else (Ci E TM yX10_letterAt iX10_letterAt d [.ref 0, .int ((tp_u σ1 0 18 (σ1 0 17)) 0 17)] (tp_u σ1 0 18 (σ1 0 17)) (fun v5 σ4 => Q v5 σ4)))) : Ci E TM yX10_here iX10_here (d + 1) [.ref 0] σ Q := Ci.of ⟨by decide +kernel, rfl, rfl⟩ (Nat.le_of_ble_eq_true rfl) (bX10_here_0   K)
theorem bX10_letterAt_0 {E : tp_E} {d : Nat} {Q : Int32 → tp_M → Prop} {σ : tp_M}   (x1 : Int32) (K : if (σ 0 16) ≤ x1 then (Q (-1) σ) else (vp_in x1 240 ∧ (Q (σ 9 (Int32.toNatClampNeg x1)) σ))) : Wi E TM iX10_letterAt d Q 0 [(0, .ref 0), (1, .int x1)] [] σ := by
  refine wp_iload_n 1 dX10_letterAt_0 rfl rfl rfl ?_
  refine wp_aload_n 0 dX10_letterAt_1 rfl rfl rfl ?_
  refine wp_getI 10 16 kcX10 kfX10_110 rfl lM_0 (congrArg Prod.fst gM_0) dX10_letterAt_2 rfl ?_
  refine wp_icmp_ge 17 dX10_letterAt_5 (by decide) rfl (fun h1 => ?_) (fun h1 => ?_)
  · rw [if_pos h1] at K
    refine wp_iconst (v := (-1)) dX10_letterAt_17 rfl (by decide) ?_
    exact wp_ret .int rfl rfl (Nat.le_refl 0) (Nat.le_refl 0) dX10_letterAt_18 ⟨rfl, _, rfl, K⟩
  · rw [if_neg h1] at K
    refine wp_aload_n 0 dX10_letterAt_8 rfl rfl rfl ?_
    refine wp_getR 10 15 kcX10 kfX10_35 rfl lM_0 (congrArg Prod.fst gM_0) rM_0_15 dX10_letterAt_9 rfl ?_
    refine wp_iload_n 1 dX10_letterAt_12 rfl rfl rfl ?_
    obtain ⟨k2, K⟩ := K
    refine wn_iald lM_9 gM_9 k2 dX10_letterAt_13 rfl ?_
    refine wp_goto 18 dX10_letterAt_14 (by decide) ?_
    exact wp_ret .int rfl rfl (Nat.le_refl 0) (Nat.le_refl 0) dX10_letterAt_18 ⟨rfl, _, rfl, K⟩
theorem eX10_letterAt {E : tp_E} {d : Nat} {Q : Int32 → tp_M → Prop} {σ : tp_M}   (x1 : Int32) (K : if (σ 0 16) ≤ x1 then (Q (-1) σ) else (vp_in x1 240 ∧ (Q (σ 9 (Int32.toNatClampNeg x1)) σ))) : Ci E TM yX10_letterAt iX10_letterAt d [.ref 0, .int x1] σ Q := Ci.of ⟨by decide +kernel, rfl, rfl⟩ (Nat.le_of_ble_eq_true rfl) (bX10_letterAt_0  x1 K)
theorem bX10_takesClause_0 {E : tp_E} {d : Nat} {Q : Int32 → tp_M → Prop} {σ : tp_M}    (K : Ci E TM yX10_here iX10_here d [.ref 0] σ (fun v2 σ1 => if v2 = 104 then (Wi E TM iX10_takesClause (d + 1) Q 47 [(0, .ref 0), (1, .int v2)] [.int 1] σ1) else (if (σ1 0 22) ≤ 0 then (Wi E TM iX10_takesClause (d + 1) Q 47 [(0, .ref 0), (1, .int v2)] [.int 0] σ1) else (if v2 = 112 then (Wi E TM iX10_takesClause (d + 1) Q 47 [(0, .ref 0), (1, .int v2)] [.int 1] σ1) else (if v2 = 119 then (Wi E TM iX10_takesClause (d + 1) Q 47 [(0, .ref 0), (1, .int v2)] [.int 1] σ1) else (if v2 = 116 then (Wi E TM iX10_takesClause (d + 1) Q 47 [(0, .ref 0), (1, .int v2)] [.int 1] σ1) else (if v2 = 111 then (Wi E TM iX10_takesClause (d + 1) Q 47 [(0, .ref 0), (1, .int v2)] [.int 1] σ1) else (Wi E TM iX10_takesClause (d + 1) Q 47 [(0, .ref 0), (1, .int v2)] [.int 0] σ1)))))))) : Wi E TM iX10_takesClause (d + 1) Q 0 [(0, .ref 0)] [] σ := by
  refine wp_aload_n 0 dX10_takesClause_0 rfl rfl rfl ?_
  refine wn_callVi (As := []) (rest := []) 10 kmX10_127 (by decide) rfl rfl (Nat.le_of_ble_eq_true rfl) lM_0 (congrArg Prod.fst gM_0) dX10_takesClause_1 rfl ?_
  refine Ci.mono K (fun v2 σ1 K => ?_)
  refine wp_istore_n [1, 0] dX10_takesClause_4 rfl rfl (by decide) rfl ?_
  show WP _ _ _ _ _ _ _ 5 [(0, .ref 0), (1, .int v2)] _ _ _
  refine wp_iload_n 1 dX10_takesClause_5 rfl rfl rfl ?_
  refine wp_bipush (v := 104) dX10_takesClause_6 rfl (by decide) ?_
  refine wp_icmp_eq 42 dX10_takesClause_8 (by decide) rfl (fun h3 => ?_) (fun h3 => ?_)
  · rw [if_pos h3] at K
    refine wp_iconst (v := 1) dX10_takesClause_42 rfl (by decide) ?_
    refine wp_goto 47 dX10_takesClause_43 (by decide) ?_
    exact K
  · rw [if_neg h3] at K
    refine wp_aload_n 0 dX10_takesClause_11 rfl rfl rfl ?_
    refine wp_getI 10 22 kcX10 kfX10_145 rfl lM_0 (congrArg Prod.fst gM_0) dX10_takesClause_12 rfl ?_
    refine wp_if_le 46 dX10_takesClause_15 (by decide) rfl (fun h4 => ?_) (fun h4 => ?_)
    · rw [if_pos h4] at K
      refine wp_iconst (v := 0) dX10_takesClause_46 rfl (by decide) ?_
      exact K
    · rw [if_neg h4] at K
      refine wp_iload_n 1 dX10_takesClause_18 rfl rfl rfl ?_
      refine wp_bipush (v := 112) dX10_takesClause_19 rfl (by decide) ?_
      refine wp_icmp_eq 42 dX10_takesClause_21 (by decide) rfl (fun h5 => ?_) (fun h5 => ?_)
      · rw [if_pos h5] at K
        refine wp_iconst (v := 1) dX10_takesClause_42 rfl (by decide) ?_
        refine wp_goto 47 dX10_takesClause_43 (by decide) ?_
        exact K
      · rw [if_neg h5] at K
        refine wp_iload_n 1 dX10_takesClause_24 rfl rfl rfl ?_
        refine wp_bipush (v := 119) dX10_takesClause_25 rfl (by decide) ?_
        refine wp_icmp_eq 42 dX10_takesClause_27 (by decide) rfl (fun h6 => ?_) (fun h6 => ?_)
        · rw [if_pos h6] at K
          refine wp_iconst (v := 1) dX10_takesClause_42 rfl (by decide) ?_
          refine wp_goto 47 dX10_takesClause_43 (by decide) ?_
          exact K
        · rw [if_neg h6] at K
          refine wp_iload_n 1 dX10_takesClause_30 rfl rfl rfl ?_
          refine wp_bipush (v := 116) dX10_takesClause_31 rfl (by decide) ?_
          refine wp_icmp_eq 42 dX10_takesClause_33 (by decide) rfl (fun h7 => ?_) (fun h7 => ?_)
          · rw [if_pos h7] at K
            refine wp_iconst (v := 1) dX10_takesClause_42 rfl (by decide) ?_
            refine wp_goto 47 dX10_takesClause_43 (by decide) ?_
            exact K
          · rw [if_neg h7] at K
            refine wp_iload_n 1 dX10_takesClause_36 rfl rfl rfl ?_
            refine wp_bipush (v := 111) dX10_takesClause_37 rfl (by decide) ?_
            refine wp_icmp_ne 46 dX10_takesClause_39 (by decide) rfl (fun h8 => ?_) (fun h8 => ?_)
            · rw [if_neg h8] at K
              refine wp_iconst (v := 0) dX10_takesClause_46 rfl (by decide) ?_
              exact K
            · rw [if_pos h8] at K
              refine wp_iconst (v := 1) dX10_takesClause_42 rfl (by decide) ?_
              refine wp_goto 47 dX10_takesClause_43 (by decide) ?_
              exact K
theorem eX10_takesClause {E : tp_E} {d : Nat} {Q : Int32 → tp_M → Prop} {σ : tp_M}    (K : Ci E TM yX10_here iX10_here d [.ref 0] σ (fun v2 σ1 => if v2 = 104 then (Wi E TM iX10_takesClause (d + 1) Q 47 [(0, .ref 0), (1, .int v2)] [.int 1] σ1) else (if (σ1 0 22) ≤ 0 then (Wi E TM iX10_takesClause (d + 1) Q 47 [(0, .ref 0), (1, .int v2)] [.int 0] σ1) else (if v2 = 112 then (Wi E TM iX10_takesClause (d + 1) Q 47 [(0, .ref 0), (1, .int v2)] [.int 1] σ1) else (if v2 = 119 then (Wi E TM iX10_takesClause (d + 1) Q 47 [(0, .ref 0), (1, .int v2)] [.int 1] σ1) else (if v2 = 116 then (Wi E TM iX10_takesClause (d + 1) Q 47 [(0, .ref 0), (1, .int v2)] [.int 1] σ1) else (if v2 = 111 then (Wi E TM iX10_takesClause (d + 1) Q 47 [(0, .ref 0), (1, .int v2)] [.int 1] σ1) else (Wi E TM iX10_takesClause (d + 1) Q 47 [(0, .ref 0), (1, .int v2)] [.int 0] σ1)))))))) : Ci E TM yX10_takesClause iX10_takesClause (d + 1) [.ref 0] σ Q := Ci.of ⟨by decide +kernel, rfl, rfl⟩ (Nat.le_of_ble_eq_true rfl) (bX10_takesClause_0   K)
theorem bX10_takesClause_47 {E : tp_E} {d : Nat} {Q : Int32 → tp_M → Prop} {σ : tp_M}   (x1 : Int32) (s0 : Int32) (K : if s0 = 0 then (Ci E TM yX10_fails iX10_fails d [.ref 0, .int 1, .int (σ 0 18)] σ (fun v12 σ11 => (v12 = 0 ∨ v12 = 1) ∧ (Q v12 σ11))) else (if x1 = 104 then (if (σ 0 22) ≤ 0 then (Wi E TM iX10_takesClause (d + 1) Q 164 [(0, .ref 0), (1, .int x1)] [.int 0] σ) else (Wi E TM iX10_takesClause (d + 1) Q 164 [(0, .ref 0), (1, .int x1)] [.int 1] σ)) else (if x1 = 112 then (if (σ 0 24) = 12 then (Wi E TM iX10_takesClause (d + 1) Q 164 [(0, .ref 0), (1, .int x1)] [.int 1] σ) else (Wi E TM iX10_takesClause (d + 1) Q 164 [(0, .ref 0), (1, .int x1)] [.int 0] σ)) else (if x1 = 119 then (if (σ 0 26) = 4 then (Wi E TM iX10_takesClause (d + 1) Q 164 [(0, .ref 0), (1, .int x1)] [.int 1] σ) else (Wi E TM iX10_takesClause (d + 1) Q 164 [(0, .ref 0), (1, .int x1)] [.int 0] σ)) else (if x1 = 116 then (if (σ 0 28) = 8 then (Wi E TM iX10_takesClause (d + 1) Q 164 [(0, .ref 0), (1, .int x1)] [.int 1] σ) else (Wi E TM iX10_takesClause (d + 1) Q 164 [(0, .ref 0), (1, .int x1)] [.int 0] σ)) else (if (σ 0 30) = 4 then (Wi E TM iX10_takesClause (d + 1) Q 164 [(0, .ref 0), (1, .int x1)] [.int 1] σ) else (Wi E TM iX10_takesClause (d + 1) Q 164 [(0, .ref 0), (1, .int x1)] [.int 0] σ))))))) : Wi E TM iX10_takesClause (d + 1) Q 47 [(0, .ref 0), (1, .int x1)] [.int s0] σ := by
  refine wp_istore_n [1, 2, 0] dX10_takesClause_47 rfl rfl (by decide) rfl ?_
  show WP _ _ _ _ _ _ _ 48 [(0, .ref 0), (1, .int x1), (2, .int s0)] _ _ _
  refine wp_iload_n 2 dX10_takesClause_48 rfl rfl rfl ?_
  refine wp_if_ne 62 dX10_takesClause_49 (by decide) rfl (fun h1 => ?_) (fun h1 => ?_)
  · rw [if_neg h1] at K
    refine wp_iload_n 1 dX10_takesClause_62 rfl rfl rfl ?_
    refine wp_bipush (v := 104) dX10_takesClause_63 rfl (by decide) ?_
    refine wp_icmp_ne 83 dX10_takesClause_65 (by decide) rfl (fun h2 => ?_) (fun h2 => ?_)
    · rw [if_neg h2] at K
      refine wp_iload_n 1 dX10_takesClause_83 rfl rfl rfl ?_
      refine wp_bipush (v := 112) dX10_takesClause_84 rfl (by decide) ?_
      refine wp_icmp_ne 106 dX10_takesClause_86 (by decide) rfl (fun h3 => ?_) (fun h3 => ?_)
      · rw [if_neg h3] at K
        refine wp_iload_n 1 dX10_takesClause_106 rfl rfl rfl ?_
        refine wp_bipush (v := 119) dX10_takesClause_107 rfl (by decide) ?_
        refine wp_icmp_ne 128 dX10_takesClause_109 (by decide) rfl (fun h4 => ?_) (fun h4 => ?_)
        · rw [if_neg h4] at K
          refine wp_iload_n 1 dX10_takesClause_128 rfl rfl rfl ?_
          refine wp_bipush (v := 116) dX10_takesClause_129 rfl (by decide) ?_
          refine wp_icmp_ne 151 dX10_takesClause_131 (by decide) rfl (fun h5 => ?_) (fun h5 => ?_)
          · rw [if_neg h5] at K
            refine wp_aload_n 0 dX10_takesClause_151 rfl rfl rfl ?_
            refine wp_getI 10 30 kcX10 kfX10_163 rfl lM_0 (congrArg Prod.fst gM_0) dX10_takesClause_152 rfl ?_
            refine wp_iconst (v := 4) dX10_takesClause_155 rfl (by decide) ?_
            refine wp_icmp_ne 163 dX10_takesClause_156 (by decide) rfl (fun h6 => ?_) (fun h6 => ?_)
            · rw [if_neg h6] at K
              refine wp_iconst (v := 0) dX10_takesClause_163 rfl (by decide) ?_
              refine wp_lv [0, 1] rfl ?_
              exact K
            · rw [if_pos h6] at K
              refine wp_iconst (v := 1) dX10_takesClause_159 rfl (by decide) ?_
              refine wp_goto 164 dX10_takesClause_160 (by decide) ?_
              refine wp_lv [0, 1] rfl ?_
              exact K
          · rw [if_pos h5] at K
            refine wp_aload_n 0 dX10_takesClause_134 rfl rfl rfl ?_
            refine wp_getI 10 28 kcX10 kfX10_160 rfl lM_0 (congrArg Prod.fst gM_0) dX10_takesClause_135 rfl ?_
            refine wp_bipush (v := 8) dX10_takesClause_138 rfl (by decide) ?_
            refine wp_icmp_ne 147 dX10_takesClause_140 (by decide) rfl (fun h7 => ?_) (fun h7 => ?_)
            · rw [if_neg h7] at K
              refine wp_iconst (v := 0) dX10_takesClause_147 rfl (by decide) ?_
              refine wp_goto 164 dX10_takesClause_148 (by decide) ?_
              refine wp_lv [0, 1] rfl ?_
              exact K
            · rw [if_pos h7] at K
              refine wp_iconst (v := 1) dX10_takesClause_143 rfl (by decide) ?_
              refine wp_goto 164 dX10_takesClause_144 (by decide) ?_
              refine wp_lv [0, 1] rfl ?_
              exact K
        · rw [if_pos h4] at K
          refine wp_aload_n 0 dX10_takesClause_112 rfl rfl rfl ?_
          refine wp_getI 10 26 kcX10 kfX10_157 rfl lM_0 (congrArg Prod.fst gM_0) dX10_takesClause_113 rfl ?_
          refine wp_iconst (v := 4) dX10_takesClause_116 rfl (by decide) ?_
          refine wp_icmp_ne 124 dX10_takesClause_117 (by decide) rfl (fun h8 => ?_) (fun h8 => ?_)
          · rw [if_neg h8] at K
            refine wp_iconst (v := 0) dX10_takesClause_124 rfl (by decide) ?_
            refine wp_goto 164 dX10_takesClause_125 (by decide) ?_
            refine wp_lv [0, 1] rfl ?_
            exact K
          · rw [if_pos h8] at K
            refine wp_iconst (v := 1) dX10_takesClause_120 rfl (by decide) ?_
            refine wp_goto 164 dX10_takesClause_121 (by decide) ?_
            refine wp_lv [0, 1] rfl ?_
            exact K
      · rw [if_pos h3] at K
        refine wp_aload_n 0 dX10_takesClause_89 rfl rfl rfl ?_
        refine wp_getI 10 24 kcX10 kfX10_154 rfl lM_0 (congrArg Prod.fst gM_0) dX10_takesClause_90 rfl ?_
        refine wp_bipush (v := 12) dX10_takesClause_93 rfl (by decide) ?_
        refine wp_icmp_ne 102 dX10_takesClause_95 (by decide) rfl (fun h9 => ?_) (fun h9 => ?_)
        · rw [if_neg h9] at K
          refine wp_iconst (v := 0) dX10_takesClause_102 rfl (by decide) ?_
          refine wp_goto 164 dX10_takesClause_103 (by decide) ?_
          refine wp_lv [0, 1] rfl ?_
          exact K
        · rw [if_pos h9] at K
          refine wp_iconst (v := 1) dX10_takesClause_98 rfl (by decide) ?_
          refine wp_goto 164 dX10_takesClause_99 (by decide) ?_
          refine wp_lv [0, 1] rfl ?_
          exact K
    · rw [if_pos h2] at K
      refine wp_aload_n 0 dX10_takesClause_68 rfl rfl rfl ?_
      refine wp_getI 10 22 kcX10 kfX10_145 rfl lM_0 (congrArg Prod.fst gM_0) dX10_takesClause_69 rfl ?_
      refine wp_if_le 79 dX10_takesClause_72 (by decide) rfl (fun h10 => ?_) (fun h10 => ?_)
      · rw [if_pos h10] at K
        refine wp_iconst (v := 0) dX10_takesClause_79 rfl (by decide) ?_
        refine wp_goto 164 dX10_takesClause_80 (by decide) ?_
        refine wp_lv [0, 1] rfl ?_
        exact K
      · rw [if_neg h10] at K
        refine wp_iconst (v := 1) dX10_takesClause_75 rfl (by decide) ?_
        refine wp_goto 164 dX10_takesClause_76 (by decide) ?_
        refine wp_lv [0, 1] rfl ?_
        exact K
  · rw [if_pos h1] at K
    refine wp_aload_n 0 dX10_takesClause_52 rfl rfl rfl ?_
    refine wp_iconst (v := 1) dX10_takesClause_53 rfl (by decide) ?_
    refine wp_aload_n 0 dX10_takesClause_54 rfl rfl rfl ?_
    refine wp_getI 10 18 kcX10 kfX10_121 rfl lM_0 (congrArg Prod.fst gM_0) dX10_takesClause_55 rfl ?_
    refine wn_callVi (As := [.int 1, .int (σ 0 18)]) (rest := []) 10 kmX10_131 (by decide) rfl rfl (Nat.le_of_ble_eq_true rfl) lM_0 (congrArg Prod.fst gM_0) dX10_takesClause_58 rfl ?_
    refine Ci.mono K (fun v12 σ11 K => ?_)
    obtain ⟨k13, K⟩ := K
    exact wp_ret .boolean rfl (bool_nar k13) (Nat.le_refl 0) (Nat.le_refl 0) dX10_takesClause_61 ⟨rfl, _, rfl, K⟩
theorem bX10_takesClause_164 {E : tp_E} {d : Nat} {Q : Int32 → tp_M → Prop} {σ : tp_M}   (x1 : Int32) (s0 : Int32) (K : if s0 = 0 then (Ci E TM yX10_takesWords iX10_takesWords d [.ref 0, .int x1] (tp_u σ 0 17 ((σ 0 17) + 1)) (fun v3 σ2 => if v3 = 0 then (Q 0 σ2) else (Ci E TM yX10_takes iX10_takes d [.ref 0, .int 59] σ2 (fun v6 σ5 => if v6 = 0 then (Q 0 σ5) else (Q 1 σ5))))) else (Ci E TM yX10_fails iX10_fails d [.ref 0, .int 3, .int (σ 0 18)] σ (fun v9 σ8 => (v9 = 0 ∨ v9 = 1) ∧ (Q v9 σ8)))) : Wi E TM iX10_takesClause (d + 1) Q 164 [(0, .ref 0), (1, .int x1)] [.int s0] σ := by
  refine wp_istore_n [1, 2, 0] dX10_takesClause_164 rfl rfl (by decide) rfl ?_
  show WP _ _ _ _ _ _ _ 165 [(0, .ref 0), (1, .int x1), (3, .int s0)] _ _ _
  refine wp_iload_n 2 dX10_takesClause_165 rfl rfl rfl ?_
  refine wp_if_eq 179 dX10_takesClause_166 (by decide) rfl (fun h1 => ?_) (fun h1 => ?_)
  · rw [if_pos h1] at K
    refine wp_aload_n 0 dX10_takesClause_179 rfl rfl rfl ?_
    refine wp_dup dX10_takesClause_180 rfl rfl ?_
    refine wp_getI 10 17 kcX10 kfX10_114 rfl lM_0 (congrArg Prod.fst gM_0) dX10_takesClause_181 rfl ?_
    refine wp_iconst (v := 1) dX10_takesClause_184 rfl (by decide) ?_
    refine wp_iadd dX10_takesClause_185 rfl ?_
    refine wp_putI 10 17 kcX10 kfX10_114 rfl rfl rfl rfl lM_0 (congrArg Prod.fst gM_0) dX10_takesClause_186 rfl ?_
    refine wp_aload_n 0 dX10_takesClause_189 rfl rfl rfl ?_
    refine wp_iload_n 1 dX10_takesClause_190 rfl rfl rfl ?_
    refine wn_callVi (As := [.int x1]) (rest := []) 10 kmX10_182 (by decide) rfl rfl (Nat.le_of_ble_eq_true rfl) lM_0 (congrArg Prod.fst gM_0) dX10_takesClause_191 rfl ?_
    refine Ci.mono K (fun v3 σ2 K => ?_)
    refine wp_if_eq 210 dX10_takesClause_194 (by decide) rfl (fun h4 => ?_) (fun h4 => ?_)
    · rw [if_pos h4] at K
      refine wp_iconst (v := 0) dX10_takesClause_210 rfl (by decide) ?_
      exact wp_ret .boolean rfl rfl (Nat.le_refl 0) (Nat.le_refl 0) dX10_takesClause_211 ⟨rfl, _, rfl, K⟩
    · rw [if_neg h4] at K
      refine wp_aload_n 0 dX10_takesClause_197 rfl rfl rfl ?_
      refine wp_bipush (v := 59) dX10_takesClause_198 rfl (by decide) ?_
      refine wn_callVi (As := [.int 59]) (rest := []) 10 kmX10_185 (by decide) rfl rfl (Nat.le_of_ble_eq_true rfl) lM_0 (congrArg Prod.fst gM_0) dX10_takesClause_200 rfl ?_
      refine Ci.mono K (fun v6 σ5 K => ?_)
      refine wp_if_eq 210 dX10_takesClause_203 (by decide) rfl (fun h7 => ?_) (fun h7 => ?_)
      · rw [if_pos h7] at K
        refine wp_iconst (v := 0) dX10_takesClause_210 rfl (by decide) ?_
        exact wp_ret .boolean rfl rfl (Nat.le_refl 0) (Nat.le_refl 0) dX10_takesClause_211 ⟨rfl, _, rfl, K⟩
      · rw [if_neg h7] at K
        refine wp_iconst (v := 1) dX10_takesClause_206 rfl (by decide) ?_
        refine wp_goto 211 dX10_takesClause_207 (by decide) ?_
        exact wp_ret .boolean rfl rfl (Nat.le_refl 0) (Nat.le_refl 0) dX10_takesClause_211 ⟨rfl, _, rfl, K⟩
  · rw [if_neg h1] at K
    refine wp_aload_n 0 dX10_takesClause_169 rfl rfl rfl ?_
    refine wp_iconst (v := 3) dX10_takesClause_170 rfl (by decide) ?_
    refine wp_aload_n 0 dX10_takesClause_171 rfl rfl rfl ?_
    refine wp_getI 10 18 kcX10 kfX10_121 rfl lM_0 (congrArg Prod.fst gM_0) dX10_takesClause_172 rfl ?_
    refine wn_callVi (As := [.int 3, .int (σ 0 18)]) (rest := []) 10 kmX10_131 (by decide) rfl rfl (Nat.le_of_ble_eq_true rfl) lM_0 (congrArg Prod.fst gM_0) dX10_takesClause_175 rfl ?_
    refine Ci.mono K (fun v9 σ8 K => ?_)
    obtain ⟨k10, K⟩ := K
    exact wp_ret .boolean rfl (bool_nar k10) (Nat.le_refl 0) (Nat.le_refl 0) dX10_takesClause_178 ⟨rfl, _, rfl, K⟩
theorem bX10_fails_0 {E : tp_E} {d : Nat} {Q : Int32 → tp_M → Prop} {σ : tp_M}   (x1 : Int32) (x2 : Int32) (K : Q 0 (tp_u (tp_u σ 0 20 x1) 0 21 x2)) : Wi E TM iX10_fails d Q 0 [(0, .ref 0), (1, .int x1), (2, .int x2)] [] σ := by
  refine wp_aload_n 0 dX10_fails_0 rfl rfl rfl ?_
  refine wp_iload_n 1 dX10_fails_1 rfl rfl rfl ?_
  refine wp_putI 10 20 kcX10 kfX10_124 rfl rfl rfl rfl lM_0 (congrArg Prod.fst gM_0) dX10_fails_2 rfl ?_
  refine wp_aload_n 0 dX10_fails_5 rfl rfl rfl ?_
  refine wp_iload_n 2 dX10_fails_6 rfl rfl rfl ?_
  refine wp_putI 10 21 kcX10 kfX10_38 rfl rfl rfl rfl lM_0 (congrArg Prod.fst gM_0) dX10_fails_7 rfl ?_
  refine wp_iconst (v := 0) dX10_fails_10 rfl (by decide) ?_
  exact wp_ret .boolean rfl rfl (Nat.le_refl 0) (Nat.le_refl 0) dX10_fails_11 ⟨rfl, _, rfl, K⟩
theorem eX10_fails {E : tp_E} {d : Nat} {Q : Int32 → tp_M → Prop} {σ : tp_M}   (x1 : Int32) (x2 : Int32) (K : Q 0 (tp_u (tp_u σ 0 20 x1) 0 21 x2)) : Ci E TM yX10_fails iX10_fails d [.ref 0, .int x1, .int x2] σ Q := Ci.of ⟨by decide +kernel, rfl, rfl⟩ (Nat.le_of_ble_eq_true rfl) (bX10_fails_0  x1 x2 K)
theorem bX10_takesWords_0 {E : tp_E} {d : Nat} {Q : Int32 → tp_M → Prop} {σ : tp_M}   (x1 : Int32) (K : if x1 = 104 then (Ci E TM yX10_takesHotel iX10_takesHotel d [.ref 0] σ (fun v3 σ2 => (v3 = 0 ∨ v3 = 1) ∧ (Q v3 σ2))) else (if x1 = 112 then (Ci E TM yX10_takesPassage iX10_takesPassage d [.ref 0] σ (fun v7 σ6 => (v7 = 0 ∨ v7 = 1) ∧ (Q v7 σ6))) else (if x1 = 116 then (Ci E TM yX10_takesThing iX10_takesThing d [.ref 0] σ (fun v11 σ10 => (v11 = 0 ∨ v11 = 1) ∧ (Q v11 σ10))) else (if x1 = 119 then (Ci E TM yX10_takesWaiter iX10_takesWaiter d [.ref 0] σ (fun v15 σ14 => (v15 = 0 ∨ v15 = 1) ∧ (Q v15 σ14))) else (Ci E TM yX10_takesOrder iX10_takesOrder d [.ref 0] σ (fun v18 σ17 => (v18 = 0 ∨ v18 = 1) ∧ (Q v18 σ17))))))) : Wi E TM iX10_takesWords (d + 1) Q 0 [(0, .ref 0), (1, .int x1)] [] σ := by
  refine wp_iload_n 1 dX10_takesWords_0 rfl rfl rfl ?_
  by_cases h1 : x1 = 104
  · rw [if_pos h1] at K
    refine wp_lookup 43 44 dX10_takesWords_1 (by decide) (by rw [h1]; rfl) (by decide) ?_
    refine wp_aload_n 0 dX10_takesWords_44 rfl rfl rfl ?_
    refine wn_callVi (As := []) (rest := []) 10 kmX10_166 (by decide) rfl rfl (Nat.le_of_ble_eq_true rfl) lM_0 (congrArg Prod.fst gM_0) dX10_takesWords_45 rfl ?_
    refine Ci.mono K (fun v3 σ2 K => ?_)
    obtain ⟨k4, K⟩ := K
    exact wp_ret .boolean rfl (bool_nar k4) (Nat.le_refl 0) (Nat.le_refl 0) dX10_takesWords_48 ⟨rfl, _, rfl, K⟩
  rw [if_neg h1] at K
  by_cases h5 : x1 = 112
  · rw [if_pos h5] at K
    refine wp_lookup 48 49 dX10_takesWords_1 (by decide) (by rw [h5]; rfl) (by decide) ?_
    refine wp_aload_n 0 dX10_takesWords_49 rfl rfl rfl ?_
    refine wn_callVi (As := []) (rest := []) 10 kmX10_170 (by decide) rfl rfl (Nat.le_of_ble_eq_true rfl) lM_0 (congrArg Prod.fst gM_0) dX10_takesWords_50 rfl ?_
    refine Ci.mono K (fun v7 σ6 K => ?_)
    obtain ⟨k8, K⟩ := K
    exact wp_ret .boolean rfl (bool_nar k8) (Nat.le_refl 0) (Nat.le_refl 0) dX10_takesWords_53 ⟨rfl, _, rfl, K⟩
  rw [if_neg h5] at K
  by_cases h9 : x1 = 116
  · rw [if_pos h9] at K
    refine wp_lookup 58 59 dX10_takesWords_1 (by decide) (by rw [h9]; rfl) (by decide) ?_
    refine wp_aload_n 0 dX10_takesWords_59 rfl rfl rfl ?_
    refine wn_callVi (As := []) (rest := []) 10 kmX10_176 (by decide) rfl rfl (Nat.le_of_ble_eq_true rfl) lM_0 (congrArg Prod.fst gM_0) dX10_takesWords_60 rfl ?_
    refine Ci.mono K (fun v11 σ10 K => ?_)
    obtain ⟨k12, K⟩ := K
    exact wp_ret .boolean rfl (bool_nar k12) (Nat.le_refl 0) (Nat.le_refl 0) dX10_takesWords_63 ⟨rfl, _, rfl, K⟩
  rw [if_neg h9] at K
  by_cases h13 : x1 = 119
  · rw [if_pos h13] at K
    refine wp_lookup 53 54 dX10_takesWords_1 (by decide) (by rw [h13]; rfl) (by decide) ?_
    refine wp_aload_n 0 dX10_takesWords_54 rfl rfl rfl ?_
    refine wn_callVi (As := []) (rest := []) 10 kmX10_173 (by decide) rfl rfl (Nat.le_of_ble_eq_true rfl) lM_0 (congrArg Prod.fst gM_0) dX10_takesWords_55 rfl ?_
    refine Ci.mono K (fun v15 σ14 K => ?_)
    obtain ⟨k16, K⟩ := K
    exact wp_ret .boolean rfl (bool_nar k16) (Nat.le_refl 0) (Nat.le_refl 0) dX10_takesWords_58 ⟨rfl, _, rfl, K⟩
  rw [if_neg h13] at K
  refine wp_lookup 63 64 dX10_takesWords_1 (by decide) (by rw [lv_osw h1 (by decide), lv_osw h5 (by decide), lv_osw h9 (by decide), lv_osw h13 (by decide)]; rfl) (by decide) ?_
  refine wp_aload_n 0 dX10_takesWords_64 rfl rfl rfl ?_
  refine wn_callVi (As := []) (rest := []) 10 kmX10_179 (by decide) rfl rfl (Nat.le_of_ble_eq_true rfl) lM_0 (congrArg Prod.fst gM_0) dX10_takesWords_65 rfl ?_
  refine Ci.mono K (fun v18 σ17 K => ?_)
  obtain ⟨k19, K⟩ := K
  exact wp_ret .boolean rfl (bool_nar k19) (Nat.le_refl 0) (Nat.le_refl 0) dX10_takesWords_68 ⟨rfl, _, rfl, K⟩
theorem eX10_takesWords {E : tp_E} {d : Nat} {Q : Int32 → tp_M → Prop} {σ : tp_M}   (x1 : Int32) (K : if x1 = 104 then (Ci E TM yX10_takesHotel iX10_takesHotel d [.ref 0] σ (fun v3 σ2 => (v3 = 0 ∨ v3 = 1) ∧ (Q v3 σ2))) else (if x1 = 112 then (Ci E TM yX10_takesPassage iX10_takesPassage d [.ref 0] σ (fun v7 σ6 => (v7 = 0 ∨ v7 = 1) ∧ (Q v7 σ6))) else (if x1 = 116 then (Ci E TM yX10_takesThing iX10_takesThing d [.ref 0] σ (fun v11 σ10 => (v11 = 0 ∨ v11 = 1) ∧ (Q v11 σ10))) else (if x1 = 119 then (Ci E TM yX10_takesWaiter iX10_takesWaiter d [.ref 0] σ (fun v15 σ14 => (v15 = 0 ∨ v15 = 1) ∧ (Q v15 σ14))) else (Ci E TM yX10_takesOrder iX10_takesOrder d [.ref 0] σ (fun v18 σ17 => (v18 = 0 ∨ v18 = 1) ∧ (Q v18 σ17))))))) : Ci E TM yX10_takesWords iX10_takesWords (d + 1) [.ref 0, .int x1] σ Q := Ci.of ⟨by decide +kernel, rfl, rfl⟩ (Nat.le_of_ble_eq_true rfl) (bX10_takesWords_0  x1 K)
theorem bX10_takesHotel_0 {E : tp_E} {d : Nat} {Q : Int32 → tp_M → Prop} {σ : tp_M}    (K : Ci E TM yX10_takesNumber iX10_takesNumber d [.ref 0, .int 1, .int 8] σ (fun v2 σ1 => if v2 = 0 then (Q 0 σ1) else (Ci E TM yX10_takesNumber iX10_takesNumber d [.ref 0, .int 0, .int 99] (tp_u σ1 0 22 (σ1 0 19)) (fun v5 σ4 => if v5 = 0 then (Q 0 σ4) else (Q 1 (tp_u σ4 0 23 (σ4 0 19))))))) : Wi E TM iX10_takesHotel (d + 1) Q 0 [(0, .ref 0)] [] σ := by
  refine wp_aload_n 0 dX10_takesHotel_0 rfl rfl rfl ?_
  refine wp_iconst (v := 1) dX10_takesHotel_1 rfl (by decide) ?_
  refine wp_bipush (v := 8) dX10_takesHotel_2 rfl (by decide) ?_
  refine wn_callVi (As := [.int 1, .int 8]) (rest := []) 10 kmX10_142 (by decide) rfl rfl (Nat.le_of_ble_eq_true rfl) lM_0 (congrArg Prod.fst gM_0) dX10_takesHotel_4 rfl ?_
  refine Ci.mono K (fun v2 σ1 K => ?_)
  refine wp_if_ne 12 dX10_takesHotel_7 (by decide) rfl (fun h3 => ?_) (fun h3 => ?_)
  · rw [if_neg h3] at K
    refine wp_aload_n 0 dX10_takesHotel_12 rfl rfl rfl ?_
    refine wp_aload_n 0 dX10_takesHotel_13 rfl rfl rfl ?_
    refine wp_getI 10 19 kcX10 kfX10_139 rfl lM_0 (congrArg Prod.fst gM_0) dX10_takesHotel_14 rfl ?_
    refine wp_putI 10 22 kcX10 kfX10_145 rfl rfl rfl rfl lM_0 (congrArg Prod.fst gM_0) dX10_takesHotel_17 rfl ?_
    refine wp_aload_n 0 dX10_takesHotel_20 rfl rfl rfl ?_
    refine wp_iconst (v := 0) dX10_takesHotel_21 rfl (by decide) ?_
    refine wp_bipush (v := 99) dX10_takesHotel_22 rfl (by decide) ?_
    refine wn_callVi (As := [.int 0, .int 99]) (rest := []) 10 kmX10_142 (by decide) rfl rfl (Nat.le_of_ble_eq_true rfl) lM_0 (congrArg Prod.fst gM_0) dX10_takesHotel_24 rfl ?_
    refine Ci.mono K (fun v5 σ4 K => ?_)
    refine wp_if_ne 32 dX10_takesHotel_27 (by decide) rfl (fun h6 => ?_) (fun h6 => ?_)
    · rw [if_neg h6] at K
      refine wp_aload_n 0 dX10_takesHotel_32 rfl rfl rfl ?_
      refine wp_aload_n 0 dX10_takesHotel_33 rfl rfl rfl ?_
      refine wp_getI 10 19 kcX10 kfX10_139 rfl lM_0 (congrArg Prod.fst gM_0) dX10_takesHotel_34 rfl ?_
      refine wp_putI 10 23 kcX10 kfX10_148 rfl rfl rfl rfl lM_0 (congrArg Prod.fst gM_0) dX10_takesHotel_37 rfl ?_
      refine wp_iconst (v := 1) dX10_takesHotel_40 rfl (by decide) ?_
      exact wp_ret .boolean rfl rfl (Nat.le_refl 0) (Nat.le_refl 0) dX10_takesHotel_41 ⟨rfl, _, rfl, K⟩
    · rw [if_pos h6] at K
      refine wp_iconst (v := 0) dX10_takesHotel_30 rfl (by decide) ?_
      exact wp_ret .boolean rfl rfl (Nat.le_refl 0) (Nat.le_refl 0) dX10_takesHotel_31 ⟨rfl, _, rfl, K⟩
  · rw [if_pos h3] at K
    refine wp_iconst (v := 0) dX10_takesHotel_10 rfl (by decide) ?_
    exact wp_ret .boolean rfl rfl (Nat.le_refl 0) (Nat.le_refl 0) dX10_takesHotel_11 ⟨rfl, _, rfl, K⟩
theorem eX10_takesHotel {E : tp_E} {d : Nat} {Q : Int32 → tp_M → Prop} {σ : tp_M}    (K : Ci E TM yX10_takesNumber iX10_takesNumber d [.ref 0, .int 1, .int 8] σ (fun v2 σ1 => if v2 = 0 then (Q 0 σ1) else (Ci E TM yX10_takesNumber iX10_takesNumber d [.ref 0, .int 0, .int 99] (tp_u σ1 0 22 (σ1 0 19)) (fun v5 σ4 => if v5 = 0 then (Q 0 σ4) else (Q 1 (tp_u σ4 0 23 (σ4 0 19))))))) : Ci E TM yX10_takesHotel iX10_takesHotel (d + 1) [.ref 0] σ Q := Ci.of ⟨by decide +kernel, rfl, rfl⟩ (Nat.le_of_ble_eq_true rfl) (bX10_takesHotel_0   K)
theorem bX10_takesNumber_0 {E : tp_E} {d : Nat} {Q : Int32 → tp_M → Prop} {σ : tp_M}   (x1 : Int32) (x2 : Int32) (K : Ci E TM yX10_here iX10_here d [.ref 0] σ (fun v2 σ1 => Ci E TM yX10_in iX10_in d [.long (Int32.toInt64 v2), .long 48, .long 57] σ1 (fun v4 σ3 => if v4 = 0 then (Ci E TM yX10_fails iX10_fails d [.ref 0, .int 1, .int (σ3 0 18)] σ3 (fun v7 σ6 => (v7 = 0 ∨ v7 = 1) ∧ (Q v7 σ6))) else (Wi E TM iX10_takesNumber (d + 1) Q 32 [(0, .ref 0), (1, .int x1), (2, .int x2)] [] (tp_u σ3 0 19 0))))) : Wi E TM iX10_takesNumber (d + 1) Q 0 [(0, .ref 0), (1, .int x1), (2, .int x2)] [] σ := by
  refine wp_aload_n 0 dX10_takesNumber_0 rfl rfl rfl ?_
  refine wn_callVi (As := []) (rest := []) 10 kmX10_127 (by decide) rfl rfl (Nat.le_of_ble_eq_true rfl) lM_0 (congrArg Prod.fst gM_0) dX10_takesNumber_1 rfl ?_
  refine Ci.mono K (fun v2 σ1 K => ?_)
  refine wp_i2l dX10_takesNumber_4 rfl ?_
  refine wp_ldc2 dX10_takesNumber_5 rfl tw_1142 ?_
  refine wp_ldc2 dX10_takesNumber_8 rfl tw_1143 ?_
  refine wn_callSi (As := [.long (Int32.toInt64 v2), .long 48, .long 57]) (rest := []) kmX10_93 (by decide) rfl rfl (Nat.le_of_ble_eq_true rfl) dX10_takesNumber_11 rfl ?_
  refine Ci.mono K (fun v4 σ3 K => ?_)
  refine wp_if_ne 27 dX10_takesNumber_14 (by decide) rfl (fun h5 => ?_) (fun h5 => ?_)
  · rw [if_neg h5] at K
    refine wp_aload_n 0 dX10_takesNumber_27 rfl rfl rfl ?_
    refine wp_iconst (v := 0) dX10_takesNumber_28 rfl (by decide) ?_
    refine wp_putI 10 19 kcX10 kfX10_139 rfl rfl rfl rfl lM_0 (congrArg Prod.fst gM_0) dX10_takesNumber_29 rfl ?_
    exact K
  · rw [if_pos h5] at K
    refine wp_aload_n 0 dX10_takesNumber_17 rfl rfl rfl ?_
    refine wp_iconst (v := 1) dX10_takesNumber_18 rfl (by decide) ?_
    refine wp_aload_n 0 dX10_takesNumber_19 rfl rfl rfl ?_
    refine wp_getI 10 18 kcX10 kfX10_121 rfl lM_0 (congrArg Prod.fst gM_0) dX10_takesNumber_20 rfl ?_
    refine wn_callVi (As := [.int 1, .int (σ3 0 18)]) (rest := []) 10 kmX10_131 (by decide) rfl rfl (Nat.le_of_ble_eq_true rfl) lM_0 (congrArg Prod.fst gM_0) dX10_takesNumber_23 rfl ?_
    refine Ci.mono K (fun v7 σ6 K => ?_)
    obtain ⟨k8, K⟩ := K
    exact wp_ret .boolean rfl (bool_nar k8) (Nat.le_refl 0) (Nat.le_refl 0) dX10_takesNumber_26 ⟨rfl, _, rfl, K⟩
theorem eX10_takesNumber {E : tp_E} {d : Nat} {Q : Int32 → tp_M → Prop} {σ : tp_M}   (x1 : Int32) (x2 : Int32) (K : Ci E TM yX10_here iX10_here d [.ref 0] σ (fun v2 σ1 => Ci E TM yX10_in iX10_in d [.long (Int32.toInt64 v2), .long 48, .long 57] σ1 (fun v4 σ3 => if v4 = 0 then (Ci E TM yX10_fails iX10_fails d [.ref 0, .int 1, .int (σ3 0 18)] σ3 (fun v7 σ6 => (v7 = 0 ∨ v7 = 1) ∧ (Q v7 σ6))) else (Wi E TM iX10_takesNumber (d + 1) Q 32 [(0, .ref 0), (1, .int x1), (2, .int x2)] [] (tp_u σ3 0 19 0))))) : Ci E TM yX10_takesNumber iX10_takesNumber (d + 1) [.ref 0, .int x1, .int x2] σ Q := Ci.of ⟨by decide +kernel, rfl, rfl⟩ (Nat.le_of_ble_eq_true rfl) (bX10_takesNumber_0  x1 x2 K)
theorem bX10_takesNumber_32 {E : tp_E} {d : Nat} {Q : Int32 → tp_M → Prop} {σ : tp_M}   (x1 : Int32) (x2 : Int32) (K : Ci E TM yX10_letterAt iX10_letterAt d [.ref 0, .int (σ 0 17)] σ (fun v2 σ1 => Ci E TM yX10_in iX10_in d [.long (Int32.toInt64 v2), .long 48, .long 57] σ1 (fun v4 σ3 => if v4 = 0 then (if 4 ≤ ((σ3 0 17) - (σ3 0 18)) then (Ci E TM yX10_fails iX10_fails d [.ref 0, .int 2, .int (σ3 0 18)] σ3 (fun v8 σ7 => if v8 = 0 then (Q 0 σ7) else (Q 1 σ7))) else (Ci E TM yX10_in iX10_in d [.long (Int32.toInt64 (σ3 0 19)), .long (Int32.toInt64 x1), .long (Int32.toInt64 x2)] σ3 (fun v11 σ10 => if v11 = 0 then (Ci E TM yX10_fails iX10_fails d [.ref 0, .int 2, .int (σ10 0 18)] σ10 (fun v14 σ13 => if v14 = 0 then (Q 0 σ13) else (Q 1 σ13))) else (Q 1 σ10)))) else (if 3 ≤ ((σ3 0 17) - (σ3 0 18)) then (Wi E TM iX10_takesNumber (d + 1) Q 32 [(0, .ref 0), (1, .int x1), (2, .int x2)] [] (tp_u (tp_u σ3 0 19 (σ3 0 19)) 0 17 (((tp_u σ3 0 19 (σ3 0 19)) 0 17) + 1))) else (Ci E TM yX10_letterAt iX10_letterAt d [.ref 0, .int (σ3 0 17)] σ3 (fun v18 σ17 => Wi E TM iX10_takesNumber (d + 1) Q 32 [(0, .ref 0), (1, .int x1), (2, .int x2)] [] (tp_u (tp_u σ17 0 19 (((10 * (σ3 0 19)) + v18) - 48)) 0 17 (((tp_u σ17 0 19 (((10 * (σ3 0 19)) + v18) - 48)) 0 17) + 1)))))))) : Wi E TM iX10_takesNumber (d + 1) Q 32 [(0, .ref 0), (1, .int x1), (2, .int x2)] [] σ := by
  refine wp_aload_n 0 dX10_takesNumber_32 rfl rfl rfl ?_
  refine wp_aload_n 0 dX10_takesNumber_33 rfl rfl rfl ?_
  refine wp_getI 10 17 kcX10 kfX10_114 rfl lM_0 (congrArg Prod.fst gM_0) dX10_takesNumber_34 rfl ?_
  refine wn_callVi (As := [.int (σ 0 17)]) (rest := []) 10 kmX10_117 (by decide) rfl rfl (Nat.le_of_ble_eq_true rfl) lM_0 (congrArg Prod.fst gM_0) dX10_takesNumber_37 rfl ?_
  refine Ci.mono K (fun v2 σ1 K => ?_)
  refine wp_i2l dX10_takesNumber_40 rfl ?_
  refine wp_ldc2 dX10_takesNumber_41 rfl tw_1142 ?_
  refine wp_ldc2 dX10_takesNumber_44 rfl tw_1143 ?_
  refine wn_callSi (As := [.long (Int32.toInt64 v2), .long 48, .long 57]) (rest := []) kmX10_93 (by decide) rfl rfl (Nat.le_of_ble_eq_true rfl) dX10_takesNumber_47 rfl ?_
  refine Ci.mono K (fun v4 σ3 K => ?_)
  refine wp_if_eq 109 dX10_takesNumber_50 (by decide) rfl (fun h5 => ?_) (fun h5 => ?_)
  · rw [if_pos h5] at K
    refine wp_aload_n 0 dX10_takesNumber_109 rfl rfl rfl ?_
    refine wp_getI 10 17 kcX10 kfX10_114 rfl lM_0 (congrArg Prod.fst gM_0) dX10_takesNumber_110 rfl ?_
    refine wp_aload_n 0 dX10_takesNumber_113 rfl rfl rfl ?_
    refine wp_getI 10 18 kcX10 kfX10_121 rfl lM_0 (congrArg Prod.fst gM_0) dX10_takesNumber_114 rfl ?_
    refine wp_isub dX10_takesNumber_117 rfl ?_
    refine wp_iconst (v := 4) dX10_takesNumber_118 rfl (by decide) ?_
    refine wp_icmp_ge 137 dX10_takesNumber_119 (by decide) rfl (fun h6 => ?_) (fun h6 => ?_)
    · rw [if_pos h6] at K
      refine wp_aload_n 0 dX10_takesNumber_137 rfl rfl rfl ?_
      refine wp_iconst (v := 2) dX10_takesNumber_138 rfl (by decide) ?_
      refine wp_aload_n 0 dX10_takesNumber_139 rfl rfl rfl ?_
      refine wp_getI 10 18 kcX10 kfX10_121 rfl lM_0 (congrArg Prod.fst gM_0) dX10_takesNumber_140 rfl ?_
      refine wn_callVi (As := [.int 2, .int (σ3 0 18)]) (rest := []) 10 kmX10_131 (by decide) rfl rfl (Nat.le_of_ble_eq_true rfl) lM_0 (congrArg Prod.fst gM_0) dX10_takesNumber_143 rfl ?_
      refine Ci.mono K (fun v8 σ7 K => ?_)
      refine wp_if_eq 153 dX10_takesNumber_146 (by decide) rfl (fun h9 => ?_) (fun h9 => ?_)
      · rw [if_pos h9] at K
        refine wp_iconst (v := 0) dX10_takesNumber_153 rfl (by decide) ?_
        exact wp_ret .boolean rfl rfl (Nat.le_refl 0) (Nat.le_refl 0) dX10_takesNumber_154 ⟨rfl, _, rfl, K⟩
      · rw [if_neg h9] at K
        refine wp_iconst (v := 1) dX10_takesNumber_149 rfl (by decide) ?_
        refine wp_goto 154 dX10_takesNumber_150 (by decide) ?_
        exact wp_ret .boolean rfl rfl (Nat.le_refl 0) (Nat.le_refl 0) dX10_takesNumber_154 ⟨rfl, _, rfl, K⟩
    · rw [if_neg h6] at K
      refine wp_aload_n 0 dX10_takesNumber_122 rfl rfl rfl ?_
      refine wp_getI 10 19 kcX10 kfX10_139 rfl lM_0 (congrArg Prod.fst gM_0) dX10_takesNumber_123 rfl ?_
      refine wp_i2l dX10_takesNumber_126 rfl ?_
      refine wp_iload_n 1 dX10_takesNumber_127 rfl rfl rfl ?_
      refine wp_i2l dX10_takesNumber_128 rfl ?_
      refine wp_iload_n 2 dX10_takesNumber_129 rfl rfl rfl ?_
      refine wp_i2l dX10_takesNumber_130 rfl ?_
      refine wn_callSi (As := [.long (Int32.toInt64 (σ3 0 19)), .long (Int32.toInt64 x1), .long (Int32.toInt64 x2)]) (rest := []) kmX10_93 (by decide) rfl rfl (Nat.le_of_ble_eq_true rfl) dX10_takesNumber_131 rfl ?_
      refine Ci.mono K (fun v11 σ10 K => ?_)
      refine wp_if_ne 149 dX10_takesNumber_134 (by decide) rfl (fun h12 => ?_) (fun h12 => ?_)
      · rw [if_neg h12] at K
        refine wp_iconst (v := 1) dX10_takesNumber_149 rfl (by decide) ?_
        refine wp_goto 154 dX10_takesNumber_150 (by decide) ?_
        exact wp_ret .boolean rfl rfl (Nat.le_refl 0) (Nat.le_refl 0) dX10_takesNumber_154 ⟨rfl, _, rfl, K⟩
      · rw [if_pos h12] at K
        refine wp_aload_n 0 dX10_takesNumber_137 rfl rfl rfl ?_
        refine wp_iconst (v := 2) dX10_takesNumber_138 rfl (by decide) ?_
        refine wp_aload_n 0 dX10_takesNumber_139 rfl rfl rfl ?_
        refine wp_getI 10 18 kcX10 kfX10_121 rfl lM_0 (congrArg Prod.fst gM_0) dX10_takesNumber_140 rfl ?_
        refine wn_callVi (As := [.int 2, .int (σ10 0 18)]) (rest := []) 10 kmX10_131 (by decide) rfl rfl (Nat.le_of_ble_eq_true rfl) lM_0 (congrArg Prod.fst gM_0) dX10_takesNumber_143 rfl ?_
        refine Ci.mono K (fun v14 σ13 K => ?_)
        refine wp_if_eq 153 dX10_takesNumber_146 (by decide) rfl (fun h15 => ?_) (fun h15 => ?_)
        · rw [if_pos h15] at K
          refine wp_iconst (v := 0) dX10_takesNumber_153 rfl (by decide) ?_
          exact wp_ret .boolean rfl rfl (Nat.le_refl 0) (Nat.le_refl 0) dX10_takesNumber_154 ⟨rfl, _, rfl, K⟩
        · rw [if_neg h15] at K
          refine wp_iconst (v := 1) dX10_takesNumber_149 rfl (by decide) ?_
          refine wp_goto 154 dX10_takesNumber_150 (by decide) ?_
          exact wp_ret .boolean rfl rfl (Nat.le_refl 0) (Nat.le_refl 0) dX10_takesNumber_154 ⟨rfl, _, rfl, K⟩
  · rw [if_neg h5] at K
    refine wp_aload_n 0 dX10_takesNumber_53 rfl rfl rfl ?_
    refine wp_aload_n 0 dX10_takesNumber_54 rfl rfl rfl ?_
    refine wp_getI 10 17 kcX10 kfX10_114 rfl lM_0 (congrArg Prod.fst gM_0) dX10_takesNumber_55 rfl ?_
    refine wp_aload_n 0 dX10_takesNumber_58 rfl rfl rfl ?_
    refine wp_getI 10 18 kcX10 kfX10_121 rfl lM_0 (congrArg Prod.fst gM_0) dX10_takesNumber_59 rfl ?_
    refine wp_isub dX10_takesNumber_62 rfl ?_
    refine wp_iconst (v := 3) dX10_takesNumber_63 rfl (by decide) ?_
    refine wp_icmp_ge 89 dX10_takesNumber_64 (by decide) rfl (fun h16 => ?_) (fun h16 => ?_)
    · rw [if_pos h16] at K
      refine wp_aload_n 0 dX10_takesNumber_89 rfl rfl rfl ?_
      refine wp_getI 10 19 kcX10 kfX10_139 rfl lM_0 (congrArg Prod.fst gM_0) dX10_takesNumber_90 rfl ?_
      refine wp_putI 10 19 kcX10 kfX10_139 rfl rfl rfl rfl lM_0 (congrArg Prod.fst gM_0) dX10_takesNumber_93 rfl ?_
      refine wp_aload_n 0 dX10_takesNumber_96 rfl rfl rfl ?_
      refine wp_dup dX10_takesNumber_97 rfl rfl ?_
      refine wp_getI 10 17 kcX10 kfX10_114 rfl lM_0 (congrArg Prod.fst gM_0) dX10_takesNumber_98 rfl ?_
      refine wp_iconst (v := 1) dX10_takesNumber_101 rfl (by decide) ?_
      refine wp_iadd dX10_takesNumber_102 rfl ?_
      refine wp_putI 10 17 kcX10 kfX10_114 rfl rfl rfl rfl lM_0 (congrArg Prod.fst gM_0) dX10_takesNumber_103 rfl ?_
      refine wp_goto 32 dX10_takesNumber_106 (by decide) ?_
      exact K
    · rw [if_neg h16] at K
      refine wp_bipush (v := 10) dX10_takesNumber_67 rfl (by decide) ?_
      refine wp_aload_n 0 dX10_takesNumber_69 rfl rfl rfl ?_
      refine wp_getI 10 19 kcX10 kfX10_139 rfl lM_0 (congrArg Prod.fst gM_0) dX10_takesNumber_70 rfl ?_
      refine wp_imul dX10_takesNumber_73 rfl ?_
      refine wp_aload_n 0 dX10_takesNumber_74 rfl rfl rfl ?_
      refine wp_aload_n 0 dX10_takesNumber_75 rfl rfl rfl ?_
      refine wp_getI 10 17 kcX10 kfX10_114 rfl lM_0 (congrArg Prod.fst gM_0) dX10_takesNumber_76 rfl ?_
      refine wn_callVi (As := [.int (σ3 0 17)]) (rest := [.int (10 * (σ3 0 19)), .ref 0]) 10 kmX10_117 (by decide) rfl rfl (Nat.le_of_ble_eq_true rfl) lM_0 (congrArg Prod.fst gM_0) dX10_takesNumber_79 rfl ?_
      refine Ci.mono K (fun v18 σ17 K => ?_)
      refine wp_iadd dX10_takesNumber_82 rfl ?_
      refine wp_bipush (v := 48) dX10_takesNumber_83 rfl (by decide) ?_
      refine wp_isub dX10_takesNumber_85 rfl ?_
      refine wp_goto 93 dX10_takesNumber_86 (by decide) ?_
      refine wp_putI 10 19 kcX10 kfX10_139 rfl rfl rfl rfl lM_0 (congrArg Prod.fst gM_0) dX10_takesNumber_93 rfl ?_
      refine wp_aload_n 0 dX10_takesNumber_96 rfl rfl rfl ?_
      refine wp_dup dX10_takesNumber_97 rfl rfl ?_
      refine wp_getI 10 17 kcX10 kfX10_114 rfl lM_0 (congrArg Prod.fst gM_0) dX10_takesNumber_98 rfl ?_
      refine wp_iconst (v := 1) dX10_takesNumber_101 rfl (by decide) ?_
      refine wp_iadd dX10_takesNumber_102 rfl ?_
      refine wp_putI 10 17 kcX10 kfX10_114 rfl rfl rfl rfl lM_0 (congrArg Prod.fst gM_0) dX10_takesNumber_103 rfl ?_
      refine wp_goto 32 dX10_takesNumber_106 (by decide) ?_
      exact K
theorem bX10_takesPassage_0 {E : tp_E} {d : Nat} {Q : Int32 → tp_M → Prop} {σ : tp_M}    (K : Ci E TM yX10_takesNumber iX10_takesNumber d [.ref 0, .int 0, .int ((σ 0 22) - 1)] σ (fun v2 σ1 => if v2 = 0 then (Q 0 σ1) else (Ci E TM yX10_takesNumber iX10_takesNumber d [.ref 0, .int 0, .int ((σ1 0 22) - 1)] σ1 (fun v5 σ4 => if v5 = 0 then (Q 0 σ4) else (if (σ4 0 19) = (σ1 0 19) then (Ci E TM yX10_fails iX10_fails d [.ref 0, .int 4, .int (σ4 0 18)] σ4 (fun v9 σ8 => (v9 = 0 ∨ v9 = 1) ∧ (Q v9 σ8))) else (vp_in (σ1 0 19) 8 ∧ (Ci E TM yX10_has iX10_has d [.int (σ4 10 (Int32.toNatClampNeg (σ1 0 19))), .int (σ4 0 19)] σ4 (fun v13 σ12 => if v13 = 0 then (vp_in (σ1 0 19) 8 ∧ (vp_in (σ1 0 19) 8 ∧ (vp_in ((tp_u σ12 10 (Int32.toNatClampNeg (σ1 0 19)) ((σ12 10 (Int32.toNatClampNeg (σ1 0 19))) ||| (1 <<< ((σ12 0 19) &&& 31)))) 0 19) 8 ∧ (vp_in ((tp_u σ12 10 (Int32.toNatClampNeg (σ1 0 19)) ((σ12 10 (Int32.toNatClampNeg (σ1 0 19))) ||| (1 <<< ((σ12 0 19) &&& 31)))) 0 19) 8 ∧ (Q 1 (tp_u (tp_u (tp_u σ12 10 (Int32.toNatClampNeg (σ1 0 19)) ((σ12 10 (Int32.toNatClampNeg (σ1 0 19))) ||| (1 <<< ((σ12 0 19) &&& 31)))) 10 (Int32.toNatClampNeg ((tp_u σ12 10 (Int32.toNatClampNeg (σ1 0 19)) ((σ12 10 (Int32.toNatClampNeg (σ1 0 19))) ||| (1 <<< ((σ12 0 19) &&& 31)))) 0 19)) (((tp_u σ12 10 (Int32.toNatClampNeg (σ1 0 19)) ((σ12 10 (Int32.toNatClampNeg (σ1 0 19))) ||| (1 <<< ((σ12 0 19) &&& 31)))) 10 (Int32.toNatClampNeg ((tp_u σ12 10 (Int32.toNatClampNeg (σ1 0 19)) ((σ12 10 (Int32.toNatClampNeg (σ1 0 19))) ||| (1 <<< ((σ12 0 19) &&& 31)))) 0 19))) ||| (1 <<< ((σ1 0 19) &&& 31)))) 0 24 (((tp_u (tp_u σ12 10 (Int32.toNatClampNeg (σ1 0 19)) ((σ12 10 (Int32.toNatClampNeg (σ1 0 19))) ||| (1 <<< ((σ12 0 19) &&& 31)))) 10 (Int32.toNatClampNeg ((tp_u σ12 10 (Int32.toNatClampNeg (σ1 0 19)) ((σ12 10 (Int32.toNatClampNeg (σ1 0 19))) ||| (1 <<< ((σ12 0 19) &&& 31)))) 0 19)) (((tp_u σ12 10 (Int32.toNatClampNeg (σ1 0 19)) ((σ12 10 (Int32.toNatClampNeg (σ1 0 19))) ||| (1 <<< ((σ12 0 19) &&& 31)))) 10 (Int32.toNatClampNeg ((tp_u σ12 10 (Int32.toNatClampNeg (σ1 0 19)) ((σ12 10 (Int32.toNatClampNeg (σ1 0 19))) ||| (1 <<< ((σ12 0 19) &&& 31)))) 0 19))) ||| (1 <<< ((σ1 0 19) &&& 31)))) 0 24) + 1))))))) else (Ci E TM yX10_fails iX10_fails d [.ref 0, .int 4, .int (σ12 0 18)] σ12 (fun v20 σ19 => (v20 = 0 ∨ v20 = 1) ∧ (Q v20 σ19))))))))))) : Wi E TM iX10_takesPassage (d + 1) Q 0 [(0, .ref 0)] [] σ := by
  refine wp_aload_n 0 dX10_takesPassage_0 rfl rfl rfl ?_
  refine wp_iconst (v := 0) dX10_takesPassage_1 rfl (by decide) ?_
  refine wp_aload_n 0 dX10_takesPassage_2 rfl rfl rfl ?_
  refine wp_getI 10 22 kcX10 kfX10_145 rfl lM_0 (congrArg Prod.fst gM_0) dX10_takesPassage_3 rfl ?_
  refine wp_iconst (v := 1) dX10_takesPassage_6 rfl (by decide) ?_
  refine wp_isub dX10_takesPassage_7 rfl ?_
  refine wn_callVi (As := [.int 0, .int ((σ 0 22) - 1)]) (rest := []) 10 kmX10_142 (by decide) rfl rfl (Nat.le_of_ble_eq_true rfl) lM_0 (congrArg Prod.fst gM_0) dX10_takesPassage_8 rfl ?_
  refine Ci.mono K (fun v2 σ1 K => ?_)
  refine wp_if_ne 16 dX10_takesPassage_11 (by decide) rfl (fun h3 => ?_) (fun h3 => ?_)
  · rw [if_neg h3] at K
    refine wp_aload_n 0 dX10_takesPassage_16 rfl rfl rfl ?_
    refine wp_getI 10 19 kcX10 kfX10_139 rfl lM_0 (congrArg Prod.fst gM_0) dX10_takesPassage_17 rfl ?_
    refine wp_istore_n [1, 0] dX10_takesPassage_20 rfl rfl (by decide) rfl ?_
    show WP _ _ _ _ _ _ _ 21 [(0, .ref 0), (1, .int (σ1 0 19))] _ _ _
    refine wp_aload_n 0 dX10_takesPassage_21 rfl rfl rfl ?_
    refine wp_iconst (v := 0) dX10_takesPassage_22 rfl (by decide) ?_
    refine wp_aload_n 0 dX10_takesPassage_23 rfl rfl rfl ?_
    refine wp_getI 10 22 kcX10 kfX10_145 rfl lM_0 (congrArg Prod.fst gM_0) dX10_takesPassage_24 rfl ?_
    refine wp_iconst (v := 1) dX10_takesPassage_27 rfl (by decide) ?_
    refine wp_isub dX10_takesPassage_28 rfl ?_
    refine wn_callVi (As := [.int 0, .int ((σ1 0 22) - 1)]) (rest := []) 10 kmX10_142 (by decide) rfl rfl (Nat.le_of_ble_eq_true rfl) lM_0 (congrArg Prod.fst gM_0) dX10_takesPassage_29 rfl ?_
    refine Ci.mono K (fun v5 σ4 K => ?_)
    refine wp_if_ne 37 dX10_takesPassage_32 (by decide) rfl (fun h6 => ?_) (fun h6 => ?_)
    · rw [if_neg h6] at K
      refine wp_aload_n 0 dX10_takesPassage_37 rfl rfl rfl ?_
      refine wp_getI 10 19 kcX10 kfX10_139 rfl lM_0 (congrArg Prod.fst gM_0) dX10_takesPassage_38 rfl ?_
      refine wp_iload_n 1 dX10_takesPassage_41 rfl rfl rfl ?_
      refine wp_icmp_eq 61 dX10_takesPassage_42 (by decide) rfl (fun h7 => ?_) (fun h7 => ?_)
      · rw [if_pos h7] at K
        refine wp_aload_n 0 dX10_takesPassage_61 rfl rfl rfl ?_
        refine wp_iconst (v := 4) dX10_takesPassage_62 rfl (by decide) ?_
        refine wp_aload_n 0 dX10_takesPassage_63 rfl rfl rfl ?_
        refine wp_getI 10 18 kcX10 kfX10_121 rfl lM_0 (congrArg Prod.fst gM_0) dX10_takesPassage_64 rfl ?_
        refine wn_callVi (As := [.int 4, .int (σ4 0 18)]) (rest := []) 10 kmX10_131 (by decide) rfl rfl (Nat.le_of_ble_eq_true rfl) lM_0 (congrArg Prod.fst gM_0) dX10_takesPassage_67 rfl ?_
        refine Ci.mono K (fun v9 σ8 K => ?_)
        obtain ⟨k10, K⟩ := K
        exact wp_ret .boolean rfl (bool_nar k10) (Nat.le_refl 0) (Nat.le_refl 0) dX10_takesPassage_70 ⟨rfl, _, rfl, K⟩
      · rw [if_neg h7] at K
        refine wp_aload_n 0 dX10_takesPassage_45 rfl rfl rfl ?_
        refine wp_getR 10 25 kcX10 kfX10_42 rfl lM_0 (congrArg Prod.fst gM_0) rM_0_25 dX10_takesPassage_46 rfl ?_
        refine wp_iload_n 1 dX10_takesPassage_49 rfl rfl rfl ?_
        obtain ⟨k11, K⟩ := K
        refine wn_iald lM_10 gM_10 k11 dX10_takesPassage_50 rfl ?_
        refine wp_aload_n 0 dX10_takesPassage_51 rfl rfl rfl ?_
        refine wp_getI 10 19 kcX10 kfX10_139 rfl lM_0 (congrArg Prod.fst gM_0) dX10_takesPassage_52 rfl ?_
        refine wn_callSi (As := [.int (σ4 10 (Int32.toNatClampNeg (σ1 0 19))), .int (σ4 0 19)]) (rest := []) kmX10_151 (by decide) rfl rfl (Nat.le_of_ble_eq_true rfl) dX10_takesPassage_55 rfl ?_
        refine Ci.mono K (fun v13 σ12 K => ?_)
        refine wp_if_eq 71 dX10_takesPassage_58 (by decide) rfl (fun h14 => ?_) (fun h14 => ?_)
        · rw [if_pos h14] at K
          refine wp_aload_n 0 dX10_takesPassage_71 rfl rfl rfl ?_
          refine wp_getR 10 25 kcX10 kfX10_42 rfl lM_0 (congrArg Prod.fst gM_0) rM_0_25 dX10_takesPassage_72 rfl ?_
          refine wp_iload_n 1 dX10_takesPassage_75 rfl rfl rfl ?_
          refine wp_dup2 dX10_takesPassage_76 rfl rfl rfl ?_
          obtain ⟨k15, K⟩ := K
          refine wn_iald lM_10 gM_10 k15 dX10_takesPassage_77 rfl ?_
          refine wp_iconst (v := 1) dX10_takesPassage_78 rfl (by decide) ?_
          refine wp_aload_n 0 dX10_takesPassage_79 rfl rfl rfl ?_
          refine wp_getI 10 19 kcX10 kfX10_139 rfl lM_0 (congrArg Prod.fst gM_0) dX10_takesPassage_80 rfl ?_
          refine wp_ishl dX10_takesPassage_83 rfl ?_
          refine wp_ior dX10_takesPassage_84 rfl ?_
          obtain ⟨k16, K⟩ := K
          refine wn_iast lM_10 gM_10 k16 dX10_takesPassage_85 rfl ?_
          refine wp_aload_n 0 dX10_takesPassage_86 rfl rfl rfl ?_
          refine wp_getR 10 25 kcX10 kfX10_42 rfl lM_0 (congrArg Prod.fst gM_0) rM_0_25 dX10_takesPassage_87 rfl ?_
          refine wp_aload_n 0 dX10_takesPassage_90 rfl rfl rfl ?_
          refine wp_getI 10 19 kcX10 kfX10_139 rfl lM_0 (congrArg Prod.fst gM_0) dX10_takesPassage_91 rfl ?_
          refine wp_dup2 dX10_takesPassage_94 rfl rfl rfl ?_
          obtain ⟨k17, K⟩ := K
          refine wn_iald lM_10 gM_10 k17 dX10_takesPassage_95 rfl ?_
          refine wp_iconst (v := 1) dX10_takesPassage_96 rfl (by decide) ?_
          refine wp_iload_n 1 dX10_takesPassage_97 rfl rfl rfl ?_
          refine wp_ishl dX10_takesPassage_98 rfl ?_
          refine wp_ior dX10_takesPassage_99 rfl ?_
          obtain ⟨k18, K⟩ := K
          refine wn_iast lM_10 gM_10 k18 dX10_takesPassage_100 rfl ?_
          refine wp_aload_n 0 dX10_takesPassage_101 rfl rfl rfl ?_
          refine wp_dup dX10_takesPassage_102 rfl rfl ?_
          refine wp_getI 10 24 kcX10 kfX10_154 rfl lM_0 (congrArg Prod.fst gM_0) dX10_takesPassage_103 rfl ?_
          refine wp_iconst (v := 1) dX10_takesPassage_106 rfl (by decide) ?_
          refine wp_iadd dX10_takesPassage_107 rfl ?_
          refine wp_putI 10 24 kcX10 kfX10_154 rfl rfl rfl rfl lM_0 (congrArg Prod.fst gM_0) dX10_takesPassage_108 rfl ?_
          refine wp_iconst (v := 1) dX10_takesPassage_111 rfl (by decide) ?_
          exact wp_ret .boolean rfl rfl (Nat.le_refl 0) (Nat.le_refl 0) dX10_takesPassage_112 ⟨rfl, _, rfl, K⟩
        · rw [if_neg h14] at K
          refine wp_aload_n 0 dX10_takesPassage_61 rfl rfl rfl ?_
          refine wp_iconst (v := 4) dX10_takesPassage_62 rfl (by decide) ?_
          refine wp_aload_n 0 dX10_takesPassage_63 rfl rfl rfl ?_
          refine wp_getI 10 18 kcX10 kfX10_121 rfl lM_0 (congrArg Prod.fst gM_0) dX10_takesPassage_64 rfl ?_
          refine wn_callVi (As := [.int 4, .int (σ12 0 18)]) (rest := []) 10 kmX10_131 (by decide) rfl rfl (Nat.le_of_ble_eq_true rfl) lM_0 (congrArg Prod.fst gM_0) dX10_takesPassage_67 rfl ?_
          refine Ci.mono K (fun v20 σ19 K => ?_)
          obtain ⟨k21, K⟩ := K
          exact wp_ret .boolean rfl (bool_nar k21) (Nat.le_refl 0) (Nat.le_refl 0) dX10_takesPassage_70 ⟨rfl, _, rfl, K⟩
    · rw [if_pos h6] at K
      refine wp_iconst (v := 0) dX10_takesPassage_35 rfl (by decide) ?_
      exact wp_ret .boolean rfl rfl (Nat.le_refl 0) (Nat.le_refl 0) dX10_takesPassage_36 ⟨rfl, _, rfl, K⟩
  · rw [if_pos h3] at K
    refine wp_iconst (v := 0) dX10_takesPassage_14 rfl (by decide) ?_
    exact wp_ret .boolean rfl rfl (Nat.le_refl 0) (Nat.le_refl 0) dX10_takesPassage_15 ⟨rfl, _, rfl, K⟩
theorem eX10_takesPassage {E : tp_E} {d : Nat} {Q : Int32 → tp_M → Prop} {σ : tp_M}    (K : Ci E TM yX10_takesNumber iX10_takesNumber d [.ref 0, .int 0, .int ((σ 0 22) - 1)] σ (fun v2 σ1 => if v2 = 0 then (Q 0 σ1) else (Ci E TM yX10_takesNumber iX10_takesNumber d [.ref 0, .int 0, .int ((σ1 0 22) - 1)] σ1 (fun v5 σ4 => if v5 = 0 then (Q 0 σ4) else (if (σ4 0 19) = (σ1 0 19) then (Ci E TM yX10_fails iX10_fails d [.ref 0, .int 4, .int (σ4 0 18)] σ4 (fun v9 σ8 => (v9 = 0 ∨ v9 = 1) ∧ (Q v9 σ8))) else (vp_in (σ1 0 19) 8 ∧ (Ci E TM yX10_has iX10_has d [.int (σ4 10 (Int32.toNatClampNeg (σ1 0 19))), .int (σ4 0 19)] σ4 (fun v13 σ12 => if v13 = 0 then (vp_in (σ1 0 19) 8 ∧ (vp_in (σ1 0 19) 8 ∧ (vp_in ((tp_u σ12 10 (Int32.toNatClampNeg (σ1 0 19)) ((σ12 10 (Int32.toNatClampNeg (σ1 0 19))) ||| (1 <<< ((σ12 0 19) &&& 31)))) 0 19) 8 ∧ (vp_in ((tp_u σ12 10 (Int32.toNatClampNeg (σ1 0 19)) ((σ12 10 (Int32.toNatClampNeg (σ1 0 19))) ||| (1 <<< ((σ12 0 19) &&& 31)))) 0 19) 8 ∧ (Q 1 (tp_u (tp_u (tp_u σ12 10 (Int32.toNatClampNeg (σ1 0 19)) ((σ12 10 (Int32.toNatClampNeg (σ1 0 19))) ||| (1 <<< ((σ12 0 19) &&& 31)))) 10 (Int32.toNatClampNeg ((tp_u σ12 10 (Int32.toNatClampNeg (σ1 0 19)) ((σ12 10 (Int32.toNatClampNeg (σ1 0 19))) ||| (1 <<< ((σ12 0 19) &&& 31)))) 0 19)) (((tp_u σ12 10 (Int32.toNatClampNeg (σ1 0 19)) ((σ12 10 (Int32.toNatClampNeg (σ1 0 19))) ||| (1 <<< ((σ12 0 19) &&& 31)))) 10 (Int32.toNatClampNeg ((tp_u σ12 10 (Int32.toNatClampNeg (σ1 0 19)) ((σ12 10 (Int32.toNatClampNeg (σ1 0 19))) ||| (1 <<< ((σ12 0 19) &&& 31)))) 0 19))) ||| (1 <<< ((σ1 0 19) &&& 31)))) 0 24 (((tp_u (tp_u σ12 10 (Int32.toNatClampNeg (σ1 0 19)) ((σ12 10 (Int32.toNatClampNeg (σ1 0 19))) ||| (1 <<< ((σ12 0 19) &&& 31)))) 10 (Int32.toNatClampNeg ((tp_u σ12 10 (Int32.toNatClampNeg (σ1 0 19)) ((σ12 10 (Int32.toNatClampNeg (σ1 0 19))) ||| (1 <<< ((σ12 0 19) &&& 31)))) 0 19)) (((tp_u σ12 10 (Int32.toNatClampNeg (σ1 0 19)) ((σ12 10 (Int32.toNatClampNeg (σ1 0 19))) ||| (1 <<< ((σ12 0 19) &&& 31)))) 10 (Int32.toNatClampNeg ((tp_u σ12 10 (Int32.toNatClampNeg (σ1 0 19)) ((σ12 10 (Int32.toNatClampNeg (σ1 0 19))) ||| (1 <<< ((σ12 0 19) &&& 31)))) 0 19))) ||| (1 <<< ((σ1 0 19) &&& 31)))) 0 24) + 1))))))) else (Ci E TM yX10_fails iX10_fails d [.ref 0, .int 4, .int (σ12 0 18)] σ12 (fun v20 σ19 => (v20 = 0 ∨ v20 = 1) ∧ (Q v20 σ19))))))))))) : Ci E TM yX10_takesPassage iX10_takesPassage (d + 1) [.ref 0] σ Q := Ci.of ⟨by decide +kernel, rfl, rfl⟩ (Nat.le_of_ble_eq_true rfl) (bX10_takesPassage_0   K)
theorem bX10_has_0 {E : tp_E} {d : Nat} {Q : Int32 → tp_M → Prop} {σ : tp_M}   (x0 : Int32) (x1 : Int32) (K : if ((x0 >>> (x1 &&& 31)) &&& 1) = 1 then (Q 1 σ) else (Q 0 σ)) : Wi E TM iX10_has d Q 0 [(0, .int x0), (1, .int x1)] [] σ := by
  refine wp_iload_n 0 dX10_has_0 rfl rfl rfl ?_
  refine wp_iload_n 1 dX10_has_1 rfl rfl rfl ?_
  refine wp_ishr dX10_has_2 rfl ?_
  refine wp_iconst (v := 1) dX10_has_3 rfl (by decide) ?_
  refine wp_iand dX10_has_4 rfl ?_
  refine wp_iconst (v := 1) dX10_has_5 rfl (by decide) ?_
  refine wp_icmp_ne 13 dX10_has_6 (by decide) rfl (fun h1 => ?_) (fun h1 => ?_)
  · rw [if_neg h1] at K
    refine wp_iconst (v := 0) dX10_has_13 rfl (by decide) ?_
    exact wp_ret .boolean rfl rfl (Nat.le_refl 0) (Nat.le_refl 0) dX10_has_14 ⟨rfl, _, rfl, K⟩
  · rw [if_pos h1] at K
    refine wp_iconst (v := 1) dX10_has_9 rfl (by decide) ?_
    refine wp_goto 14 dX10_has_10 (by decide) ?_
    exact wp_ret .boolean rfl rfl (Nat.le_refl 0) (Nat.le_refl 0) dX10_has_14 ⟨rfl, _, rfl, K⟩
theorem eX10_has {E : tp_E} {d : Nat} {Q : Int32 → tp_M → Prop} {σ : tp_M}   (x0 : Int32) (x1 : Int32) (K : if ((x0 >>> (x1 &&& 31)) &&& 1) = 1 then (Q 1 σ) else (Q 0 σ)) : Ci E TM yX10_has iX10_has d [.int x0, .int x1] σ Q := Ci.of ⟨by decide +kernel, rfl, rfl⟩ (Nat.le_of_ble_eq_true rfl) (bX10_has_0  x0 x1 K)
theorem bX10_takesWaiter_0 {E : tp_E} {d : Nat} {Q : Int32 → tp_M → Prop} {σ : tp_M}    (K : Ci E TM yX10_takesNumber iX10_takesNumber d [.ref 0, .int 0, .int ((σ 0 22) - 1)] σ (fun v2 σ1 => if v2 = 0 then (Q 0 σ1) else (vp_in (2 * (σ1 0 26)) 8 ∧ (Ci E TM yX10_takesNumber iX10_takesNumber d [.ref 0, .int 1, .int 999] (tp_u σ1 11 (Int32.toNatClampNeg (2 * (σ1 0 26))) (σ1 0 19)) (fun v6 σ5 => if v6 = 0 then (Q 0 σ5) else (vp_in ((2 * (σ5 0 26)) + 1) 8 ∧ (Q 1 (tp_u (tp_u σ5 11 (Int32.toNatClampNeg ((2 * (σ5 0 26)) + 1)) (σ5 0 19)) 0 26 (((tp_u σ5 11 (Int32.toNatClampNeg ((2 * (σ5 0 26)) + 1)) (σ5 0 19)) 0 26) + 1))))))))) : Wi E TM iX10_takesWaiter (d + 1) Q 0 [(0, .ref 0)] [] σ := by
  refine wp_aload_n 0 dX10_takesWaiter_0 rfl rfl rfl ?_
  refine wp_iconst (v := 0) dX10_takesWaiter_1 rfl (by decide) ?_
  refine wp_aload_n 0 dX10_takesWaiter_2 rfl rfl rfl ?_
  refine wp_getI 10 22 kcX10 kfX10_145 rfl lM_0 (congrArg Prod.fst gM_0) dX10_takesWaiter_3 rfl ?_
  refine wp_iconst (v := 1) dX10_takesWaiter_6 rfl (by decide) ?_
  refine wp_isub dX10_takesWaiter_7 rfl ?_
  refine wn_callVi (As := [.int 0, .int ((σ 0 22) - 1)]) (rest := []) 10 kmX10_142 (by decide) rfl rfl (Nat.le_of_ble_eq_true rfl) lM_0 (congrArg Prod.fst gM_0) dX10_takesWaiter_8 rfl ?_
  refine Ci.mono K (fun v2 σ1 K => ?_)
  refine wp_if_ne 16 dX10_takesWaiter_11 (by decide) rfl (fun h3 => ?_) (fun h3 => ?_)
  · rw [if_neg h3] at K
    refine wp_aload_n 0 dX10_takesWaiter_16 rfl rfl rfl ?_
    refine wp_getR 10 27 kcX10 kfX10_45 rfl lM_0 (congrArg Prod.fst gM_0) rM_0_27 dX10_takesWaiter_17 rfl ?_
    refine wp_iconst (v := 2) dX10_takesWaiter_20 rfl (by decide) ?_
    refine wp_aload_n 0 dX10_takesWaiter_21 rfl rfl rfl ?_
    refine wp_getI 10 26 kcX10 kfX10_157 rfl lM_0 (congrArg Prod.fst gM_0) dX10_takesWaiter_22 rfl ?_
    refine wp_imul dX10_takesWaiter_25 rfl ?_
    refine wp_aload_n 0 dX10_takesWaiter_26 rfl rfl rfl ?_
    refine wp_getI 10 19 kcX10 kfX10_139 rfl lM_0 (congrArg Prod.fst gM_0) dX10_takesWaiter_27 rfl ?_
    obtain ⟨k4, K⟩ := K
    refine wn_iast lM_11 gM_11 k4 dX10_takesWaiter_30 rfl ?_
    refine wp_aload_n 0 dX10_takesWaiter_31 rfl rfl rfl ?_
    refine wp_iconst (v := 1) dX10_takesWaiter_32 rfl (by decide) ?_
    refine wp_sipush (v := 999) dX10_takesWaiter_33 rfl (by decide) ?_
    refine wn_callVi (As := [.int 1, .int 999]) (rest := []) 10 kmX10_142 (by decide) rfl rfl (Nat.le_of_ble_eq_true rfl) lM_0 (congrArg Prod.fst gM_0) dX10_takesWaiter_36 rfl ?_
    refine Ci.mono K (fun v6 σ5 K => ?_)
    refine wp_if_ne 44 dX10_takesWaiter_39 (by decide) rfl (fun h7 => ?_) (fun h7 => ?_)
    · rw [if_neg h7] at K
      refine wp_aload_n 0 dX10_takesWaiter_44 rfl rfl rfl ?_
      refine wp_getR 10 27 kcX10 kfX10_45 rfl lM_0 (congrArg Prod.fst gM_0) rM_0_27 dX10_takesWaiter_45 rfl ?_
      refine wp_iconst (v := 2) dX10_takesWaiter_48 rfl (by decide) ?_
      refine wp_aload_n 0 dX10_takesWaiter_49 rfl rfl rfl ?_
      refine wp_getI 10 26 kcX10 kfX10_157 rfl lM_0 (congrArg Prod.fst gM_0) dX10_takesWaiter_50 rfl ?_
      refine wp_imul dX10_takesWaiter_53 rfl ?_
      refine wp_iconst (v := 1) dX10_takesWaiter_54 rfl (by decide) ?_
      refine wp_iadd dX10_takesWaiter_55 rfl ?_
      refine wp_aload_n 0 dX10_takesWaiter_56 rfl rfl rfl ?_
      refine wp_getI 10 19 kcX10 kfX10_139 rfl lM_0 (congrArg Prod.fst gM_0) dX10_takesWaiter_57 rfl ?_
      obtain ⟨k8, K⟩ := K
      refine wn_iast lM_11 gM_11 k8 dX10_takesWaiter_60 rfl ?_
      refine wp_aload_n 0 dX10_takesWaiter_61 rfl rfl rfl ?_
      refine wp_dup dX10_takesWaiter_62 rfl rfl ?_
      refine wp_getI 10 26 kcX10 kfX10_157 rfl lM_0 (congrArg Prod.fst gM_0) dX10_takesWaiter_63 rfl ?_
      refine wp_iconst (v := 1) dX10_takesWaiter_66 rfl (by decide) ?_
      refine wp_iadd dX10_takesWaiter_67 rfl ?_
      refine wp_putI 10 26 kcX10 kfX10_157 rfl rfl rfl rfl lM_0 (congrArg Prod.fst gM_0) dX10_takesWaiter_68 rfl ?_
      refine wp_iconst (v := 1) dX10_takesWaiter_71 rfl (by decide) ?_
      exact wp_ret .boolean rfl rfl (Nat.le_refl 0) (Nat.le_refl 0) dX10_takesWaiter_72 ⟨rfl, _, rfl, K⟩
    · rw [if_pos h7] at K
      refine wp_iconst (v := 0) dX10_takesWaiter_42 rfl (by decide) ?_
      exact wp_ret .boolean rfl rfl (Nat.le_refl 0) (Nat.le_refl 0) dX10_takesWaiter_43 ⟨rfl, _, rfl, K⟩
  · rw [if_pos h3] at K
    refine wp_iconst (v := 0) dX10_takesWaiter_14 rfl (by decide) ?_
    exact wp_ret .boolean rfl rfl (Nat.le_refl 0) (Nat.le_refl 0) dX10_takesWaiter_15 ⟨rfl, _, rfl, K⟩
theorem eX10_takesWaiter {E : tp_E} {d : Nat} {Q : Int32 → tp_M → Prop} {σ : tp_M}    (K : Ci E TM yX10_takesNumber iX10_takesNumber d [.ref 0, .int 0, .int ((σ 0 22) - 1)] σ (fun v2 σ1 => if v2 = 0 then (Q 0 σ1) else (vp_in (2 * (σ1 0 26)) 8 ∧ (Ci E TM yX10_takesNumber iX10_takesNumber d [.ref 0, .int 1, .int 999] (tp_u σ1 11 (Int32.toNatClampNeg (2 * (σ1 0 26))) (σ1 0 19)) (fun v6 σ5 => if v6 = 0 then (Q 0 σ5) else (vp_in ((2 * (σ5 0 26)) + 1) 8 ∧ (Q 1 (tp_u (tp_u σ5 11 (Int32.toNatClampNeg ((2 * (σ5 0 26)) + 1)) (σ5 0 19)) 0 26 (((tp_u σ5 11 (Int32.toNatClampNeg ((2 * (σ5 0 26)) + 1)) (σ5 0 19)) 0 26) + 1))))))))) : Ci E TM yX10_takesWaiter iX10_takesWaiter (d + 1) [.ref 0] σ Q := Ci.of ⟨by decide +kernel, rfl, rfl⟩ (Nat.le_of_ble_eq_true rfl) (bX10_takesWaiter_0   K)
theorem bX10_takesThing_0 {E : tp_E} {d : Nat} {Q : Int32 → tp_M → Prop} {σ : tp_M}    (K : Ci E TM yX10_takesNumber iX10_takesNumber d [.ref 0, .int 1, .int 99] σ (fun v2 σ1 => if v2 = 0 then (Q 0 σ1) else (vp_in (2 * (σ1 0 28)) 16 ∧ (Ci E TM yX10_takesNumber iX10_takesNumber d [.ref 0, .int 0, .int 99] (tp_u σ1 12 (Int32.toNatClampNeg (2 * (σ1 0 28))) (σ1 0 19)) (fun v6 σ5 => if v6 = 0 then (Q 0 σ5) else (vp_in ((2 * (σ5 0 28)) + 1) 16 ∧ (Q 1 (tp_u (tp_u σ5 12 (Int32.toNatClampNeg ((2 * (σ5 0 28)) + 1)) (σ5 0 19)) 0 28 (((tp_u σ5 12 (Int32.toNatClampNeg ((2 * (σ5 0 28)) + 1)) (σ5 0 19)) 0 28) + 1))))))))) : Wi E TM iX10_takesThing (d + 1) Q 0 [(0, .ref 0)] [] σ := by
  refine wp_aload_n 0 dX10_takesThing_0 rfl rfl rfl ?_
  refine wp_iconst (v := 1) dX10_takesThing_1 rfl (by decide) ?_
  refine wp_bipush (v := 99) dX10_takesThing_2 rfl (by decide) ?_
  refine wn_callVi (As := [.int 1, .int 99]) (rest := []) 10 kmX10_142 (by decide) rfl rfl (Nat.le_of_ble_eq_true rfl) lM_0 (congrArg Prod.fst gM_0) dX10_takesThing_4 rfl ?_
  refine Ci.mono K (fun v2 σ1 K => ?_)
  refine wp_if_ne 12 dX10_takesThing_7 (by decide) rfl (fun h3 => ?_) (fun h3 => ?_)
  · rw [if_neg h3] at K
    refine wp_aload_n 0 dX10_takesThing_12 rfl rfl rfl ?_
    refine wp_getR 10 29 kcX10 kfX10_48 rfl lM_0 (congrArg Prod.fst gM_0) rM_0_29 dX10_takesThing_13 rfl ?_
    refine wp_iconst (v := 2) dX10_takesThing_16 rfl (by decide) ?_
    refine wp_aload_n 0 dX10_takesThing_17 rfl rfl rfl ?_
    refine wp_getI 10 28 kcX10 kfX10_160 rfl lM_0 (congrArg Prod.fst gM_0) dX10_takesThing_18 rfl ?_
    refine wp_imul dX10_takesThing_21 rfl ?_
    refine wp_aload_n 0 dX10_takesThing_22 rfl rfl rfl ?_
    refine wp_getI 10 19 kcX10 kfX10_139 rfl lM_0 (congrArg Prod.fst gM_0) dX10_takesThing_23 rfl ?_
    obtain ⟨k4, K⟩ := K
    refine wn_iast lM_12 gM_12 k4 dX10_takesThing_26 rfl ?_
    refine wp_aload_n 0 dX10_takesThing_27 rfl rfl rfl ?_
    refine wp_iconst (v := 0) dX10_takesThing_28 rfl (by decide) ?_
    refine wp_bipush (v := 99) dX10_takesThing_29 rfl (by decide) ?_
    refine wn_callVi (As := [.int 0, .int 99]) (rest := []) 10 kmX10_142 (by decide) rfl rfl (Nat.le_of_ble_eq_true rfl) lM_0 (congrArg Prod.fst gM_0) dX10_takesThing_31 rfl ?_
    refine Ci.mono K (fun v6 σ5 K => ?_)
    refine wp_if_ne 39 dX10_takesThing_34 (by decide) rfl (fun h7 => ?_) (fun h7 => ?_)
    · rw [if_neg h7] at K
      refine wp_aload_n 0 dX10_takesThing_39 rfl rfl rfl ?_
      refine wp_getR 10 29 kcX10 kfX10_48 rfl lM_0 (congrArg Prod.fst gM_0) rM_0_29 dX10_takesThing_40 rfl ?_
      refine wp_iconst (v := 2) dX10_takesThing_43 rfl (by decide) ?_
      refine wp_aload_n 0 dX10_takesThing_44 rfl rfl rfl ?_
      refine wp_getI 10 28 kcX10 kfX10_160 rfl lM_0 (congrArg Prod.fst gM_0) dX10_takesThing_45 rfl ?_
      refine wp_imul dX10_takesThing_48 rfl ?_
      refine wp_iconst (v := 1) dX10_takesThing_49 rfl (by decide) ?_
      refine wp_iadd dX10_takesThing_50 rfl ?_
      refine wp_aload_n 0 dX10_takesThing_51 rfl rfl rfl ?_
      refine wp_getI 10 19 kcX10 kfX10_139 rfl lM_0 (congrArg Prod.fst gM_0) dX10_takesThing_52 rfl ?_
      obtain ⟨k8, K⟩ := K
      refine wn_iast lM_12 gM_12 k8 dX10_takesThing_55 rfl ?_
      refine wp_aload_n 0 dX10_takesThing_56 rfl rfl rfl ?_
      refine wp_dup dX10_takesThing_57 rfl rfl ?_
      refine wp_getI 10 28 kcX10 kfX10_160 rfl lM_0 (congrArg Prod.fst gM_0) dX10_takesThing_58 rfl ?_
      refine wp_iconst (v := 1) dX10_takesThing_61 rfl (by decide) ?_
      refine wp_iadd dX10_takesThing_62 rfl ?_
      refine wp_putI 10 28 kcX10 kfX10_160 rfl rfl rfl rfl lM_0 (congrArg Prod.fst gM_0) dX10_takesThing_63 rfl ?_
      refine wp_iconst (v := 1) dX10_takesThing_66 rfl (by decide) ?_
      exact wp_ret .boolean rfl rfl (Nat.le_refl 0) (Nat.le_refl 0) dX10_takesThing_67 ⟨rfl, _, rfl, K⟩
    · rw [if_pos h7] at K
      refine wp_iconst (v := 0) dX10_takesThing_37 rfl (by decide) ?_
      exact wp_ret .boolean rfl rfl (Nat.le_refl 0) (Nat.le_refl 0) dX10_takesThing_38 ⟨rfl, _, rfl, K⟩
  · rw [if_pos h3] at K
    refine wp_iconst (v := 0) dX10_takesThing_10 rfl (by decide) ?_
    exact wp_ret .boolean rfl rfl (Nat.le_refl 0) (Nat.le_refl 0) dX10_takesThing_11 ⟨rfl, _, rfl, K⟩
theorem eX10_takesThing {E : tp_E} {d : Nat} {Q : Int32 → tp_M → Prop} {σ : tp_M}    (K : Ci E TM yX10_takesNumber iX10_takesNumber d [.ref 0, .int 1, .int 99] σ (fun v2 σ1 => if v2 = 0 then (Q 0 σ1) else (vp_in (2 * (σ1 0 28)) 16 ∧ (Ci E TM yX10_takesNumber iX10_takesNumber d [.ref 0, .int 0, .int 99] (tp_u σ1 12 (Int32.toNatClampNeg (2 * (σ1 0 28))) (σ1 0 19)) (fun v6 σ5 => if v6 = 0 then (Q 0 σ5) else (vp_in ((2 * (σ5 0 28)) + 1) 16 ∧ (Q 1 (tp_u (tp_u σ5 12 (Int32.toNatClampNeg ((2 * (σ5 0 28)) + 1)) (σ5 0 19)) 0 28 (((tp_u σ5 12 (Int32.toNatClampNeg ((2 * (σ5 0 28)) + 1)) (σ5 0 19)) 0 28) + 1))))))))) : Ci E TM yX10_takesThing iX10_takesThing (d + 1) [.ref 0] σ Q := Ci.of ⟨by decide +kernel, rfl, rfl⟩ (Nat.le_of_ble_eq_true rfl) (bX10_takesThing_0   K)
theorem bX10_takesOrder_0 {E : tp_E} {d : Nat} {Q : Int32 → tp_M → Prop} {σ : tp_M}    (K : Ci E TM yX10_takesNumber iX10_takesNumber d [.ref 0, .int 0, .int ((σ 0 22) - 1)] σ (fun v2 σ1 => if v2 = 0 then (Q 0 σ1) else (vp_in (2 * (σ1 0 30)) 8 ∧ (Ci E TM yX10_takesNumber iX10_takesNumber d [.ref 0, .int 0, .int 99] (tp_u σ1 13 (Int32.toNatClampNeg (2 * (σ1 0 30))) (σ1 0 19)) (fun v6 σ5 => if v6 = 0 then (Q 0 σ5) else (vp_in ((2 * (σ5 0 30)) + 1) 8 ∧ (Q 1 (tp_u (tp_u σ5 13 (Int32.toNatClampNeg ((2 * (σ5 0 30)) + 1)) (σ5 0 19)) 0 30 (((tp_u σ5 13 (Int32.toNatClampNeg ((2 * (σ5 0 30)) + 1)) (σ5 0 19)) 0 30) + 1))))))))) : Wi E TM iX10_takesOrder (d + 1) Q 0 [(0, .ref 0)] [] σ := by
  refine wp_aload_n 0 dX10_takesOrder_0 rfl rfl rfl ?_
  refine wp_iconst (v := 0) dX10_takesOrder_1 rfl (by decide) ?_
  refine wp_aload_n 0 dX10_takesOrder_2 rfl rfl rfl ?_
  refine wp_getI 10 22 kcX10 kfX10_145 rfl lM_0 (congrArg Prod.fst gM_0) dX10_takesOrder_3 rfl ?_
  refine wp_iconst (v := 1) dX10_takesOrder_6 rfl (by decide) ?_
  refine wp_isub dX10_takesOrder_7 rfl ?_
  refine wn_callVi (As := [.int 0, .int ((σ 0 22) - 1)]) (rest := []) 10 kmX10_142 (by decide) rfl rfl (Nat.le_of_ble_eq_true rfl) lM_0 (congrArg Prod.fst gM_0) dX10_takesOrder_8 rfl ?_
  refine Ci.mono K (fun v2 σ1 K => ?_)
  refine wp_if_ne 16 dX10_takesOrder_11 (by decide) rfl (fun h3 => ?_) (fun h3 => ?_)
  · rw [if_neg h3] at K
    refine wp_aload_n 0 dX10_takesOrder_16 rfl rfl rfl ?_
    refine wp_getR 10 31 kcX10 kfX10_51 rfl lM_0 (congrArg Prod.fst gM_0) rM_0_31 dX10_takesOrder_17 rfl ?_
    refine wp_iconst (v := 2) dX10_takesOrder_20 rfl (by decide) ?_
    refine wp_aload_n 0 dX10_takesOrder_21 rfl rfl rfl ?_
    refine wp_getI 10 30 kcX10 kfX10_163 rfl lM_0 (congrArg Prod.fst gM_0) dX10_takesOrder_22 rfl ?_
    refine wp_imul dX10_takesOrder_25 rfl ?_
    refine wp_aload_n 0 dX10_takesOrder_26 rfl rfl rfl ?_
    refine wp_getI 10 19 kcX10 kfX10_139 rfl lM_0 (congrArg Prod.fst gM_0) dX10_takesOrder_27 rfl ?_
    obtain ⟨k4, K⟩ := K
    refine wn_iast lM_13 gM_13 k4 dX10_takesOrder_30 rfl ?_
    refine wp_aload_n 0 dX10_takesOrder_31 rfl rfl rfl ?_
    refine wp_iconst (v := 0) dX10_takesOrder_32 rfl (by decide) ?_
    refine wp_bipush (v := 99) dX10_takesOrder_33 rfl (by decide) ?_
    refine wn_callVi (As := [.int 0, .int 99]) (rest := []) 10 kmX10_142 (by decide) rfl rfl (Nat.le_of_ble_eq_true rfl) lM_0 (congrArg Prod.fst gM_0) dX10_takesOrder_35 rfl ?_
    refine Ci.mono K (fun v6 σ5 K => ?_)
    refine wp_if_ne 43 dX10_takesOrder_38 (by decide) rfl (fun h7 => ?_) (fun h7 => ?_)
    · rw [if_neg h7] at K
      refine wp_aload_n 0 dX10_takesOrder_43 rfl rfl rfl ?_
      refine wp_getR 10 31 kcX10 kfX10_51 rfl lM_0 (congrArg Prod.fst gM_0) rM_0_31 dX10_takesOrder_44 rfl ?_
      refine wp_iconst (v := 2) dX10_takesOrder_47 rfl (by decide) ?_
      refine wp_aload_n 0 dX10_takesOrder_48 rfl rfl rfl ?_
      refine wp_getI 10 30 kcX10 kfX10_163 rfl lM_0 (congrArg Prod.fst gM_0) dX10_takesOrder_49 rfl ?_
      refine wp_imul dX10_takesOrder_52 rfl ?_
      refine wp_iconst (v := 1) dX10_takesOrder_53 rfl (by decide) ?_
      refine wp_iadd dX10_takesOrder_54 rfl ?_
      refine wp_aload_n 0 dX10_takesOrder_55 rfl rfl rfl ?_
      refine wp_getI 10 19 kcX10 kfX10_139 rfl lM_0 (congrArg Prod.fst gM_0) dX10_takesOrder_56 rfl ?_
      obtain ⟨k8, K⟩ := K
      refine wn_iast lM_13 gM_13 k8 dX10_takesOrder_59 rfl ?_
      refine wp_aload_n 0 dX10_takesOrder_60 rfl rfl rfl ?_
      refine wp_dup dX10_takesOrder_61 rfl rfl ?_
      refine wp_getI 10 30 kcX10 kfX10_163 rfl lM_0 (congrArg Prod.fst gM_0) dX10_takesOrder_62 rfl ?_
      refine wp_iconst (v := 1) dX10_takesOrder_65 rfl (by decide) ?_
      refine wp_iadd dX10_takesOrder_66 rfl ?_
      refine wp_putI 10 30 kcX10 kfX10_163 rfl rfl rfl rfl lM_0 (congrArg Prod.fst gM_0) dX10_takesOrder_67 rfl ?_
      refine wp_iconst (v := 1) dX10_takesOrder_70 rfl (by decide) ?_
      exact wp_ret .boolean rfl rfl (Nat.le_refl 0) (Nat.le_refl 0) dX10_takesOrder_71 ⟨rfl, _, rfl, K⟩
    · rw [if_pos h7] at K
      refine wp_iconst (v := 0) dX10_takesOrder_41 rfl (by decide) ?_
      exact wp_ret .boolean rfl rfl (Nat.le_refl 0) (Nat.le_refl 0) dX10_takesOrder_42 ⟨rfl, _, rfl, K⟩
  · rw [if_pos h3] at K
    refine wp_iconst (v := 0) dX10_takesOrder_14 rfl (by decide) ?_
    exact wp_ret .boolean rfl rfl (Nat.le_refl 0) (Nat.le_refl 0) dX10_takesOrder_15 ⟨rfl, _, rfl, K⟩
theorem eX10_takesOrder {E : tp_E} {d : Nat} {Q : Int32 → tp_M → Prop} {σ : tp_M}    (K : Ci E TM yX10_takesNumber iX10_takesNumber d [.ref 0, .int 0, .int ((σ 0 22) - 1)] σ (fun v2 σ1 => if v2 = 0 then (Q 0 σ1) else (vp_in (2 * (σ1 0 30)) 8 ∧ (Ci E TM yX10_takesNumber iX10_takesNumber d [.ref 0, .int 0, .int 99] (tp_u σ1 13 (Int32.toNatClampNeg (2 * (σ1 0 30))) (σ1 0 19)) (fun v6 σ5 => if v6 = 0 then (Q 0 σ5) else (vp_in ((2 * (σ5 0 30)) + 1) 8 ∧ (Q 1 (tp_u (tp_u σ5 13 (Int32.toNatClampNeg ((2 * (σ5 0 30)) + 1)) (σ5 0 19)) 0 30 (((tp_u σ5 13 (Int32.toNatClampNeg ((2 * (σ5 0 30)) + 1)) (σ5 0 19)) 0 30) + 1))))))))) : Ci E TM yX10_takesOrder iX10_takesOrder (d + 1) [.ref 0] σ Q := Ci.of ⟨by decide +kernel, rfl, rfl⟩ (Nat.le_of_ble_eq_true rfl) (bX10_takesOrder_0   K)
theorem bX10_takes_0 {E : tp_E} {d : Nat} {Q : Int32 → tp_M → Prop} {σ : tp_M}   (x1 : Int32) (K : Ci E TM yX10_here iX10_here d [.ref 0] σ (fun v2 σ1 => if v2 = x1 then (Q 1 (tp_u σ1 0 17 ((σ1 0 17) + 1))) else (Ci E TM yX10_fails iX10_fails d [.ref 0, .int 1, .int (σ1 0 18)] σ1 (fun v5 σ4 => (v5 = 0 ∨ v5 = 1) ∧ (Q v5 σ4))))) : Wi E TM iX10_takes (d + 1) Q 0 [(0, .ref 0), (1, .int x1)] [] σ := by
  refine wp_aload_n 0 dX10_takes_0 rfl rfl rfl ?_
  refine wn_callVi (As := []) (rest := []) 10 kmX10_127 (by decide) rfl rfl (Nat.le_of_ble_eq_true rfl) lM_0 (congrArg Prod.fst gM_0) dX10_takes_1 rfl ?_
  refine Ci.mono K (fun v2 σ1 K => ?_)
  refine wp_iload_n 1 dX10_takes_4 rfl rfl rfl ?_
  refine wp_icmp_eq 18 dX10_takes_5 (by decide) rfl (fun h3 => ?_) (fun h3 => ?_)
  · rw [if_pos h3] at K
    refine wp_aload_n 0 dX10_takes_18 rfl rfl rfl ?_
    refine wp_dup dX10_takes_19 rfl rfl ?_
    refine wp_getI 10 17 kcX10 kfX10_114 rfl lM_0 (congrArg Prod.fst gM_0) dX10_takes_20 rfl ?_
    refine wp_iconst (v := 1) dX10_takes_23 rfl (by decide) ?_
    refine wp_iadd dX10_takes_24 rfl ?_
    refine wp_putI 10 17 kcX10 kfX10_114 rfl rfl rfl rfl lM_0 (congrArg Prod.fst gM_0) dX10_takes_25 rfl ?_
    refine wp_iconst (v := 1) dX10_takes_28 rfl (by decide) ?_
    exact wp_ret .boolean rfl rfl (Nat.le_refl 0) (Nat.le_refl 0) dX10_takes_29 ⟨rfl, _, rfl, K⟩
  · rw [if_neg h3] at K
    refine wp_aload_n 0 dX10_takes_8 rfl rfl rfl ?_
    refine wp_iconst (v := 1) dX10_takes_9 rfl (by decide) ?_
    refine wp_aload_n 0 dX10_takes_10 rfl rfl rfl ?_
    refine wp_getI 10 18 kcX10 kfX10_121 rfl lM_0 (congrArg Prod.fst gM_0) dX10_takes_11 rfl ?_
    refine wn_callVi (As := [.int 1, .int (σ1 0 18)]) (rest := []) 10 kmX10_131 (by decide) rfl rfl (Nat.le_of_ble_eq_true rfl) lM_0 (congrArg Prod.fst gM_0) dX10_takes_14 rfl ?_
    refine Ci.mono K (fun v5 σ4 K => ?_)
    obtain ⟨k6, K⟩ := K
    exact wp_ret .boolean rfl (bool_nar k6) (Nat.le_refl 0) (Nat.le_refl 0) dX10_takes_17 ⟨rfl, _, rfl, K⟩
theorem eX10_takes {E : tp_E} {d : Nat} {Q : Int32 → tp_M → Prop} {σ : tp_M}   (x1 : Int32) (K : Ci E TM yX10_here iX10_here d [.ref 0] σ (fun v2 σ1 => if v2 = x1 then (Q 1 (tp_u σ1 0 17 ((σ1 0 17) + 1))) else (Ci E TM yX10_fails iX10_fails d [.ref 0, .int 1, .int (σ1 0 18)] σ1 (fun v5 σ4 => (v5 = 0 ∨ v5 = 1) ∧ (Q v5 σ4))))) : Ci E TM yX10_takes iX10_takes (d + 1) [.ref 0, .int x1] σ Q := Ci.of ⟨by decide +kernel, rfl, rfl⟩ (Nat.le_of_ble_eq_true rfl) (bX10_takes_0  x1 K)
theorem bX10_fault_0 {E : tp_E} {d : Nat} {Q : Int32 → tp_M → Prop} {σ : tp_M}    (K : Q (σ 0 21) σ) : Wi E TM iX10_fault d Q 0 [(0, .ref 0)] [] σ := by
  refine wp_aload_n 0 dX10_fault_0 rfl rfl rfl ?_
  refine wp_getI 10 21 kcX10 kfX10_38 rfl lM_0 (congrArg Prod.fst gM_0) dX10_fault_1 rfl ?_
  exact wp_ret .int rfl rfl (Nat.le_refl 0) (Nat.le_refl 0) dX10_fault_4 ⟨rfl, _, rfl, K⟩
theorem eX10_fault {E : tp_E} {d : Nat} {Q : Int32 → tp_M → Prop} {σ : tp_M}    (K : Q (σ 0 21) σ) : Ci E TM yX10_fault iX10_fault d [.ref 0] σ Q := Ci.of ⟨by decide +kernel, rfl, rfl⟩ (Nat.le_of_ble_eq_true rfl) (bX10_fault_0   K)
theorem bX10_told_0 {E : tp_E} {d : Nat} {Q : Int32 → tp_M → Prop} {σ : tp_M}   (x1 : Int32) (K : if x1 = 0 then (Q (σ 0 3) σ) else (if x1 = 1 then (Q (σ 0 5) σ) else (if x1 = 2 then (Q (σ 0 7) σ) else (if x1 = 3 then (Q (σ 0 9) σ) else (if x1 = 4 then (Q (σ 0 12) σ) else (if x1 = 5 then (Q (σ 0 16) σ) else (if x1 = 6 then (vp_in 0 1416 ∧ (Q (σ 1 (Int32.toNatClampNeg 0)) σ)) else (if x1 = 7 then (vp_in 1 1416 ∧ (Q (σ 1 (Int32.toNatClampNeg 1)) σ)) else (if x1 = 8 then (Ci E TM yX10_thingsAt iX10_thingsAt d [.ref 0, .int 0, .int (-2)] σ (fun v13 σ12 => Q v13 σ12)) else (if x1 = 9 then (Ci E TM yX10_thingsAt iX10_thingsAt d [.ref 0, .int 0, .int (-1)] σ (fun v16 σ15 => Q v16 σ15)) else (if x1 = 10 then (Ci E TM yX10_thingsAt iX10_thingsAt d [.ref 0, .int 0, .int (-2)] σ (fun v19 σ18 => Ci E TM yX10_worthOf iX10_worthOf d [.ref 0, .int v19] σ18 (fun v21 σ20 => Q v21 σ20))) else (if x1 = 11 then (Q (σ 0 39) σ) else (if x1 = 12 then (Q (σ 0 43) σ) else (if x1 = 13 then (Q (σ 0 2) σ) else (Q (-1000000002) σ))))))))))))))) : Wi E TM iX10_told (d + 1) Q 0 [(0, .ref 0), (1, .int x1)] [] σ := by
  refine wp_iload_n 1 dX10_told_0 rfl rfl rfl ?_
  by_cases h1 : x1 = 0
  · rw [if_pos h1] at K
    refine wp_tableIn 71 72 dX10_told_1 (by rw [h1]; decide) (by rw [h1]; decide) (by rw [h1]; rfl) (by decide) ?_
    refine wp_aload_n 0 dX10_told_72 rfl rfl rfl ?_
    refine wp_getI 10 3 kcX10 kfX10_90 rfl lM_0 (congrArg Prod.fst gM_0) dX10_told_73 rfl ?_
    exact wp_ret .int rfl rfl (Nat.le_refl 0) (Nat.le_refl 0) dX10_told_76 ⟨rfl, _, rfl, K⟩
  rw [if_neg h1] at K
  by_cases h2 : x1 = 1
  · rw [if_pos h2] at K
    refine wp_tableIn 76 77 dX10_told_1 (by rw [h2]; decide) (by rw [h2]; decide) (by rw [h2]; rfl) (by decide) ?_
    refine wp_aload_n 0 dX10_told_77 rfl rfl rfl ?_
    refine wp_getI 10 5 kcX10 kfX10_194 rfl lM_0 (congrArg Prod.fst gM_0) dX10_told_78 rfl ?_
    exact wp_ret .int rfl rfl (Nat.le_refl 0) (Nat.le_refl 0) dX10_told_81 ⟨rfl, _, rfl, K⟩
  rw [if_neg h2] at K
  by_cases h3 : x1 = 2
  · rw [if_pos h3] at K
    refine wp_tableIn 81 82 dX10_told_1 (by rw [h3]; decide) (by rw [h3]; decide) (by rw [h3]; rfl) (by decide) ?_
    refine wp_aload_n 0 dX10_told_82 rfl rfl rfl ?_
    refine wp_getI 10 7 kcX10 kfX10_97 rfl lM_0 (congrArg Prod.fst gM_0) dX10_told_83 rfl ?_
    exact wp_ret .int rfl rfl (Nat.le_refl 0) (Nat.le_refl 0) dX10_told_86 ⟨rfl, _, rfl, K⟩
  rw [if_neg h3] at K
  by_cases h4 : x1 = 3
  · rw [if_pos h4] at K
    refine wp_tableIn 86 87 dX10_told_1 (by rw [h4]; decide) (by rw [h4]; decide) (by rw [h4]; rfl) (by decide) ?_
    refine wp_aload_n 0 dX10_told_87 rfl rfl rfl ?_
    refine wp_getI 10 9 kcX10 kfX10_104 rfl lM_0 (congrArg Prod.fst gM_0) dX10_told_88 rfl ?_
    exact wp_ret .int rfl rfl (Nat.le_refl 0) (Nat.le_refl 0) dX10_told_91 ⟨rfl, _, rfl, K⟩
  rw [if_neg h4] at K
  by_cases h5 : x1 = 4
  · rw [if_pos h5] at K
    refine wp_tableIn 91 92 dX10_told_1 (by rw [h5]; decide) (by rw [h5]; decide) (by rw [h5]; rfl) (by decide) ?_
    refine wp_aload_n 0 dX10_told_92 rfl rfl rfl ?_
    refine wp_getI 10 12 kcX10 kfX10_197 rfl lM_0 (congrArg Prod.fst gM_0) dX10_told_93 rfl ?_
    exact wp_ret .int rfl rfl (Nat.le_refl 0) (Nat.le_refl 0) dX10_told_96 ⟨rfl, _, rfl, K⟩
  rw [if_neg h5] at K
  by_cases h6 : x1 = 5
  · rw [if_pos h6] at K
    refine wp_tableIn 96 97 dX10_told_1 (by rw [h6]; decide) (by rw [h6]; decide) (by rw [h6]; rfl) (by decide) ?_
    refine wp_aload_n 0 dX10_told_97 rfl rfl rfl ?_
    refine wp_getI 10 16 kcX10 kfX10_110 rfl lM_0 (congrArg Prod.fst gM_0) dX10_told_98 rfl ?_
    exact wp_ret .int rfl rfl (Nat.le_refl 0) (Nat.le_refl 0) dX10_told_101 ⟨rfl, _, rfl, K⟩
  rw [if_neg h6] at K
  by_cases h7 : x1 = 6
  · rw [if_pos h7] at K
    refine wp_tableIn 101 102 dX10_told_1 (by rw [h7]; decide) (by rw [h7]; decide) (by rw [h7]; rfl) (by decide) ?_
    refine wp_aload_n 0 dX10_told_102 rfl rfl rfl ?_
    refine wp_getR 10 0 kcX10 kfX10_7 rfl lM_0 (congrArg Prod.fst gM_0) rM_0_0 dX10_told_103 rfl ?_
    refine wp_iconst (v := 0) dX10_told_106 rfl (by decide) ?_
    obtain ⟨k8, K⟩ := K
    refine wn_iald lM_1 gM_1 k8 dX10_told_107 rfl ?_
    exact wp_ret .int rfl rfl (Nat.le_refl 0) (Nat.le_refl 0) dX10_told_108 ⟨rfl, _, rfl, K⟩
  rw [if_neg h7] at K
  by_cases h9 : x1 = 7
  · rw [if_pos h9] at K
    refine wp_tableIn 108 109 dX10_told_1 (by rw [h9]; decide) (by rw [h9]; decide) (by rw [h9]; rfl) (by decide) ?_
    refine wp_aload_n 0 dX10_told_109 rfl rfl rfl ?_
    refine wp_getR 10 0 kcX10 kfX10_7 rfl lM_0 (congrArg Prod.fst gM_0) rM_0_0 dX10_told_110 rfl ?_
    refine wp_iconst (v := 1) dX10_told_113 rfl (by decide) ?_
    obtain ⟨k10, K⟩ := K
    refine wn_iald lM_1 gM_1 k10 dX10_told_114 rfl ?_
    exact wp_ret .int rfl rfl (Nat.le_refl 0) (Nat.le_refl 0) dX10_told_115 ⟨rfl, _, rfl, K⟩
  rw [if_neg h9] at K
  by_cases h11 : x1 = 8
  · rw [if_pos h11] at K
    refine wp_tableIn 115 116 dX10_told_1 (by rw [h11]; decide) (by rw [h11]; decide) (by rw [h11]; rfl) (by decide) ?_
    refine wp_aload_n 0 dX10_told_116 rfl rfl rfl ?_
    refine wp_iconst (v := 0) dX10_told_117 rfl (by decide) ?_
    refine wp_bipush (v := (-2)) dX10_told_118 rfl (by decide) ?_
    refine wn_callVi (As := [.int 0, .int (-2)]) (rest := []) 10 kmX10_209 (by decide) rfl rfl (Nat.le_of_ble_eq_true rfl) lM_0 (congrArg Prod.fst gM_0) dX10_told_120 rfl ?_
    refine Ci.mono K (fun v13 σ12 K => ?_)
    exact wp_ret .int rfl rfl (Nat.le_refl 0) (Nat.le_refl 0) dX10_told_123 ⟨rfl, _, rfl, K⟩
  rw [if_neg h11] at K
  by_cases h14 : x1 = 9
  · rw [if_pos h14] at K
    refine wp_tableIn 123 124 dX10_told_1 (by rw [h14]; decide) (by rw [h14]; decide) (by rw [h14]; rfl) (by decide) ?_
    refine wp_aload_n 0 dX10_told_124 rfl rfl rfl ?_
    refine wp_iconst (v := 0) dX10_told_125 rfl (by decide) ?_
    refine wp_iconst (v := (-1)) dX10_told_126 rfl (by decide) ?_
    refine wn_callVi (As := [.int 0, .int (-1)]) (rest := []) 10 kmX10_209 (by decide) rfl rfl (Nat.le_of_ble_eq_true rfl) lM_0 (congrArg Prod.fst gM_0) dX10_told_127 rfl ?_
    refine Ci.mono K (fun v16 σ15 K => ?_)
    exact wp_ret .int rfl rfl (Nat.le_refl 0) (Nat.le_refl 0) dX10_told_130 ⟨rfl, _, rfl, K⟩
  rw [if_neg h14] at K
  by_cases h17 : x1 = 10
  · rw [if_pos h17] at K
    refine wp_tableIn 130 131 dX10_told_1 (by rw [h17]; decide) (by rw [h17]; decide) (by rw [h17]; rfl) (by decide) ?_
    refine wp_aload_n 0 dX10_told_131 rfl rfl rfl ?_
    refine wp_aload_n 0 dX10_told_132 rfl rfl rfl ?_
    refine wp_iconst (v := 0) dX10_told_133 rfl (by decide) ?_
    refine wp_bipush (v := (-2)) dX10_told_134 rfl (by decide) ?_
    refine wn_callVi (As := [.int 0, .int (-2)]) (rest := [.ref 0]) 10 kmX10_209 (by decide) rfl rfl (Nat.le_of_ble_eq_true rfl) lM_0 (congrArg Prod.fst gM_0) dX10_told_136 rfl ?_
    refine Ci.mono K (fun v19 σ18 K => ?_)
    refine wn_callVi (As := [.int v19]) (rest := []) 10 kmX10_213 (by decide) rfl rfl (Nat.le_of_ble_eq_true rfl) lM_0 (congrArg Prod.fst gM_0) dX10_told_139 rfl ?_
    refine Ci.mono K (fun v21 σ20 K => ?_)
    exact wp_ret .int rfl rfl (Nat.le_refl 0) (Nat.le_refl 0) dX10_told_142 ⟨rfl, _, rfl, K⟩
  rw [if_neg h17] at K
  by_cases h22 : x1 = 11
  · rw [if_pos h22] at K
    refine wp_tableIn 142 143 dX10_told_1 (by rw [h22]; decide) (by rw [h22]; decide) (by rw [h22]; rfl) (by decide) ?_
    refine wp_aload_n 0 dX10_told_143 rfl rfl rfl ?_
    refine wp_getI 10 39 kcX10 kfX10_200 rfl lM_0 (congrArg Prod.fst gM_0) dX10_told_144 rfl ?_
    exact wp_ret .int rfl rfl (Nat.le_refl 0) (Nat.le_refl 0) dX10_told_147 ⟨rfl, _, rfl, K⟩
  rw [if_neg h22] at K
  by_cases h23 : x1 = 12
  · rw [if_pos h23] at K
    refine wp_tableIn 147 148 dX10_told_1 (by rw [h23]; decide) (by rw [h23]; decide) (by rw [h23]; rfl) (by decide) ?_
    refine wp_aload_n 0 dX10_told_148 rfl rfl rfl ?_
    refine wp_getI 10 43 kcX10 kfX10_203 rfl lM_0 (congrArg Prod.fst gM_0) dX10_told_149 rfl ?_
    exact wp_ret .int rfl rfl (Nat.le_refl 0) (Nat.le_refl 0) dX10_told_152 ⟨rfl, _, rfl, K⟩
  rw [if_neg h23] at K
  by_cases h24 : x1 = 13
  · rw [if_pos h24] at K
    refine wp_tableIn 152 153 dX10_told_1 (by rw [h24]; decide) (by rw [h24]; decide) (by rw [h24]; rfl) (by decide) ?_
    refine wp_aload_n 0 dX10_told_153 rfl rfl rfl ?_
    refine wp_getI 10 2 kcX10 kfX10_206 rfl lM_0 (congrArg Prod.fst gM_0) dX10_told_154 rfl ?_
    exact wp_ret .int rfl rfl (Nat.le_refl 0) (Nat.le_refl 0) dX10_told_157 ⟨rfl, _, rfl, K⟩
  rw [if_neg h24] at K
  refine wp_tableOut 158 dX10_told_1 (by have g0 := lv_neT h1 (a := 0) (by decide); have g1 := lv_neT h2 (a := 1) (by decide); have g2 := lv_neT h3 (a := 2) (by decide); have g3 := lv_neT h4 (a := 3) (by decide); have g4 := lv_neT h5 (a := 4) (by decide); have g5 := lv_neT h6 (a := 5) (by decide); have g6 := lv_neT h7 (a := 6) (by decide); have g7 := lv_neT h9 (a := 7) (by decide); have g8 := lv_neT h11 (a := 8) (by decide); have g9 := lv_neT h14 (a := 9) (by decide); have g10 := lv_neT h17 (a := 10) (by decide); have g11 := lv_neT h22 (a := 11) (by decide); have g12 := lv_neT h23 (a := 12) (by decide); have g13 := lv_neT h24 (a := 13) (by decide); omega) (by decide) ?_
  refine wp_ldc dX10_told_158 rfl tw_1108 ?_
  exact wp_ret .int rfl rfl (Nat.le_refl 0) (Nat.le_refl 0) dX10_told_160 ⟨rfl, _, rfl, K⟩
theorem eX10_told {E : tp_E} {d : Nat} {Q : Int32 → tp_M → Prop} {σ : tp_M}   (x1 : Int32) (K : if x1 = 0 then (Q (σ 0 3) σ) else (if x1 = 1 then (Q (σ 0 5) σ) else (if x1 = 2 then (Q (σ 0 7) σ) else (if x1 = 3 then (Q (σ 0 9) σ) else (if x1 = 4 then (Q (σ 0 12) σ) else (if x1 = 5 then (Q (σ 0 16) σ) else (if x1 = 6 then (vp_in 0 1416 ∧ (Q (σ 1 (Int32.toNatClampNeg 0)) σ)) else (if x1 = 7 then (vp_in 1 1416 ∧ (Q (σ 1 (Int32.toNatClampNeg 1)) σ)) else (if x1 = 8 then (Ci E TM yX10_thingsAt iX10_thingsAt d [.ref 0, .int 0, .int (-2)] σ (fun v13 σ12 => Q v13 σ12)) else (if x1 = 9 then (Ci E TM yX10_thingsAt iX10_thingsAt d [.ref 0, .int 0, .int (-1)] σ (fun v16 σ15 => Q v16 σ15)) else (if x1 = 10 then (Ci E TM yX10_thingsAt iX10_thingsAt d [.ref 0, .int 0, .int (-2)] σ (fun v19 σ18 => Ci E TM yX10_worthOf iX10_worthOf d [.ref 0, .int v19] σ18 (fun v21 σ20 => Q v21 σ20))) else (if x1 = 11 then (Q (σ 0 39) σ) else (if x1 = 12 then (Q (σ 0 43) σ) else (if x1 = 13 then (Q (σ 0 2) σ) else (Q (-1000000002) σ))))))))))))))) : Ci E TM yX10_told iX10_told (d + 1) [.ref 0, .int x1] σ Q := Ci.of ⟨by decide +kernel, rfl, rfl⟩ (Nat.le_of_ble_eq_true rfl) (bX10_told_0  x1 K)
theorem bX10_thingsAt_0 {E : tp_E} {d : Nat} {Q : Int32 → tp_M → Prop} {σ : tp_M}   (x1 : Int32) (x2 : Int32) (K : Wi E TM iX10_thingsAt d Q 5 [(0, .ref 0), (1, .int x1), (2, .int x2), (3, .int 0), (4, .int 0)] [] σ) : Wi E TM iX10_thingsAt d Q 0 [(0, .ref 0), (1, .int x1), (2, .int x2)] [] σ := by
  refine wp_iconst (v := 0) dX10_thingsAt_0 rfl (by decide) ?_
  refine wp_istore_n [1, 2, 3, 0] dX10_thingsAt_1 rfl rfl (by decide) rfl ?_
  show WP _ _ _ _ _ _ _ 2 [(0, .ref 0), (1, .int x1), (2, .int x2), (3, .int 0)] _ _ _
  refine wp_iconst (v := 0) dX10_thingsAt_2 rfl (by decide) ?_
  refine wp_istore [1, 2, 3, 4, 0] dX10_thingsAt_3 rfl (by decide) rfl ?_
  show WP _ _ _ _ _ _ _ 5 [(0, .ref 0), (1, .int x1), (2, .int x2), (3, .int 0), (4, .int 0)] _ _ _
  exact K
theorem eX10_thingsAt {E : tp_E} {d : Nat} {Q : Int32 → tp_M → Prop} {σ : tp_M}   (x1 : Int32) (x2 : Int32) (K : Wi E TM iX10_thingsAt d Q 5 [(0, .ref 0), (1, .int x1), (2, .int x2), (3, .int 0), (4, .int 0)] [] σ) : Ci E TM yX10_thingsAt iX10_thingsAt d [.ref 0, .int x1, .int x2] σ Q := Ci.of ⟨by decide +kernel, rfl, rfl⟩ (Nat.le_of_ble_eq_true rfl) (bX10_thingsAt_0  x1 x2 K)
theorem bX10_thingsAt_5 {E : tp_E} {d : Nat} {Q : Int32 → tp_M → Prop} {σ : tp_M}   (x1 : Int32) (x2 : Int32) (x3 : Int32) (x4 : Int32) (K : if (σ 0 9) ≤ x4 then (Q x3 σ) else (vp_in ((x1 + 50) + x4) 1416 ∧ (if (σ 1 (Int32.toNatClampNeg ((x1 + 50) + x4))) = x2 then (Wi E TM iX10_thingsAt d Q 5 [(0, .ref 0), (1, .int x1), (2, .int x2), (3, .int (x3 ||| (1 <<< (x4 &&& 31)))), (4, .int (x4 + 1))] [] σ) else (Wi E TM iX10_thingsAt d Q 5 [(0, .ref 0), (1, .int x1), (2, .int x2), (3, .int (x3 ||| 0)), (4, .int (x4 + 1))] [] σ)))) : Wi E TM iX10_thingsAt d Q 5 [(0, .ref 0), (1, .int x1), (2, .int x2), (3, .int x3), (4, .int x4)] [] σ := by
  refine wp_iload 4 dX10_thingsAt_5 rfl rfl ?_
  refine wp_aload_n 0 dX10_thingsAt_7 rfl rfl rfl ?_
  refine wp_getI 10 9 kcX10 kfX10_104 rfl lM_0 (congrArg Prod.fst gM_0) dX10_thingsAt_8 rfl ?_
  refine wp_icmp_ge 47 dX10_thingsAt_11 (by decide) rfl (fun h1 => ?_) (fun h1 => ?_)
  · rw [if_pos h1] at K
    refine wp_iload_n 3 dX10_thingsAt_47 rfl rfl rfl ?_
    exact wp_ret .int rfl rfl (Nat.le_refl 0) (Nat.le_refl 0) dX10_thingsAt_48 ⟨rfl, _, rfl, K⟩
  · rw [if_neg h1] at K
    refine wp_iload_n 3 dX10_thingsAt_14 rfl rfl rfl ?_
    refine wp_aload_n 0 dX10_thingsAt_15 rfl rfl rfl ?_
    refine wp_getR 10 0 kcX10 kfX10_7 rfl lM_0 (congrArg Prod.fst gM_0) rM_0_0 dX10_thingsAt_16 rfl ?_
    refine wp_iload_n 1 dX10_thingsAt_19 rfl rfl rfl ?_
    refine wp_bipush (v := 50) dX10_thingsAt_20 rfl (by decide) ?_
    refine wp_iadd dX10_thingsAt_22 rfl ?_
    refine wp_iload 4 dX10_thingsAt_23 rfl rfl ?_
    refine wp_iadd dX10_thingsAt_25 rfl ?_
    obtain ⟨k2, K⟩ := K
    refine wn_iald lM_1 gM_1 k2 dX10_thingsAt_26 rfl ?_
    refine wp_iload_n 2 dX10_thingsAt_27 rfl rfl rfl ?_
    refine wp_icmp_ne 38 dX10_thingsAt_28 (by decide) rfl (fun h3 => ?_) (fun h3 => ?_)
    · rw [if_neg h3] at K
      refine wp_iconst (v := 0) dX10_thingsAt_38 rfl (by decide) ?_
      refine wp_ior dX10_thingsAt_39 rfl ?_
      refine wp_istore_n [1, 2, 3, 0, 4] dX10_thingsAt_40 rfl rfl (by decide) rfl ?_
      show WP _ _ _ _ _ _ _ 41 [(0, .ref 0), (1, .int x1), (2, .int x2), (3, .int (x3 ||| 0)), (4, .int x4)] _ _ _
      refine wp_iinc (v := x4 + 1) 4 [1, 2, 3, 4, 0] dX10_thingsAt_41 rfl (by decide) rfl rfl rfl ?_
      show WP _ _ _ _ _ _ _ 44 [(0, .ref 0), (1, .int x1), (2, .int x2), (3, .int (x3 ||| 0)), (4, .int (x4 + 1))] _ _ _
      refine wp_goto 5 dX10_thingsAt_44 (by decide) ?_
      exact K
    · rw [if_pos h3] at K
      refine wp_iconst (v := 1) dX10_thingsAt_31 rfl (by decide) ?_
      refine wp_iload 4 dX10_thingsAt_32 rfl rfl ?_
      refine wp_ishl dX10_thingsAt_34 rfl ?_
      refine wp_goto 39 dX10_thingsAt_35 (by decide) ?_
      refine wp_ior dX10_thingsAt_39 rfl ?_
      refine wp_istore_n [1, 2, 3, 0, 4] dX10_thingsAt_40 rfl rfl (by decide) rfl ?_
      show WP _ _ _ _ _ _ _ 41 [(0, .ref 0), (1, .int x1), (2, .int x2), (3, .int (x3 ||| (1 <<< (x4 &&& 31)))), (4, .int x4)] _ _ _
      refine wp_iinc (v := x4 + 1) 4 [1, 2, 3, 4, 0] dX10_thingsAt_41 rfl (by decide) rfl rfl rfl ?_
      show WP _ _ _ _ _ _ _ 44 [(0, .ref 0), (1, .int x1), (2, .int x2), (3, .int (x3 ||| (1 <<< (x4 &&& 31)))), (4, .int (x4 + 1))] _ _ _
      refine wp_goto 5 dX10_thingsAt_44 (by decide) ?_
      exact K
theorem bX10_worthOf_0 {E : tp_E} {d : Nat} {Q : Int32 → tp_M → Prop} {σ : tp_M}   (x1 : Int32) (K : Wi E TM iX10_worthOf (d + 1) Q 4 [(0, .ref 0), (1, .int x1), (2, .int 0), (3, .int 0)] [] σ) : Wi E TM iX10_worthOf (d + 1) Q 0 [(0, .ref 0), (1, .int x1)] [] σ := by
  refine wp_iconst (v := 0) dX10_worthOf_0 rfl (by decide) ?_
  refine wp_istore_n [1, 2, 0] dX10_worthOf_1 rfl rfl (by decide) rfl ?_
  show WP _ _ _ _ _ _ _ 2 [(0, .ref 0), (1, .int x1), (2, .int 0)] _ _ _
  refine wp_iconst (v := 0) dX10_worthOf_2 rfl (by decide) ?_
  refine wp_istore_n [1, 2, 3, 0] dX10_worthOf_3 rfl rfl (by decide) rfl ?_
  show WP _ _ _ _ _ _ _ 4 [(0, .ref 0), (1, .int x1), (2, .int 0), (3, .int 0)] _ _ _
  exact K
theorem eX10_worthOf {E : tp_E} {d : Nat} {Q : Int32 → tp_M → Prop} {σ : tp_M}   (x1 : Int32) (K : Wi E TM iX10_worthOf (d + 1) Q 4 [(0, .ref 0), (1, .int x1), (2, .int 0), (3, .int 0)] [] σ) : Ci E TM yX10_worthOf iX10_worthOf (d + 1) [.ref 0, .int x1] σ Q := Ci.of ⟨by decide +kernel, rfl, rfl⟩ (Nat.le_of_ble_eq_true rfl) (bX10_worthOf_0  x1 K)
theorem bX10_worthOf_4 {E : tp_E} {d : Nat} {Q : Int32 → tp_M → Prop} {σ : tp_M}   (x1 : Int32) (x2 : Int32) (x3 : Int32) (K : if (σ 0 9) ≤ x3 then (Q x2 σ) else (Ci E TM yX10_has iX10_has d [.int x1, .int x3] σ (fun v3 σ2 => if v3 = 0 then (Wi E TM iX10_worthOf (d + 1) Q 4 [(0, .ref 0), (1, .int x1), (2, .int (x2 + 0)), (3, .int (x3 + 1))] [] σ2) else (vp_in x3 8 ∧ (Wi E TM iX10_worthOf (d + 1) Q 4 [(0, .ref 0), (1, .int x1), (2, .int (x2 + (σ2 6 (Int32.toNatClampNeg x3)))), (3, .int (x3 + 1))] [] σ2))))) : Wi E TM iX10_worthOf (d + 1) Q 4 [(0, .ref 0), (1, .int x1), (2, .int x2), (3, .int x3)] [] σ := by
  refine wp_iload_n 3 dX10_worthOf_4 rfl rfl rfl ?_
  refine wp_aload_n 0 dX10_worthOf_5 rfl rfl rfl ?_
  refine wp_getI 10 9 kcX10 kfX10_104 rfl lM_0 (congrArg Prod.fst gM_0) dX10_worthOf_6 rfl ?_
  refine wp_icmp_ge 39 dX10_worthOf_9 (by decide) rfl (fun h1 => ?_) (fun h1 => ?_)
  · rw [if_pos h1] at K
    refine wp_iload_n 2 dX10_worthOf_39 rfl rfl rfl ?_
    exact wp_ret .int rfl rfl (Nat.le_refl 0) (Nat.le_refl 0) dX10_worthOf_40 ⟨rfl, _, rfl, K⟩
  · rw [if_neg h1] at K
    refine wp_iload_n 2 dX10_worthOf_12 rfl rfl rfl ?_
    refine wp_iload_n 1 dX10_worthOf_13 rfl rfl rfl ?_
    refine wp_iload_n 3 dX10_worthOf_14 rfl rfl rfl ?_
    refine wn_callSi (As := [.int x1, .int x3]) (rest := [.int x2]) kmX10_151 (by decide) rfl rfl (Nat.le_of_ble_eq_true rfl) dX10_worthOf_15 rfl ?_
    refine Ci.mono K (fun v3 σ2 K => ?_)
    refine wp_if_eq 30 dX10_worthOf_18 (by decide) rfl (fun h4 => ?_) (fun h4 => ?_)
    · rw [if_pos h4] at K
      refine wp_iconst (v := 0) dX10_worthOf_30 rfl (by decide) ?_
      refine wp_iadd dX10_worthOf_31 rfl ?_
      refine wp_istore_n [1, 2, 0, 3] dX10_worthOf_32 rfl rfl (by decide) rfl ?_
      show WP _ _ _ _ _ _ _ 33 [(0, .ref 0), (1, .int x1), (2, .int (x2 + 0)), (3, .int x3)] _ _ _
      refine wp_iinc (v := x3 + 1) 3 [1, 2, 3, 0] dX10_worthOf_33 rfl (by decide) rfl rfl rfl ?_
      show WP _ _ _ _ _ _ _ 36 [(0, .ref 0), (1, .int x1), (2, .int (x2 + 0)), (3, .int (x3 + 1))] _ _ _
      refine wp_goto 4 dX10_worthOf_36 (by decide) ?_
      exact K
    · rw [if_neg h4] at K
      refine wp_aload_n 0 dX10_worthOf_21 rfl rfl rfl ?_
      refine wp_getR 10 11 kcX10 kfX10_26 rfl lM_0 (congrArg Prod.fst gM_0) rM_0_11 dX10_worthOf_22 rfl ?_
      refine wp_iload_n 3 dX10_worthOf_25 rfl rfl rfl ?_
      obtain ⟨k5, K⟩ := K
      refine wn_iald lM_6 gM_6 k5 dX10_worthOf_26 rfl ?_
      refine wp_goto 31 dX10_worthOf_27 (by decide) ?_
      refine wp_iadd dX10_worthOf_31 rfl ?_
      refine wp_istore_n [1, 2, 0, 3] dX10_worthOf_32 rfl rfl (by decide) rfl ?_
      show WP _ _ _ _ _ _ _ 33 [(0, .ref 0), (1, .int x1), (2, .int (x2 + (σ2 6 (Int32.toNatClampNeg x3)))), (3, .int x3)] _ _ _
      refine wp_iinc (v := x3 + 1) 3 [1, 2, 3, 0] dX10_worthOf_33 rfl (by decide) rfl rfl rfl ?_
      show WP _ _ _ _ _ _ _ 36 [(0, .ref 0), (1, .int x1), (2, .int (x2 + (σ2 6 (Int32.toNatClampNeg x3)))), (3, .int (x3 + 1))] _ _ _
      refine wp_goto 4 dX10_worthOf_36 (by decide) ?_
      exact K
theorem bX10_room_0 {E : tp_E} {d : Nat} {Q : Int32 → tp_M → Prop} {σ : tp_M}   (x1 : Int32) (K : Ci E TM yX10_isRoom iX10_isRoom d [.ref 0, .int x1] σ (fun v2 σ1 => if v2 = 0 then (Q (-1000000001) σ1) else (vp_in x1 8 ∧ (Q (σ1 3 (Int32.toNatClampNeg x1)) σ1)))) : Wi E TM iX10_room (d + 1) Q 0 [(0, .ref 0), (1, .int x1)] [] σ := by
  refine wp_aload_n 0 dX10_room_0 rfl rfl rfl ?_
  refine wp_iload_n 1 dX10_room_1 rfl rfl rfl ?_
  refine wn_callVi (As := [.int x1]) (rest := []) 10 kmX10_216 (by decide) rfl rfl (Nat.le_of_ble_eq_true rfl) lM_0 (congrArg Prod.fst gM_0) dX10_room_2 rfl ?_
  refine Ci.mono K (fun v2 σ1 K => ?_)
  refine wp_if_eq 17 dX10_room_5 (by decide) rfl (fun h3 => ?_) (fun h3 => ?_)
  · rw [if_pos h3] at K
    refine wp_ldc dX10_room_17 rfl tw_1191 ?_
    exact wp_ret .int rfl rfl (Nat.le_refl 0) (Nat.le_refl 0) dX10_room_19 ⟨rfl, _, rfl, K⟩
  · rw [if_neg h3] at K
    refine wp_aload_n 0 dX10_room_8 rfl rfl rfl ?_
    refine wp_getR 10 6 kcX10 kfX10_17 rfl lM_0 (congrArg Prod.fst gM_0) rM_0_6 dX10_room_9 rfl ?_
    refine wp_iload_n 1 dX10_room_12 rfl rfl rfl ?_
    obtain ⟨k4, K⟩ := K
    refine wn_iald lM_3 gM_3 k4 dX10_room_13 rfl ?_
    refine wp_goto 19 dX10_room_14 (by decide) ?_
    exact wp_ret .int rfl rfl (Nat.le_refl 0) (Nat.le_refl 0) dX10_room_19 ⟨rfl, _, rfl, K⟩
theorem eX10_room {E : tp_E} {d : Nat} {Q : Int32 → tp_M → Prop} {σ : tp_M}   (x1 : Int32) (K : Ci E TM yX10_isRoom iX10_isRoom d [.ref 0, .int x1] σ (fun v2 σ1 => if v2 = 0 then (Q (-1000000001) σ1) else (vp_in x1 8 ∧ (Q (σ1 3 (Int32.toNatClampNeg x1)) σ1)))) : Ci E TM yX10_room iX10_room (d + 1) [.ref 0, .int x1] σ Q := Ci.of ⟨by decide +kernel, rfl, rfl⟩ (Nat.le_of_ble_eq_true rfl) (bX10_room_0  x1 K)
theorem bX10_isRoom_0 {E : tp_E} {d : Nat} {Q : Int32 → tp_M → Prop} {σ : tp_M}   (x1 : Int32) (K : Ci E TM yX10_in iX10_in d [.long (Int32.toInt64 x1), .long 0, .long (Int32.toInt64 ((σ 0 3) - 1))] σ (fun v2 σ1 => (v2 = 0 ∨ v2 = 1) ∧ (Q v2 σ1))) : Wi E TM iX10_isRoom (d + 1) Q 0 [(0, .ref 0), (1, .int x1)] [] σ := by
  refine wp_iload_n 1 dX10_isRoom_0 rfl rfl rfl ?_
  refine wp_i2l dX10_isRoom_1 rfl ?_
  refine wp_lconst (v := 0) dX10_isRoom_2 rfl (by decide) ?_
  refine wp_aload_n 0 dX10_isRoom_3 rfl rfl rfl ?_
  refine wp_getI 10 3 kcX10 kfX10_90 rfl lM_0 (congrArg Prod.fst gM_0) dX10_isRoom_4 rfl ?_
  refine wp_iconst (v := 1) dX10_isRoom_7 rfl (by decide) ?_
  refine wp_isub dX10_isRoom_8 rfl ?_
  refine wp_i2l dX10_isRoom_9 rfl ?_
  refine wn_callSi (As := [.long (Int32.toInt64 x1), .long 0, .long (Int32.toInt64 ((σ 0 3) - 1))]) (rest := []) kmX10_93 (by decide) rfl rfl (Nat.le_of_ble_eq_true rfl) dX10_isRoom_10 rfl ?_
  refine Ci.mono K (fun v2 σ1 K => ?_)
  obtain ⟨k3, K⟩ := K
  exact wp_ret .boolean rfl (bool_nar k3) (Nat.le_refl 0) (Nat.le_refl 0) dX10_isRoom_13 ⟨rfl, _, rfl, K⟩
theorem eX10_isRoom {E : tp_E} {d : Nat} {Q : Int32 → tp_M → Prop} {σ : tp_M}   (x1 : Int32) (K : Ci E TM yX10_in iX10_in d [.long (Int32.toInt64 x1), .long 0, .long (Int32.toInt64 ((σ 0 3) - 1))] σ (fun v2 σ1 => (v2 = 0 ∨ v2 = 1) ∧ (Q v2 σ1))) : Ci E TM yX10_isRoom iX10_isRoom (d + 1) [.ref 0, .int x1] σ Q := Ci.of ⟨by decide +kernel, rfl, rfl⟩ (Nat.le_of_ble_eq_true rfl) (bX10_isRoom_0  x1 K)
theorem bX10_waiter_0 {E : tp_E} {d : Nat} {Q : Int32 → tp_M → Prop} {σ : tp_M}   (x1 : Int32) (x2 : Int32) (K : Ci E TM yX10_isWaiter iX10_isWaiter d [.ref 0, .int x1] σ (fun v2 σ1 => if v2 = 0 then (Q (-1000000001) σ1) else (if x2 = 0 then (vp_in (2 + x1) 1416 ∧ (Q (σ1 1 (Int32.toNatClampNeg (2 + x1))) σ1)) else (if x2 = 1 then (vp_in x1 4 ∧ (Q (σ1 4 (Int32.toNatClampNeg x1)) σ1)) else (if x2 = 2 then (Ci E TM yX10_thingsAt iX10_thingsAt d [.ref 0, .int 0, .int (2 * x1)] σ1 (fun v10 σ9 => Q v10 σ9)) else (if x2 = 3 then (Ci E TM yX10_thingsAt iX10_thingsAt d [.ref 0, .int 0, .int ((2 * x1) + 1)] σ1 (fun v13 σ12 => Q v13 σ12)) else (if x2 = 4 then (Ci E TM yX10_onTray iX10_onTray d [.ref 0, .int 0, .int x1] σ1 (fun v16 σ15 => Ci E TM yX10_weightOf iX10_weightOf d [.ref 0, .int v16] σ15 (fun v18 σ17 => Q v18 σ17))) else (if x2 = 5 then (Ci E TM yX10_differs iX10_differs d [.ref 0, .int 0, .int x1] σ1 (fun v21 σ20 => Q v21 σ20)) else (if x2 = 6 then (vp_in (6 + x1) 1416 ∧ (Q (σ1 1 (Int32.toNatClampNeg (6 + x1))) σ1)) else (if x2 = 7 then (vp_in (46 + x1) 1416 ∧ (Q (σ1 1 (Int32.toNatClampNeg (46 + x1))) σ1)) else (Q (-1000000002) σ1))))))))))) : Wi E TM iX10_waiter (d + 1) Q 0 [(0, .ref 0), (1, .int x1), (2, .int x2)] [] σ := by
  refine wp_aload_n 0 dX10_waiter_0 rfl rfl rfl ?_
  refine wp_iload_n 1 dX10_waiter_1 rfl rfl rfl ?_
  refine wn_callVi (As := [.int x1]) (rest := []) 10 kmX10_100 (by decide) rfl rfl (Nat.le_of_ble_eq_true rfl) lM_0 (congrArg Prod.fst gM_0) dX10_waiter_2 rfl ?_
  refine Ci.mono K (fun v2 σ1 K => ?_)
  refine wp_if_ne 11 dX10_waiter_5 (by decide) rfl (fun h3 => ?_) (fun h3 => ?_)
  · rw [if_neg h3] at K
    refine wp_iload_n 2 dX10_waiter_11 rfl rfl rfl ?_
    by_cases h4 : x2 = 0
    · rw [if_pos h4] at K
      refine wp_tableIn 48 60 dX10_waiter_12 (by rw [h4]; decide) (by rw [h4]; decide) (by rw [h4]; rfl) (by decide) ?_
      refine wp_aload_n 0 dX10_waiter_60 rfl rfl rfl ?_
      refine wp_getR 10 0 kcX10 kfX10_7 rfl lM_0 (congrArg Prod.fst gM_0) rM_0_0 dX10_waiter_61 rfl ?_
      refine wp_iconst (v := 2) dX10_waiter_64 rfl (by decide) ?_
      refine wp_iload_n 1 dX10_waiter_65 rfl rfl rfl ?_
      refine wp_iadd dX10_waiter_66 rfl ?_
      obtain ⟨k5, K⟩ := K
      refine wn_iald lM_1 gM_1 k5 dX10_waiter_67 rfl ?_
      exact wp_ret .int rfl rfl (Nat.le_refl 0) (Nat.le_refl 0) dX10_waiter_68 ⟨rfl, _, rfl, K⟩
    rw [if_neg h4] at K
    by_cases h6 : x2 = 1
    · rw [if_pos h6] at K
      refine wp_tableIn 57 69 dX10_waiter_12 (by rw [h6]; decide) (by rw [h6]; decide) (by rw [h6]; rfl) (by decide) ?_
      refine wp_aload_n 0 dX10_waiter_69 rfl rfl rfl ?_
      refine wp_getR 10 8 kcX10 kfX10_20 rfl lM_0 (congrArg Prod.fst gM_0) rM_0_8 dX10_waiter_70 rfl ?_
      refine wp_iload_n 1 dX10_waiter_73 rfl rfl rfl ?_
      obtain ⟨k7, K⟩ := K
      refine wn_iald lM_4 gM_4 k7 dX10_waiter_74 rfl ?_
      exact wp_ret .int rfl rfl (Nat.le_refl 0) (Nat.le_refl 0) dX10_waiter_75 ⟨rfl, _, rfl, K⟩
    rw [if_neg h6] at K
    by_cases h8 : x2 = 2
    · rw [if_pos h8] at K
      refine wp_tableIn 64 76 dX10_waiter_12 (by rw [h8]; decide) (by rw [h8]; decide) (by rw [h8]; rfl) (by decide) ?_
      refine wp_aload_n 0 dX10_waiter_76 rfl rfl rfl ?_
      refine wp_iconst (v := 0) dX10_waiter_77 rfl (by decide) ?_
      refine wp_iconst (v := 2) dX10_waiter_78 rfl (by decide) ?_
      refine wp_iload_n 1 dX10_waiter_79 rfl rfl rfl ?_
      refine wp_imul dX10_waiter_80 rfl ?_
      refine wn_callVi (As := [.int 0, .int (2 * x1)]) (rest := []) 10 kmX10_209 (by decide) rfl rfl (Nat.le_of_ble_eq_true rfl) lM_0 (congrArg Prod.fst gM_0) dX10_waiter_81 rfl ?_
      refine Ci.mono K (fun v10 σ9 K => ?_)
      exact wp_ret .int rfl rfl (Nat.le_refl 0) (Nat.le_refl 0) dX10_waiter_84 ⟨rfl, _, rfl, K⟩
    rw [if_neg h8] at K
    by_cases h11 : x2 = 3
    · rw [if_pos h11] at K
      refine wp_tableIn 73 85 dX10_waiter_12 (by rw [h11]; decide) (by rw [h11]; decide) (by rw [h11]; rfl) (by decide) ?_
      refine wp_aload_n 0 dX10_waiter_85 rfl rfl rfl ?_
      refine wp_iconst (v := 0) dX10_waiter_86 rfl (by decide) ?_
      refine wp_iconst (v := 2) dX10_waiter_87 rfl (by decide) ?_
      refine wp_iload_n 1 dX10_waiter_88 rfl rfl rfl ?_
      refine wp_imul dX10_waiter_89 rfl ?_
      refine wp_iconst (v := 1) dX10_waiter_90 rfl (by decide) ?_
      refine wp_iadd dX10_waiter_91 rfl ?_
      refine wn_callVi (As := [.int 0, .int ((2 * x1) + 1)]) (rest := []) 10 kmX10_209 (by decide) rfl rfl (Nat.le_of_ble_eq_true rfl) lM_0 (congrArg Prod.fst gM_0) dX10_waiter_92 rfl ?_
      refine Ci.mono K (fun v13 σ12 K => ?_)
      exact wp_ret .int rfl rfl (Nat.le_refl 0) (Nat.le_refl 0) dX10_waiter_95 ⟨rfl, _, rfl, K⟩
    rw [if_neg h11] at K
    by_cases h14 : x2 = 4
    · rw [if_pos h14] at K
      refine wp_tableIn 84 96 dX10_waiter_12 (by rw [h14]; decide) (by rw [h14]; decide) (by rw [h14]; rfl) (by decide) ?_
      refine wp_aload_n 0 dX10_waiter_96 rfl rfl rfl ?_
      refine wp_aload_n 0 dX10_waiter_97 rfl rfl rfl ?_
      refine wp_iconst (v := 0) dX10_waiter_98 rfl (by decide) ?_
      refine wp_iload_n 1 dX10_waiter_99 rfl rfl rfl ?_
      refine wn_callVi (As := [.int 0, .int x1]) (rest := [.ref 0]) 10 kmX10_223 (by decide) rfl rfl (Nat.le_of_ble_eq_true rfl) lM_0 (congrArg Prod.fst gM_0) dX10_waiter_100 rfl ?_
      refine Ci.mono K (fun v16 σ15 K => ?_)
      refine wn_callVi (As := [.int v16]) (rest := []) 10 kmX10_220 (by decide) rfl rfl (Nat.le_of_ble_eq_true rfl) lM_0 (congrArg Prod.fst gM_0) dX10_waiter_103 rfl ?_
      refine Ci.mono K (fun v18 σ17 K => ?_)
      exact wp_ret .int rfl rfl (Nat.le_refl 0) (Nat.le_refl 0) dX10_waiter_106 ⟨rfl, _, rfl, K⟩
    rw [if_neg h14] at K
    by_cases h19 : x2 = 5
    · rw [if_pos h19] at K
      refine wp_tableIn 95 107 dX10_waiter_12 (by rw [h19]; decide) (by rw [h19]; decide) (by rw [h19]; rfl) (by decide) ?_
      refine wp_aload_n 0 dX10_waiter_107 rfl rfl rfl ?_
      refine wp_iconst (v := 0) dX10_waiter_108 rfl (by decide) ?_
      refine wp_iload_n 1 dX10_waiter_109 rfl rfl rfl ?_
      refine wn_callVi (As := [.int 0, .int x1]) (rest := []) 10 kmX10_226 (by decide) rfl rfl (Nat.le_of_ble_eq_true rfl) lM_0 (congrArg Prod.fst gM_0) dX10_waiter_110 rfl ?_
      refine Ci.mono K (fun v21 σ20 K => ?_)
      exact wp_ret .int rfl rfl (Nat.le_refl 0) (Nat.le_refl 0) dX10_waiter_113 ⟨rfl, _, rfl, K⟩
    rw [if_neg h19] at K
    by_cases h22 : x2 = 6
    · rw [if_pos h22] at K
      refine wp_tableIn 102 114 dX10_waiter_12 (by rw [h22]; decide) (by rw [h22]; decide) (by rw [h22]; rfl) (by decide) ?_
      refine wp_aload_n 0 dX10_waiter_114 rfl rfl rfl ?_
      refine wp_getR 10 0 kcX10 kfX10_7 rfl lM_0 (congrArg Prod.fst gM_0) rM_0_0 dX10_waiter_115 rfl ?_
      refine wp_bipush (v := 6) dX10_waiter_118 rfl (by decide) ?_
      refine wp_iload_n 1 dX10_waiter_120 rfl rfl rfl ?_
      refine wp_iadd dX10_waiter_121 rfl ?_
      obtain ⟨k23, K⟩ := K
      refine wn_iald lM_1 gM_1 k23 dX10_waiter_122 rfl ?_
      exact wp_ret .int rfl rfl (Nat.le_refl 0) (Nat.le_refl 0) dX10_waiter_123 ⟨rfl, _, rfl, K⟩
    rw [if_neg h22] at K
    by_cases h24 : x2 = 7
    · rw [if_pos h24] at K
      refine wp_tableIn 112 124 dX10_waiter_12 (by rw [h24]; decide) (by rw [h24]; decide) (by rw [h24]; rfl) (by decide) ?_
      refine wp_aload_n 0 dX10_waiter_124 rfl rfl rfl ?_
      refine wp_getR 10 0 kcX10 kfX10_7 rfl lM_0 (congrArg Prod.fst gM_0) rM_0_0 dX10_waiter_125 rfl ?_
      refine wp_bipush (v := 46) dX10_waiter_128 rfl (by decide) ?_
      refine wp_iload_n 1 dX10_waiter_130 rfl rfl rfl ?_
      refine wp_iadd dX10_waiter_131 rfl ?_
      obtain ⟨k25, K⟩ := K
      refine wn_iald lM_1 gM_1 k25 dX10_waiter_132 rfl ?_
      exact wp_ret .int rfl rfl (Nat.le_refl 0) (Nat.le_refl 0) dX10_waiter_133 ⟨rfl, _, rfl, K⟩
    rw [if_neg h24] at K
    refine wp_tableOut 134 dX10_waiter_12 (by have g0 := lv_neT h4 (a := 0) (by decide); have g1 := lv_neT h6 (a := 1) (by decide); have g2 := lv_neT h8 (a := 2) (by decide); have g3 := lv_neT h11 (a := 3) (by decide); have g4 := lv_neT h14 (a := 4) (by decide); have g5 := lv_neT h19 (a := 5) (by decide); have g6 := lv_neT h22 (a := 6) (by decide); have g7 := lv_neT h24 (a := 7) (by decide); omega) (by decide) ?_
    refine wp_ldc dX10_waiter_134 rfl tw_1108 ?_
    exact wp_ret .int rfl rfl (Nat.le_refl 0) (Nat.le_refl 0) dX10_waiter_136 ⟨rfl, _, rfl, K⟩
  · rw [if_pos h3] at K
    refine wp_ldc dX10_waiter_8 rfl tw_1191 ?_
    exact wp_ret .int rfl rfl (Nat.le_refl 0) (Nat.le_refl 0) dX10_waiter_10 ⟨rfl, _, rfl, K⟩
theorem eX10_waiter {E : tp_E} {d : Nat} {Q : Int32 → tp_M → Prop} {σ : tp_M}   (x1 : Int32) (x2 : Int32) (K : Ci E TM yX10_isWaiter iX10_isWaiter d [.ref 0, .int x1] σ (fun v2 σ1 => if v2 = 0 then (Q (-1000000001) σ1) else (if x2 = 0 then (vp_in (2 + x1) 1416 ∧ (Q (σ1 1 (Int32.toNatClampNeg (2 + x1))) σ1)) else (if x2 = 1 then (vp_in x1 4 ∧ (Q (σ1 4 (Int32.toNatClampNeg x1)) σ1)) else (if x2 = 2 then (Ci E TM yX10_thingsAt iX10_thingsAt d [.ref 0, .int 0, .int (2 * x1)] σ1 (fun v10 σ9 => Q v10 σ9)) else (if x2 = 3 then (Ci E TM yX10_thingsAt iX10_thingsAt d [.ref 0, .int 0, .int ((2 * x1) + 1)] σ1 (fun v13 σ12 => Q v13 σ12)) else (if x2 = 4 then (Ci E TM yX10_onTray iX10_onTray d [.ref 0, .int 0, .int x1] σ1 (fun v16 σ15 => Ci E TM yX10_weightOf iX10_weightOf d [.ref 0, .int v16] σ15 (fun v18 σ17 => Q v18 σ17))) else (if x2 = 5 then (Ci E TM yX10_differs iX10_differs d [.ref 0, .int 0, .int x1] σ1 (fun v21 σ20 => Q v21 σ20)) else (if x2 = 6 then (vp_in (6 + x1) 1416 ∧ (Q (σ1 1 (Int32.toNatClampNeg (6 + x1))) σ1)) else (if x2 = 7 then (vp_in (46 + x1) 1416 ∧ (Q (σ1 1 (Int32.toNatClampNeg (46 + x1))) σ1)) else (Q (-1000000002) σ1))))))))))) : Ci E TM yX10_waiter iX10_waiter (d + 1) [.ref 0, .int x1, .int x2] σ Q := Ci.of ⟨by decide +kernel, rfl, rfl⟩ (Nat.le_of_ble_eq_true rfl) (bX10_waiter_0  x1 x2 K)
theorem bX10_isWaiter_0 {E : tp_E} {d : Nat} {Q : Int32 → tp_M → Prop} {σ : tp_M}   (x1 : Int32) (K : Ci E TM yX10_in iX10_in d [.long (Int32.toInt64 x1), .long 0, .long (Int32.toInt64 ((σ 0 7) - 1))] σ (fun v2 σ1 => (v2 = 0 ∨ v2 = 1) ∧ (Q v2 σ1))) : Wi E TM iX10_isWaiter (d + 1) Q 0 [(0, .ref 0), (1, .int x1)] [] σ := by
  refine wp_iload_n 1 dX10_isWaiter_0 rfl rfl rfl ?_
  refine wp_i2l dX10_isWaiter_1 rfl ?_
  refine wp_lconst (v := 0) dX10_isWaiter_2 rfl (by decide) ?_
  refine wp_aload_n 0 dX10_isWaiter_3 rfl rfl rfl ?_
  refine wp_getI 10 7 kcX10 kfX10_97 rfl lM_0 (congrArg Prod.fst gM_0) dX10_isWaiter_4 rfl ?_
  refine wp_iconst (v := 1) dX10_isWaiter_7 rfl (by decide) ?_
  refine wp_isub dX10_isWaiter_8 rfl ?_
  refine wp_i2l dX10_isWaiter_9 rfl ?_
  refine wn_callSi (As := [.long (Int32.toInt64 x1), .long 0, .long (Int32.toInt64 ((σ 0 7) - 1))]) (rest := []) kmX10_93 (by decide) rfl rfl (Nat.le_of_ble_eq_true rfl) dX10_isWaiter_10 rfl ?_
  refine Ci.mono K (fun v2 σ1 K => ?_)
  obtain ⟨k3, K⟩ := K
  exact wp_ret .boolean rfl (bool_nar k3) (Nat.le_refl 0) (Nat.le_refl 0) dX10_isWaiter_13 ⟨rfl, _, rfl, K⟩
theorem eX10_isWaiter {E : tp_E} {d : Nat} {Q : Int32 → tp_M → Prop} {σ : tp_M}   (x1 : Int32) (K : Ci E TM yX10_in iX10_in d [.long (Int32.toInt64 x1), .long 0, .long (Int32.toInt64 ((σ 0 7) - 1))] σ (fun v2 σ1 => (v2 = 0 ∨ v2 = 1) ∧ (Q v2 σ1))) : Ci E TM yX10_isWaiter iX10_isWaiter (d + 1) [.ref 0, .int x1] σ Q := Ci.of ⟨by decide +kernel, rfl, rfl⟩ (Nat.le_of_ble_eq_true rfl) (bX10_isWaiter_0  x1 K)
theorem bX10_onTray_0 {E : tp_E} {d : Nat} {Q : Int32 → tp_M → Prop} {σ : tp_M}   (x1 : Int32) (x2 : Int32) (K : Ci E TM yX10_thingsAt iX10_thingsAt d [.ref 0, .int x1, .int (2 * x2)] σ (fun v2 σ1 => Ci E TM yX10_thingsAt iX10_thingsAt d [.ref 0, .int x1, .int ((2 * x2) + 1)] σ1 (fun v4 σ3 => Q (v2 ||| v4) σ3))) : Wi E TM iX10_onTray (d + 1) Q 0 [(0, .ref 0), (1, .int x1), (2, .int x2)] [] σ := by
  refine wp_aload_n 0 dX10_onTray_0 rfl rfl rfl ?_
  refine wp_iload_n 1 dX10_onTray_1 rfl rfl rfl ?_
  refine wp_iconst (v := 2) dX10_onTray_2 rfl (by decide) ?_
  refine wp_iload_n 2 dX10_onTray_3 rfl rfl rfl ?_
  refine wp_imul dX10_onTray_4 rfl ?_
  refine wn_callVi (As := [.int x1, .int (2 * x2)]) (rest := []) 10 kmX10_209 (by decide) rfl rfl (Nat.le_of_ble_eq_true rfl) lM_0 (congrArg Prod.fst gM_0) dX10_onTray_5 rfl ?_
  refine Ci.mono K (fun v2 σ1 K => ?_)
  refine wp_aload_n 0 dX10_onTray_8 rfl rfl rfl ?_
  refine wp_iload_n 1 dX10_onTray_9 rfl rfl rfl ?_
  refine wp_iconst (v := 2) dX10_onTray_10 rfl (by decide) ?_
  refine wp_iload_n 2 dX10_onTray_11 rfl rfl rfl ?_
  refine wp_imul dX10_onTray_12 rfl ?_
  refine wp_iconst (v := 1) dX10_onTray_13 rfl (by decide) ?_
  refine wp_iadd dX10_onTray_14 rfl ?_
  refine wn_callVi (As := [.int x1, .int ((2 * x2) + 1)]) (rest := [.int v2]) 10 kmX10_209 (by decide) rfl rfl (Nat.le_of_ble_eq_true rfl) lM_0 (congrArg Prod.fst gM_0) dX10_onTray_15 rfl ?_
  refine Ci.mono K (fun v4 σ3 K => ?_)
  refine wp_ior dX10_onTray_18 rfl ?_
  exact wp_ret .int rfl rfl (Nat.le_refl 0) (Nat.le_refl 0) dX10_onTray_19 ⟨rfl, _, rfl, K⟩
theorem eX10_onTray {E : tp_E} {d : Nat} {Q : Int32 → tp_M → Prop} {σ : tp_M}   (x1 : Int32) (x2 : Int32) (K : Ci E TM yX10_thingsAt iX10_thingsAt d [.ref 0, .int x1, .int (2 * x2)] σ (fun v2 σ1 => Ci E TM yX10_thingsAt iX10_thingsAt d [.ref 0, .int x1, .int ((2 * x2) + 1)] σ1 (fun v4 σ3 => Q (v2 ||| v4) σ3))) : Ci E TM yX10_onTray iX10_onTray (d + 1) [.ref 0, .int x1, .int x2] σ Q := Ci.of ⟨by decide +kernel, rfl, rfl⟩ (Nat.le_of_ble_eq_true rfl) (bX10_onTray_0  x1 x2 K)
theorem bX10_weightOf_0 {E : tp_E} {d : Nat} {Q : Int32 → tp_M → Prop} {σ : tp_M}   (x1 : Int32) (K : Wi E TM iX10_weightOf (d + 1) Q 4 [(0, .ref 0), (1, .int x1), (2, .int 0), (3, .int 0)] [] σ) : Wi E TM iX10_weightOf (d + 1) Q 0 [(0, .ref 0), (1, .int x1)] [] σ := by
  refine wp_iconst (v := 0) dX10_weightOf_0 rfl (by decide) ?_
  refine wp_istore_n [1, 2, 0] dX10_weightOf_1 rfl rfl (by decide) rfl ?_
  show WP _ _ _ _ _ _ _ 2 [(0, .ref 0), (1, .int x1), (2, .int 0)] _ _ _
  refine wp_iconst (v := 0) dX10_weightOf_2 rfl (by decide) ?_
  refine wp_istore_n [1, 2, 3, 0] dX10_weightOf_3 rfl rfl (by decide) rfl ?_
  show WP _ _ _ _ _ _ _ 4 [(0, .ref 0), (1, .int x1), (2, .int 0), (3, .int 0)] _ _ _
  exact K
theorem eX10_weightOf {E : tp_E} {d : Nat} {Q : Int32 → tp_M → Prop} {σ : tp_M}   (x1 : Int32) (K : Wi E TM iX10_weightOf (d + 1) Q 4 [(0, .ref 0), (1, .int x1), (2, .int 0), (3, .int 0)] [] σ) : Ci E TM yX10_weightOf iX10_weightOf (d + 1) [.ref 0, .int x1] σ Q := Ci.of ⟨by decide +kernel, rfl, rfl⟩ (Nat.le_of_ble_eq_true rfl) (bX10_weightOf_0  x1 K)
theorem bX10_weightOf_4 {E : tp_E} {d : Nat} {Q : Int32 → tp_M → Prop} {σ : tp_M}   (x1 : Int32) (x2 : Int32) (x3 : Int32) (K : if (σ 0 9) ≤ x3 then (Q x2 σ) else (Ci E TM yX10_has iX10_has d [.int x1, .int x3] σ (fun v3 σ2 => if v3 = 0 then (Wi E TM iX10_weightOf (d + 1) Q 4 [(0, .ref 0), (1, .int x1), (2, .int (x2 + 0)), (3, .int (x3 + 1))] [] σ2) else (vp_in x3 8 ∧ (Wi E TM iX10_weightOf (d + 1) Q 4 [(0, .ref 0), (1, .int x1), (2, .int (x2 + (σ2 5 (Int32.toNatClampNeg x3)))), (3, .int (x3 + 1))] [] σ2))))) : Wi E TM iX10_weightOf (d + 1) Q 4 [(0, .ref 0), (1, .int x1), (2, .int x2), (3, .int x3)] [] σ := by
  refine wp_iload_n 3 dX10_weightOf_4 rfl rfl rfl ?_
  refine wp_aload_n 0 dX10_weightOf_5 rfl rfl rfl ?_
  refine wp_getI 10 9 kcX10 kfX10_104 rfl lM_0 (congrArg Prod.fst gM_0) dX10_weightOf_6 rfl ?_
  refine wp_icmp_ge 39 dX10_weightOf_9 (by decide) rfl (fun h1 => ?_) (fun h1 => ?_)
  · rw [if_pos h1] at K
    refine wp_iload_n 2 dX10_weightOf_39 rfl rfl rfl ?_
    exact wp_ret .int rfl rfl (Nat.le_refl 0) (Nat.le_refl 0) dX10_weightOf_40 ⟨rfl, _, rfl, K⟩
  · rw [if_neg h1] at K
    refine wp_iload_n 2 dX10_weightOf_12 rfl rfl rfl ?_
    refine wp_iload_n 1 dX10_weightOf_13 rfl rfl rfl ?_
    refine wp_iload_n 3 dX10_weightOf_14 rfl rfl rfl ?_
    refine wn_callSi (As := [.int x1, .int x3]) (rest := [.int x2]) kmX10_151 (by decide) rfl rfl (Nat.le_of_ble_eq_true rfl) dX10_weightOf_15 rfl ?_
    refine Ci.mono K (fun v3 σ2 K => ?_)
    refine wp_if_eq 30 dX10_weightOf_18 (by decide) rfl (fun h4 => ?_) (fun h4 => ?_)
    · rw [if_pos h4] at K
      refine wp_iconst (v := 0) dX10_weightOf_30 rfl (by decide) ?_
      refine wp_iadd dX10_weightOf_31 rfl ?_
      refine wp_istore_n [1, 2, 0, 3] dX10_weightOf_32 rfl rfl (by decide) rfl ?_
      show WP _ _ _ _ _ _ _ 33 [(0, .ref 0), (1, .int x1), (2, .int (x2 + 0)), (3, .int x3)] _ _ _
      refine wp_iinc (v := x3 + 1) 3 [1, 2, 3, 0] dX10_weightOf_33 rfl (by decide) rfl rfl rfl ?_
      show WP _ _ _ _ _ _ _ 36 [(0, .ref 0), (1, .int x1), (2, .int (x2 + 0)), (3, .int (x3 + 1))] _ _ _
      refine wp_goto 4 dX10_weightOf_36 (by decide) ?_
      exact K
    · rw [if_neg h4] at K
      refine wp_aload_n 0 dX10_weightOf_21 rfl rfl rfl ?_
      refine wp_getR 10 10 kcX10 kfX10_23 rfl lM_0 (congrArg Prod.fst gM_0) rM_0_10 dX10_weightOf_22 rfl ?_
      refine wp_iload_n 3 dX10_weightOf_25 rfl rfl rfl ?_
      obtain ⟨k5, K⟩ := K
      refine wn_iald lM_5 gM_5 k5 dX10_weightOf_26 rfl ?_
      refine wp_goto 31 dX10_weightOf_27 (by decide) ?_
      refine wp_iadd dX10_weightOf_31 rfl ?_
      refine wp_istore_n [1, 2, 0, 3] dX10_weightOf_32 rfl rfl (by decide) rfl ?_
      show WP _ _ _ _ _ _ _ 33 [(0, .ref 0), (1, .int x1), (2, .int (x2 + (σ2 5 (Int32.toNatClampNeg x3)))), (3, .int x3)] _ _ _
      refine wp_iinc (v := x3 + 1) 3 [1, 2, 3, 0] dX10_weightOf_33 rfl (by decide) rfl rfl rfl ?_
      show WP _ _ _ _ _ _ _ 36 [(0, .ref 0), (1, .int x1), (2, .int (x2 + (σ2 5 (Int32.toNatClampNeg x3)))), (3, .int (x3 + 1))] _ _ _
      refine wp_goto 4 dX10_weightOf_36 (by decide) ?_
      exact K
theorem bX10_differs_0 {E : tp_E} {d : Nat} {Q : Int32 → tp_M → Prop} {σ : tp_M}   (x1 : Int32) (x2 : Int32) (K : Ci E TM yX10_thingsAt iX10_thingsAt d [.ref 0, .int x1, .int (2 * x2)] σ (fun v2 σ1 => Ci E TM yX10_weightOf iX10_weightOf d [.ref 0, .int v2] σ1 (fun v4 σ3 => Ci E TM yX10_thingsAt iX10_thingsAt d [.ref 0, .int x1, .int ((2 * x2) + 1)] σ3 (fun v6 σ5 => Ci E TM yX10_weightOf iX10_weightOf d [.ref 0, .int v6] σ5 (fun v8 σ7 => if 0 ≤ (v4 - v8) then (Q (v4 - v8) σ7) else (Q (0 - (v4 - v8)) σ7)))))) : Wi E TM iX10_differs (d + 1) Q 0 [(0, .ref 0), (1, .int x1), (2, .int x2)] [] σ := by
  refine wp_aload_n 0 dX10_differs_0 rfl rfl rfl ?_
  refine wp_aload_n 0 dX10_differs_1 rfl rfl rfl ?_
  refine wp_iload_n 1 dX10_differs_2 rfl rfl rfl ?_
  refine wp_iconst (v := 2) dX10_differs_3 rfl (by decide) ?_
  refine wp_iload_n 2 dX10_differs_4 rfl rfl rfl ?_
  refine wp_imul dX10_differs_5 rfl ?_
  refine wn_callVi (As := [.int x1, .int (2 * x2)]) (rest := [.ref 0]) 10 kmX10_209 (by decide) rfl rfl (Nat.le_of_ble_eq_true rfl) lM_0 (congrArg Prod.fst gM_0) dX10_differs_6 rfl ?_
  refine Ci.mono K (fun v2 σ1 K => ?_)
  refine wn_callVi (As := [.int v2]) (rest := []) 10 kmX10_220 (by decide) rfl rfl (Nat.le_of_ble_eq_true rfl) lM_0 (congrArg Prod.fst gM_0) dX10_differs_9 rfl ?_
  refine Ci.mono K (fun v4 σ3 K => ?_)
  refine wp_aload_n 0 dX10_differs_12 rfl rfl rfl ?_
  refine wp_aload_n 0 dX10_differs_13 rfl rfl rfl ?_
  refine wp_iload_n 1 dX10_differs_14 rfl rfl rfl ?_
  refine wp_iconst (v := 2) dX10_differs_15 rfl (by decide) ?_
  refine wp_iload_n 2 dX10_differs_16 rfl rfl rfl ?_
  refine wp_imul dX10_differs_17 rfl ?_
  refine wp_iconst (v := 1) dX10_differs_18 rfl (by decide) ?_
  refine wp_iadd dX10_differs_19 rfl ?_
  refine wn_callVi (As := [.int x1, .int ((2 * x2) + 1)]) (rest := [.ref 0, .int v4]) 10 kmX10_209 (by decide) rfl rfl (Nat.le_of_ble_eq_true rfl) lM_0 (congrArg Prod.fst gM_0) dX10_differs_20 rfl ?_
  refine Ci.mono K (fun v6 σ5 K => ?_)
  refine wn_callVi (As := [.int v6]) (rest := [.int v4]) 10 kmX10_220 (by decide) rfl rfl (Nat.le_of_ble_eq_true rfl) lM_0 (congrArg Prod.fst gM_0) dX10_differs_23 rfl ?_
  refine Ci.mono K (fun v8 σ7 K => ?_)
  refine wp_isub dX10_differs_26 rfl ?_
  refine wp_istore_n [1, 2, 3, 0] dX10_differs_27 rfl rfl (by decide) rfl ?_
  show WP _ _ _ _ _ _ _ 28 [(0, .ref 0), (1, .int x1), (2, .int x2), (3, .int (v4 - v8))] _ _ _
  refine wp_iload_n 3 dX10_differs_28 rfl rfl rfl ?_
  refine wp_if_ge 37 dX10_differs_29 (by decide) rfl (fun h9 => ?_) (fun h9 => ?_)
  · rw [if_pos h9] at K
    refine wp_iload_n 3 dX10_differs_37 rfl rfl rfl ?_
    exact wp_ret .int rfl rfl (Nat.le_refl 0) (Nat.le_refl 0) dX10_differs_38 ⟨rfl, _, rfl, K⟩
  · rw [if_neg h9] at K
    refine wp_iload_n 3 dX10_differs_32 rfl rfl rfl ?_
    refine wp_ineg dX10_differs_33 rfl ?_
    refine wp_goto 38 dX10_differs_34 (by decide) ?_
    exact wp_ret .int rfl rfl (Nat.le_refl 0) (Nat.le_refl 0) dX10_differs_38 ⟨rfl, _, rfl, K⟩
theorem eX10_differs {E : tp_E} {d : Nat} {Q : Int32 → tp_M → Prop} {σ : tp_M}   (x1 : Int32) (x2 : Int32) (K : Ci E TM yX10_thingsAt iX10_thingsAt d [.ref 0, .int x1, .int (2 * x2)] σ (fun v2 σ1 => Ci E TM yX10_weightOf iX10_weightOf d [.ref 0, .int v2] σ1 (fun v4 σ3 => Ci E TM yX10_thingsAt iX10_thingsAt d [.ref 0, .int x1, .int ((2 * x2) + 1)] σ3 (fun v6 σ5 => Ci E TM yX10_weightOf iX10_weightOf d [.ref 0, .int v6] σ5 (fun v8 σ7 => if 0 ≤ (v4 - v8) then (Q (v4 - v8) σ7) else (Q (0 - (v4 - v8)) σ7)))))) : Ci E TM yX10_differs iX10_differs (d + 1) [.ref 0, .int x1, .int x2] σ Q := Ci.of ⟨by decide +kernel, rfl, rfl⟩ (Nat.le_of_ble_eq_true rfl) (bX10_differs_0  x1 x2 K)
theorem bX10_thing_0 {E : tp_E} {d : Nat} {Q : Int32 → tp_M → Prop} {σ : tp_M}   (x1 : Int32) (x2 : Int32) (K : Ci E TM yX10_isThing iX10_isThing d [.ref 0, .int x1] σ (fun v2 σ1 => if v2 = 0 then (Q (-1000000001) σ1) else (if x2 = 0 then (vp_in x1 8 ∧ (Q (σ1 5 (Int32.toNatClampNeg x1)) σ1)) else (if x2 = 1 then (vp_in x1 8 ∧ (Q (σ1 6 (Int32.toNatClampNeg x1)) σ1)) else (if x2 = 2 then (Ci E TM yX10_whose iX10_whose d [.ref 0, .int x1] σ1 (fun v8 σ7 => Q v8 σ7)) else (Q (-1000000002) σ1)))))) : Wi E TM iX10_thing (d + 1) Q 0 [(0, .ref 0), (1, .int x1), (2, .int x2)] [] σ := by
  refine wp_aload_n 0 dX10_thing_0 rfl rfl rfl ?_
  refine wp_iload_n 1 dX10_thing_1 rfl rfl rfl ?_
  refine wn_callVi (As := [.int x1]) (rest := []) 10 kmX10_229 (by decide) rfl rfl (Nat.le_of_ble_eq_true rfl) lM_0 (congrArg Prod.fst gM_0) dX10_thing_2 rfl ?_
  refine Ci.mono K (fun v2 σ1 K => ?_)
  refine wp_if_ne 11 dX10_thing_5 (by decide) rfl (fun h3 => ?_) (fun h3 => ?_)
  · rw [if_neg h3] at K
    refine wp_iload_n 2 dX10_thing_11 rfl rfl rfl ?_
    refine wp_if_ne 24 dX10_thing_12 (by decide) rfl (fun h4 => ?_) (fun h4 => ?_)
    · rw [if_neg h4] at K
      refine wp_iload_n 2 dX10_thing_24 rfl rfl rfl ?_
      refine wp_iconst (v := 1) dX10_thing_25 rfl (by decide) ?_
      refine wp_icmp_ne 38 dX10_thing_26 (by decide) rfl (fun h5 => ?_) (fun h5 => ?_)
      · rw [if_neg h5] at K
        refine wp_iload_n 2 dX10_thing_38 rfl rfl rfl ?_
        refine wp_iconst (v := 2) dX10_thing_39 rfl (by decide) ?_
        refine wp_icmp_ne 51 dX10_thing_40 (by decide) rfl (fun h6 => ?_) (fun h6 => ?_)
        · rw [if_neg h6] at K
          refine wp_ldc dX10_thing_51 rfl tw_1108 ?_
          exact wp_ret .int rfl rfl (Nat.le_refl 0) (Nat.le_refl 0) dX10_thing_53 ⟨rfl, _, rfl, K⟩
        · rw [if_pos h6] at K
          refine wp_aload_n 0 dX10_thing_43 rfl rfl rfl ?_
          refine wp_iload_n 1 dX10_thing_44 rfl rfl rfl ?_
          refine wn_callVi (As := [.int x1]) (rest := []) 10 kmX10_232 (by decide) rfl rfl (Nat.le_of_ble_eq_true rfl) lM_0 (congrArg Prod.fst gM_0) dX10_thing_45 rfl ?_
          refine Ci.mono K (fun v8 σ7 K => ?_)
          refine wp_goto 53 dX10_thing_48 (by decide) ?_
          exact wp_ret .int rfl rfl (Nat.le_refl 0) (Nat.le_refl 0) dX10_thing_53 ⟨rfl, _, rfl, K⟩
      · rw [if_pos h5] at K
        refine wp_aload_n 0 dX10_thing_29 rfl rfl rfl ?_
        refine wp_getR 10 11 kcX10 kfX10_26 rfl lM_0 (congrArg Prod.fst gM_0) rM_0_11 dX10_thing_30 rfl ?_
        refine wp_iload_n 1 dX10_thing_33 rfl rfl rfl ?_
        obtain ⟨k9, K⟩ := K
        refine wn_iald lM_6 gM_6 k9 dX10_thing_34 rfl ?_
        refine wp_goto 53 dX10_thing_35 (by decide) ?_
        exact wp_ret .int rfl rfl (Nat.le_refl 0) (Nat.le_refl 0) dX10_thing_53 ⟨rfl, _, rfl, K⟩
    · rw [if_pos h4] at K
      refine wp_aload_n 0 dX10_thing_15 rfl rfl rfl ?_
      refine wp_getR 10 10 kcX10 kfX10_23 rfl lM_0 (congrArg Prod.fst gM_0) rM_0_10 dX10_thing_16 rfl ?_
      refine wp_iload_n 1 dX10_thing_19 rfl rfl rfl ?_
      obtain ⟨k10, K⟩ := K
      refine wn_iald lM_5 gM_5 k10 dX10_thing_20 rfl ?_
      refine wp_goto 53 dX10_thing_21 (by decide) ?_
      exact wp_ret .int rfl rfl (Nat.le_refl 0) (Nat.le_refl 0) dX10_thing_53 ⟨rfl, _, rfl, K⟩
  · rw [if_pos h3] at K
    refine wp_ldc dX10_thing_8 rfl tw_1191 ?_
    exact wp_ret .int rfl rfl (Nat.le_refl 0) (Nat.le_refl 0) dX10_thing_10 ⟨rfl, _, rfl, K⟩
theorem eX10_thing {E : tp_E} {d : Nat} {Q : Int32 → tp_M → Prop} {σ : tp_M}   (x1 : Int32) (x2 : Int32) (K : Ci E TM yX10_isThing iX10_isThing d [.ref 0, .int x1] σ (fun v2 σ1 => if v2 = 0 then (Q (-1000000001) σ1) else (if x2 = 0 then (vp_in x1 8 ∧ (Q (σ1 5 (Int32.toNatClampNeg x1)) σ1)) else (if x2 = 1 then (vp_in x1 8 ∧ (Q (σ1 6 (Int32.toNatClampNeg x1)) σ1)) else (if x2 = 2 then (Ci E TM yX10_whose iX10_whose d [.ref 0, .int x1] σ1 (fun v8 σ7 => Q v8 σ7)) else (Q (-1000000002) σ1)))))) : Ci E TM yX10_thing iX10_thing (d + 1) [.ref 0, .int x1, .int x2] σ Q := Ci.of ⟨by decide +kernel, rfl, rfl⟩ (Nat.le_of_ble_eq_true rfl) (bX10_thing_0  x1 x2 K)
theorem bX10_isThing_0 {E : tp_E} {d : Nat} {Q : Int32 → tp_M → Prop} {σ : tp_M}   (x1 : Int32) (K : Ci E TM yX10_in iX10_in d [.long (Int32.toInt64 x1), .long 0, .long (Int32.toInt64 ((σ 0 9) - 1))] σ (fun v2 σ1 => (v2 = 0 ∨ v2 = 1) ∧ (Q v2 σ1))) : Wi E TM iX10_isThing (d + 1) Q 0 [(0, .ref 0), (1, .int x1)] [] σ := by
  refine wp_iload_n 1 dX10_isThing_0 rfl rfl rfl ?_
  refine wp_i2l dX10_isThing_1 rfl ?_
  refine wp_lconst (v := 0) dX10_isThing_2 rfl (by decide) ?_
  refine wp_aload_n 0 dX10_isThing_3 rfl rfl rfl ?_
  refine wp_getI 10 9 kcX10 kfX10_104 rfl lM_0 (congrArg Prod.fst gM_0) dX10_isThing_4 rfl ?_
  refine wp_iconst (v := 1) dX10_isThing_7 rfl (by decide) ?_
  refine wp_isub dX10_isThing_8 rfl ?_
  refine wp_i2l dX10_isThing_9 rfl ?_
  refine wn_callSi (As := [.long (Int32.toInt64 x1), .long 0, .long (Int32.toInt64 ((σ 0 9) - 1))]) (rest := []) kmX10_93 (by decide) rfl rfl (Nat.le_of_ble_eq_true rfl) dX10_isThing_10 rfl ?_
  refine Ci.mono K (fun v2 σ1 K => ?_)
  obtain ⟨k3, K⟩ := K
  exact wp_ret .boolean rfl (bool_nar k3) (Nat.le_refl 0) (Nat.le_refl 0) dX10_isThing_13 ⟨rfl, _, rfl, K⟩
theorem eX10_isThing {E : tp_E} {d : Nat} {Q : Int32 → tp_M → Prop} {σ : tp_M}   (x1 : Int32) (K : Ci E TM yX10_in iX10_in d [.long (Int32.toInt64 x1), .long 0, .long (Int32.toInt64 ((σ 0 9) - 1))] σ (fun v2 σ1 => (v2 = 0 ∨ v2 = 1) ∧ (Q v2 σ1))) : Ci E TM yX10_isThing iX10_isThing (d + 1) [.ref 0, .int x1] σ Q := Ci.of ⟨by decide +kernel, rfl, rfl⟩ (Nat.le_of_ble_eq_true rfl) (bX10_isThing_0  x1 K)
theorem bX10_whose_0 {E : tp_E} {d : Nat} {Q : Int32 → tp_M → Prop} {σ : tp_M}   (x1 : Int32) (K : vp_in (50 + x1) 1416 ∧ (if 0 ≤ (σ 1 (Int32.toNatClampNeg (50 + x1))) then (vp_in (50 + x1) 1416 ∧ (Q ((σ 1 (Int32.toNatClampNeg (50 + x1))) / 2) σ)) else (Q (-1) σ))) : Wi E TM iX10_whose d Q 0 [(0, .ref 0), (1, .int x1)] [] σ := by
  refine wp_aload_n 0 dX10_whose_0 rfl rfl rfl ?_
  refine wp_getR 10 0 kcX10 kfX10_7 rfl lM_0 (congrArg Prod.fst gM_0) rM_0_0 dX10_whose_1 rfl ?_
  refine wp_bipush (v := 50) dX10_whose_4 rfl (by decide) ?_
  refine wp_iload_n 1 dX10_whose_6 rfl rfl rfl ?_
  refine wp_iadd dX10_whose_7 rfl ?_
  obtain ⟨k1, K⟩ := K
  refine wn_iald lM_1 gM_1 k1 dX10_whose_8 rfl ?_
  refine wp_if_ge 16 dX10_whose_9 (by decide) rfl (fun h2 => ?_) (fun h2 => ?_)
  · rw [if_pos h2] at K
    refine wp_aload_n 0 dX10_whose_16 rfl rfl rfl ?_
    refine wp_getR 10 0 kcX10 kfX10_7 rfl lM_0 (congrArg Prod.fst gM_0) rM_0_0 dX10_whose_17 rfl ?_
    refine wp_bipush (v := 50) dX10_whose_20 rfl (by decide) ?_
    refine wp_iload_n 1 dX10_whose_22 rfl rfl rfl ?_
    refine wp_iadd dX10_whose_23 rfl ?_
    obtain ⟨k3, K⟩ := K
    refine wn_iald lM_1 gM_1 k3 dX10_whose_24 rfl ?_
    refine wp_iconst (v := 2) dX10_whose_25 rfl (by decide) ?_
    refine wp_idiv dX10_whose_26 rfl (by decide) ?_
    exact wp_ret .int rfl rfl (Nat.le_refl 0) (Nat.le_refl 0) dX10_whose_27 ⟨rfl, _, rfl, K⟩
  · rw [if_neg h2] at K
    refine wp_iconst (v := (-1)) dX10_whose_12 rfl (by decide) ?_
    refine wp_goto 27 dX10_whose_13 (by decide) ?_
    exact wp_ret .int rfl rfl (Nat.le_refl 0) (Nat.le_refl 0) dX10_whose_27 ⟨rfl, _, rfl, K⟩
theorem eX10_whose {E : tp_E} {d : Nat} {Q : Int32 → tp_M → Prop} {σ : tp_M}   (x1 : Int32) (K : vp_in (50 + x1) 1416 ∧ (if 0 ≤ (σ 1 (Int32.toNatClampNeg (50 + x1))) then (vp_in (50 + x1) 1416 ∧ (Q ((σ 1 (Int32.toNatClampNeg (50 + x1))) / 2) σ)) else (Q (-1) σ))) : Ci E TM yX10_whose iX10_whose d [.ref 0, .int x1] σ Q := Ci.of ⟨by decide +kernel, rfl, rfl⟩ (Nat.le_of_ble_eq_true rfl) (bX10_whose_0  x1 K)
theorem bX10_undo_0 {E : tp_E} {d : Nat} {Q : Int32 → tp_M → Prop} {σ : tp_M}    (K : if (σ 0 2) = 0 then (Q (-1000000003) σ) else (vp_in 58 1416 ∧ (Cv E TM yX10_copy iX10_copy d [.ref 0, .int (236 + (59 * ((tp_u σ 0 2 ((σ 0 2) - 1)) 0 2))), .int 0] (tp_u σ 0 2 ((σ 0 2) - 1)) (fun σ3 => vp_in 58 1416 ∧ (Q ((tp_u σ3 1 (Int32.toNatClampNeg 58) (σ 1 (Int32.toNatClampNeg 58))) 0 2) (tp_u σ3 1 (Int32.toNatClampNeg 58) (σ 1 (Int32.toNatClampNeg 58)))))))) : Wi E TM iX10_undo (d + 1) Q 0 [(0, .ref 0)] [] σ := by
  refine wp_aload_n 0 dX10_undo_0 rfl rfl rfl ?_
  refine wp_getI 10 2 kcX10 kfX10_206 rfl lM_0 (congrArg Prod.fst gM_0) dX10_undo_1 rfl ?_
  refine wp_if_ne 10 dX10_undo_4 (by decide) rfl (fun h1 => ?_) (fun h1 => ?_)
  · rw [if_neg h1] at K
    refine wp_aload_n 0 dX10_undo_10 rfl rfl rfl ?_
    refine wp_getR 10 0 kcX10 kfX10_7 rfl lM_0 (congrArg Prod.fst gM_0) rM_0_0 dX10_undo_11 rfl ?_
    refine wp_bipush (v := 58) dX10_undo_14 rfl (by decide) ?_
    obtain ⟨k2, K⟩ := K
    refine wn_iald lM_1 gM_1 k2 dX10_undo_16 rfl ?_
    refine wp_istore_n [1, 0] dX10_undo_17 rfl rfl (by decide) rfl ?_
    show WP _ _ _ _ _ _ _ 18 [(0, .ref 0), (1, .int (σ 1 (Int32.toNatClampNeg 58)))] _ _ _
    refine wp_aload_n 0 dX10_undo_18 rfl rfl rfl ?_
    refine wp_dup dX10_undo_19 rfl rfl ?_
    refine wp_getI 10 2 kcX10 kfX10_206 rfl lM_0 (congrArg Prod.fst gM_0) dX10_undo_20 rfl ?_
    refine wp_iconst (v := 1) dX10_undo_23 rfl (by decide) ?_
    refine wp_isub dX10_undo_24 rfl ?_
    refine wp_putI 10 2 kcX10 kfX10_206 rfl rfl rfl rfl lM_0 (congrArg Prod.fst gM_0) dX10_undo_25 rfl ?_
    refine wp_aload_n 0 dX10_undo_28 rfl rfl rfl ?_
    refine wp_sipush (v := 236) dX10_undo_29 rfl (by decide) ?_
    refine wp_bipush (v := 59) dX10_undo_32 rfl (by decide) ?_
    refine wp_aload_n 0 dX10_undo_34 rfl rfl rfl ?_
    refine wp_getI 10 2 kcX10 kfX10_206 rfl lM_0 (congrArg Prod.fst gM_0) dX10_undo_35 rfl ?_
    refine wp_imul dX10_undo_38 rfl ?_
    refine wp_iadd dX10_undo_39 rfl ?_
    refine wp_iconst (v := 0) dX10_undo_40 rfl (by decide) ?_
    refine wn_callVv (As := [.int (236 + (59 * ((tp_u σ 0 2 ((σ 0 2) - 1)) 0 2))), .int 0]) (rest := []) 10 kmX10_246 (by decide) rfl rfl (Nat.le_of_ble_eq_true rfl) lM_0 (congrArg Prod.fst gM_0) dX10_undo_41 rfl ?_
    refine Cv.mono K (fun σ3 K => ?_)
    refine wp_aload_n 0 dX10_undo_44 rfl rfl rfl ?_
    refine wp_getR 10 0 kcX10 kfX10_7 rfl lM_0 (congrArg Prod.fst gM_0) rM_0_0 dX10_undo_45 rfl ?_
    refine wp_bipush (v := 58) dX10_undo_48 rfl (by decide) ?_
    refine wp_iload_n 1 dX10_undo_50 rfl rfl rfl ?_
    obtain ⟨k4, K⟩ := K
    refine wn_iast lM_1 gM_1 k4 dX10_undo_51 rfl ?_
    refine wp_aload_n 0 dX10_undo_52 rfl rfl rfl ?_
    refine wp_getI 10 2 kcX10 kfX10_206 rfl lM_0 (congrArg Prod.fst gM_0) dX10_undo_53 rfl ?_
    exact wp_ret .int rfl rfl (Nat.le_refl 0) (Nat.le_refl 0) dX10_undo_56 ⟨rfl, _, rfl, K⟩
  · rw [if_pos h1] at K
    refine wp_ldc dX10_undo_7 rfl tw_1228 ?_
    exact wp_ret .int rfl rfl (Nat.le_refl 0) (Nat.le_refl 0) dX10_undo_9 ⟨rfl, _, rfl, K⟩
theorem eX10_undo {E : tp_E} {d : Nat} {Q : Int32 → tp_M → Prop} {σ : tp_M}    (K : if (σ 0 2) = 0 then (Q (-1000000003) σ) else (vp_in 58 1416 ∧ (Cv E TM yX10_copy iX10_copy d [.ref 0, .int (236 + (59 * ((tp_u σ 0 2 ((σ 0 2) - 1)) 0 2))), .int 0] (tp_u σ 0 2 ((σ 0 2) - 1)) (fun σ3 => vp_in 58 1416 ∧ (Q ((tp_u σ3 1 (Int32.toNatClampNeg 58) (σ 1 (Int32.toNatClampNeg 58))) 0 2) (tp_u σ3 1 (Int32.toNatClampNeg 58) (σ 1 (Int32.toNatClampNeg 58)))))))) : Ci E TM yX10_undo iX10_undo (d + 1) [.ref 0] σ Q := Ci.of ⟨by decide +kernel, rfl, rfl⟩ (Nat.le_of_ble_eq_true rfl) (bX10_undo_0   K)
theorem bX10_copy_0 {E : tp_E} {d : Nat} {Q : tp_M → Prop} {σ : tp_M}   (x1 : Int32) (x2 : Int32) (K : Wv E TM iX10_copy d Q 2 [(0, .ref 0), (1, .int x1), (2, .int x2), (3, .int 0)] [] σ) : Wv E TM iX10_copy d Q 0 [(0, .ref 0), (1, .int x1), (2, .int x2)] [] σ := by
  refine wp_iconst (v := 0) dX10_copy_0 rfl (by decide) ?_
  refine wp_istore_n [1, 2, 3, 0] dX10_copy_1 rfl rfl (by decide) rfl ?_
  show WP _ _ _ _ _ _ _ 2 [(0, .ref 0), (1, .int x1), (2, .int x2), (3, .int 0)] _ _ _
  exact K
theorem eX10_copy {E : tp_E} {d : Nat} {Q : tp_M → Prop} {σ : tp_M}   (x1 : Int32) (x2 : Int32) (K : Wv E TM iX10_copy d Q 2 [(0, .ref 0), (1, .int x1), (2, .int x2), (3, .int 0)] [] σ) : Cv E TM yX10_copy iX10_copy d [.ref 0, .int x1, .int x2] σ Q := Cv.of ⟨by decide +kernel, rfl, rfl⟩ (Nat.le_of_ble_eq_true rfl) (bX10_copy_0  x1 x2 K)
theorem bX10_copy_2 {E : tp_E} {d : Nat} {Q : tp_M → Prop} {σ : tp_M}   (x1 : Int32) (x2 : Int32) (x3 : Int32) (K : if 59 ≤ x3 then (Q σ) else (vp_in (x1 + x3) 1416 ∧ (vp_in (x2 + x3) 1416 ∧ (Wv E TM iX10_copy d Q 2 [(0, .ref 0), (1, .int x1), (2, .int x2), (3, .int (x3 + 1))] [] (tp_u σ 1 (Int32.toNatClampNeg (x2 + x3)) (σ 1 (Int32.toNatClampNeg (x1 + x3)))))))) : Wv E TM iX10_copy d Q 2 [(0, .ref 0), (1, .int x1), (2, .int x2), (3, .int x3)] [] σ := by
  refine wp_iload_n 3 dX10_copy_2 rfl rfl rfl ?_
  refine wp_bipush (v := 59) dX10_copy_3 rfl (by decide) ?_
  refine wp_icmp_ge 30 dX10_copy_5 (by decide) rfl (fun h1 => ?_) (fun h1 => ?_)
  · rw [if_pos h1] at K
    exact wp_vret rfl (Nat.le_refl 0) (Nat.le_refl 0) dX10_copy_30 ⟨rfl, rfl, K⟩
  · rw [if_neg h1] at K
    refine wp_aload_n 0 dX10_copy_8 rfl rfl rfl ?_
    refine wp_getR 10 0 kcX10 kfX10_7 rfl lM_0 (congrArg Prod.fst gM_0) rM_0_0 dX10_copy_9 rfl ?_
    refine wp_iload_n 2 dX10_copy_12 rfl rfl rfl ?_
    refine wp_iload_n 3 dX10_copy_13 rfl rfl rfl ?_
    refine wp_iadd dX10_copy_14 rfl ?_
    refine wp_aload_n 0 dX10_copy_15 rfl rfl rfl ?_
    refine wp_getR 10 0 kcX10 kfX10_7 rfl lM_0 (congrArg Prod.fst gM_0) rM_0_0 dX10_copy_16 rfl ?_
    refine wp_iload_n 1 dX10_copy_19 rfl rfl rfl ?_
    refine wp_iload_n 3 dX10_copy_20 rfl rfl rfl ?_
    refine wp_iadd dX10_copy_21 rfl ?_
    obtain ⟨k2, K⟩ := K
    refine wn_iald lM_1 gM_1 k2 dX10_copy_22 rfl ?_
    obtain ⟨k3, K⟩ := K
    refine wn_iast lM_1 gM_1 k3 dX10_copy_23 rfl ?_
    refine wp_iinc (v := x3 + 1) 3 [1, 2, 3, 0] dX10_copy_24 rfl (by decide) rfl rfl rfl ?_
    show WP _ _ _ _ _ _ _ 27 [(0, .ref 0), (1, .int x1), (2, .int x2), (3, .int (x3 + 1))] _ _ _
    refine wp_goto 2 dX10_copy_27 (by decide) ?_
    exact K
theorem bX10_minute_0 {E : tp_E} {d : Nat} {Q : Int32 → tp_M → Prop} {σ : tp_M}   (x1 : Int32) (K : Ci E TM yX10_in iX10_in d [.long (Int32.toInt64 x1), .long 1, .long 60] σ (fun v2 σ1 => if v2 = 0 then (Q (-1000000002) σ1) else (if (σ1 0 3) = 0 then (Q (-1000000003) σ1) else (vp_in 0 1416 ∧ (if (σ1 1 (Int32.toNatClampNeg 0)) ≤ 9000 then (Cv E TM yX10_minds iX10_minds d [.ref 0] σ1 (fun σ7 => Wi E TM iX10_minute (d + 1) Q 46 [(0, .ref 0), (1, .int x1), (2, .int 0)] [] σ7)) else (Q (-1000000004) σ1)))))) : Wi E TM iX10_minute (d + 1) Q 0 [(0, .ref 0), (1, .int x1)] [] σ := by
  refine wp_iload_n 1 dX10_minute_0 rfl rfl rfl ?_
  refine wp_i2l dX10_minute_1 rfl ?_
  refine wp_lconst (v := 1) dX10_minute_2 rfl (by decide) ?_
  refine wp_ldc2 dX10_minute_3 rfl tw_1237 ?_
  refine wn_callSi (As := [.long (Int32.toInt64 x1), .long 1, .long 60]) (rest := []) kmX10_93 (by decide) rfl rfl (Nat.le_of_ble_eq_true rfl) dX10_minute_6 rfl ?_
  refine Ci.mono K (fun v2 σ1 K => ?_)
  refine wp_if_ne 15 dX10_minute_9 (by decide) rfl (fun h3 => ?_) (fun h3 => ?_)
  · rw [if_neg h3] at K
    refine wp_aload_n 0 dX10_minute_15 rfl rfl rfl ?_
    refine wp_getI 10 3 kcX10 kfX10_90 rfl lM_0 (congrArg Prod.fst gM_0) dX10_minute_16 rfl ?_
    refine wp_if_ne 25 dX10_minute_19 (by decide) rfl (fun h4 => ?_) (fun h4 => ?_)
    · rw [if_neg h4] at K
      refine wp_aload_n 0 dX10_minute_25 rfl rfl rfl ?_
      refine wp_getR 10 0 kcX10 kfX10_7 rfl lM_0 (congrArg Prod.fst gM_0) rM_0_0 dX10_minute_26 rfl ?_
      refine wp_iconst (v := 0) dX10_minute_29 rfl (by decide) ?_
      obtain ⟨k5, K⟩ := K
      refine wn_iald lM_1 gM_1 k5 dX10_minute_30 rfl ?_
      refine wp_sipush (v := 9000) dX10_minute_31 rfl (by decide) ?_
      refine wp_icmp_le 40 dX10_minute_34 (by decide) rfl (fun h6 => ?_) (fun h6 => ?_)
      · rw [if_pos h6] at K
        refine wp_aload_n 0 dX10_minute_40 rfl rfl rfl ?_
        refine wn_callVv (As := []) (rest := []) 10 kmX10_252 (by decide) rfl rfl (Nat.le_of_ble_eq_true rfl) lM_0 (congrArg Prod.fst gM_0) dX10_minute_41 rfl ?_
        refine Cv.mono K (fun σ7 K => ?_)
        refine wp_iconst (v := 0) dX10_minute_44 rfl (by decide) ?_
        refine wp_istore_n [1, 2, 0] dX10_minute_45 rfl rfl (by decide) rfl ?_
        show WP _ _ _ _ _ _ _ 46 [(0, .ref 0), (1, .int x1), (2, .int 0)] _ _ _
        exact K
      · rw [if_neg h6] at K
        refine wp_ldc dX10_minute_37 rfl tw_1109 ?_
        exact wp_ret .int rfl rfl (Nat.le_refl 0) (Nat.le_refl 0) dX10_minute_39 ⟨rfl, _, rfl, K⟩
    · rw [if_pos h4] at K
      refine wp_ldc dX10_minute_22 rfl tw_1228 ?_
      exact wp_ret .int rfl rfl (Nat.le_refl 0) (Nat.le_refl 0) dX10_minute_24 ⟨rfl, _, rfl, K⟩
  · rw [if_pos h3] at K
    refine wp_ldc dX10_minute_12 rfl tw_1108 ?_
    exact wp_ret .int rfl rfl (Nat.le_refl 0) (Nat.le_refl 0) dX10_minute_14 ⟨rfl, _, rfl, K⟩
theorem eX10_minute {E : tp_E} {d : Nat} {Q : Int32 → tp_M → Prop} {σ : tp_M}   (x1 : Int32) (K : Ci E TM yX10_in iX10_in d [.long (Int32.toInt64 x1), .long 1, .long 60] σ (fun v2 σ1 => if v2 = 0 then (Q (-1000000002) σ1) else (if (σ1 0 3) = 0 then (Q (-1000000003) σ1) else (vp_in 0 1416 ∧ (if (σ1 1 (Int32.toNatClampNeg 0)) ≤ 9000 then (Cv E TM yX10_minds iX10_minds d [.ref 0] σ1 (fun σ7 => Wi E TM iX10_minute (d + 1) Q 46 [(0, .ref 0), (1, .int x1), (2, .int 0)] [] σ7)) else (Q (-1000000004) σ1)))))) : Ci E TM yX10_minute iX10_minute (d + 1) [.ref 0, .int x1] σ Q := Ci.of ⟨by decide +kernel, rfl, rfl⟩ (Nat.le_of_ble_eq_true rfl) (bX10_minute_0  x1 K)
theorem bX10_minute_46 {E : tp_E} {d : Nat} {Q : Int32 → tp_M → Prop} {σ : tp_M}   (x1 : Int32) (x2 : Int32) (K : if x1 ≤ x2 then (vp_in 0 1416 ∧ (Q (σ 1 (Int32.toNatClampNeg 0)) σ)) else (Cv E TM yX10_passes iX10_passes d [.ref 0, .int 0] σ (fun σ3 => Wi E TM iX10_minute (d + 1) Q 46 [(0, .ref 0), (1, .int x1), (2, .int (x2 + 1))] [] σ3))) : Wi E TM iX10_minute (d + 1) Q 46 [(0, .ref 0), (1, .int x1), (2, .int x2)] [] σ := by
  refine wp_iload_n 2 dX10_minute_46 rfl rfl rfl ?_
  refine wp_iload_n 1 dX10_minute_47 rfl rfl rfl ?_
  refine wp_icmp_ge 62 dX10_minute_48 (by decide) rfl (fun h1 => ?_) (fun h1 => ?_)
  · rw [if_pos h1] at K
    refine wp_aload_n 0 dX10_minute_62 rfl rfl rfl ?_
    refine wp_getR 10 0 kcX10 kfX10_7 rfl lM_0 (congrArg Prod.fst gM_0) rM_0_0 dX10_minute_63 rfl ?_
    refine wp_iconst (v := 0) dX10_minute_66 rfl (by decide) ?_
    obtain ⟨k2, K⟩ := K
    refine wn_iald lM_1 gM_1 k2 dX10_minute_67 rfl ?_
    exact wp_ret .int rfl rfl (Nat.le_refl 0) (Nat.le_refl 0) dX10_minute_68 ⟨rfl, _, rfl, K⟩
  · rw [if_neg h1] at K
    refine wp_aload_n 0 dX10_minute_51 rfl rfl rfl ?_
    refine wp_iconst (v := 0) dX10_minute_52 rfl (by decide) ?_
    refine wn_callVv (As := [.int 0]) (rest := []) 10 kmX10_255 (by decide) rfl rfl (Nat.le_of_ble_eq_true rfl) lM_0 (congrArg Prod.fst gM_0) dX10_minute_53 rfl ?_
    refine Cv.mono K (fun σ3 K => ?_)
    refine wp_iinc (v := x2 + 1) 2 [1, 2, 0] dX10_minute_56 rfl (by decide) rfl rfl rfl ?_
    show WP _ _ _ _ _ _ _ 59 [(0, .ref 0), (1, .int x1), (2, .int (x2 + 1))] _ _ _
    refine wp_goto 46 dX10_minute_59 (by decide) ?_
    exact K
theorem bX10_minds_0 {E : tp_E} {d : Nat} {Q : tp_M → Prop} {σ : tp_M}    (K : if (σ 0 2) = 20 then (Wv E TM iX10_minds (d + 1) Q 11 [(0, .ref 0), (1, .int 0)] [] σ) else (Wv E TM iX10_minds (d + 1) Q 57 [(0, .ref 0)] [] σ)) : Wv E TM iX10_minds (d + 1) Q 0 [(0, .ref 0)] [] σ := by
  refine wp_aload_n 0 dX10_minds_0 rfl rfl rfl ?_
  refine wp_getI 10 2 kcX10 kfX10_206 rfl lM_0 (congrArg Prod.fst gM_0) dX10_minds_1 rfl ?_
  refine wp_bipush (v := 20) dX10_minds_4 rfl (by decide) ?_
  refine wp_icmp_ne 57 dX10_minds_6 (by decide) rfl (fun h1 => ?_) (fun h1 => ?_)
  · rw [if_neg h1] at K
    exact K
  · rw [if_pos h1] at K
    refine wp_iconst (v := 0) dX10_minds_9 rfl (by decide) ?_
    refine wp_istore_n [1, 0] dX10_minds_10 rfl rfl (by decide) rfl ?_
    show WP _ _ _ _ _ _ _ 11 [(0, .ref 0), (1, .int 0)] _ _ _
    exact K
theorem eX10_minds {E : tp_E} {d : Nat} {Q : tp_M → Prop} {σ : tp_M}    (K : if (σ 0 2) = 20 then (Wv E TM iX10_minds (d + 1) Q 11 [(0, .ref 0), (1, .int 0)] [] σ) else (Wv E TM iX10_minds (d + 1) Q 57 [(0, .ref 0)] [] σ)) : Cv E TM yX10_minds iX10_minds (d + 1) [.ref 0] σ Q := Cv.of ⟨by decide +kernel, rfl, rfl⟩ (Nat.le_of_ble_eq_true rfl) (bX10_minds_0   K)
theorem bX10_minds_11 {E : tp_E} {d : Nat} {Q : tp_M → Prop} {σ : tp_M}   (x1 : Int32) (K : if 1121 ≤ x1 then (Wv E TM iX10_minds (d + 1) Q 57 [(0, .ref 0)] [] (tp_u σ 0 2 ((σ 0 2) - 1))) else (vp_in ((236 + x1) + 59) 1416 ∧ (vp_in (236 + x1) 1416 ∧ (Wv E TM iX10_minds (d + 1) Q 11 [(0, .ref 0), (1, .int (x1 + 1))] [] (tp_u σ 1 (Int32.toNatClampNeg (236 + x1)) (σ 1 (Int32.toNatClampNeg ((236 + x1) + 59)))))))) : Wv E TM iX10_minds (d + 1) Q 11 [(0, .ref 0), (1, .int x1)] [] σ := by
  refine wp_iload_n 1 dX10_minds_11 rfl rfl rfl ?_
  refine wp_sipush (v := 1121) dX10_minds_12 rfl (by decide) ?_
  refine wp_icmp_ge 47 dX10_minds_15 (by decide) rfl (fun h1 => ?_) (fun h1 => ?_)
  · rw [if_pos h1] at K
    refine wp_aload_n 0 dX10_minds_47 rfl rfl rfl ?_
    refine wp_dup dX10_minds_48 rfl rfl ?_
    refine wp_getI 10 2 kcX10 kfX10_206 rfl lM_0 (congrArg Prod.fst gM_0) dX10_minds_49 rfl ?_
    refine wp_iconst (v := 1) dX10_minds_52 rfl (by decide) ?_
    refine wp_isub dX10_minds_53 rfl ?_
    refine wp_putI 10 2 kcX10 kfX10_206 rfl rfl rfl rfl lM_0 (congrArg Prod.fst gM_0) dX10_minds_54 rfl ?_
    refine wp_lv [0] rfl ?_
    exact K
  · rw [if_neg h1] at K
    refine wp_aload_n 0 dX10_minds_18 rfl rfl rfl ?_
    refine wp_getR 10 0 kcX10 kfX10_7 rfl lM_0 (congrArg Prod.fst gM_0) rM_0_0 dX10_minds_19 rfl ?_
    refine wp_sipush (v := 236) dX10_minds_22 rfl (by decide) ?_
    refine wp_iload_n 1 dX10_minds_25 rfl rfl rfl ?_
    refine wp_iadd dX10_minds_26 rfl ?_
    refine wp_aload_n 0 dX10_minds_27 rfl rfl rfl ?_
    refine wp_getR 10 0 kcX10 kfX10_7 rfl lM_0 (congrArg Prod.fst gM_0) rM_0_0 dX10_minds_28 rfl ?_
    refine wp_sipush (v := 236) dX10_minds_31 rfl (by decide) ?_
    refine wp_iload_n 1 dX10_minds_34 rfl rfl rfl ?_
    refine wp_iadd dX10_minds_35 rfl ?_
    refine wp_bipush (v := 59) dX10_minds_36 rfl (by decide) ?_
    refine wp_iadd dX10_minds_38 rfl ?_
    obtain ⟨k2, K⟩ := K
    refine wn_iald lM_1 gM_1 k2 dX10_minds_39 rfl ?_
    obtain ⟨k3, K⟩ := K
    refine wn_iast lM_1 gM_1 k3 dX10_minds_40 rfl ?_
    refine wp_iinc (v := x1 + 1) 1 [1, 0] dX10_minds_41 rfl (by decide) rfl rfl rfl ?_
    show WP _ _ _ _ _ _ _ 44 [(0, .ref 0), (1, .int (x1 + 1))] _ _ _
    refine wp_goto 11 dX10_minds_44 (by decide) ?_
    exact K
theorem bX10_minds_57 {E : tp_E} {d : Nat} {Q : tp_M → Prop} {σ : tp_M}    (K : Cv E TM yX10_copy iX10_copy d [.ref 0, .int 0, .int (236 + (59 * (σ 0 2)))] σ (fun σ1 => Q (tp_u σ1 0 2 ((σ1 0 2) + 1)))) : Wv E TM iX10_minds (d + 1) Q 57 [(0, .ref 0)] [] σ := by
  refine wp_aload_n 0 dX10_minds_57 rfl rfl rfl ?_
  refine wp_iconst (v := 0) dX10_minds_58 rfl (by decide) ?_
  refine wp_sipush (v := 236) dX10_minds_59 rfl (by decide) ?_
  refine wp_bipush (v := 59) dX10_minds_62 rfl (by decide) ?_
  refine wp_aload_n 0 dX10_minds_64 rfl rfl rfl ?_
  refine wp_getI 10 2 kcX10 kfX10_206 rfl lM_0 (congrArg Prod.fst gM_0) dX10_minds_65 rfl ?_
  refine wp_imul dX10_minds_68 rfl ?_
  refine wp_iadd dX10_minds_69 rfl ?_
  refine wn_callVv (As := [.int 0, .int (236 + (59 * (σ 0 2)))]) (rest := []) 10 kmX10_246 (by decide) rfl rfl (Nat.le_of_ble_eq_true rfl) lM_0 (congrArg Prod.fst gM_0) dX10_minds_70 rfl ?_
  refine Cv.mono K (fun σ1 K => ?_)
  refine wp_aload_n 0 dX10_minds_73 rfl rfl rfl ?_
  refine wp_dup dX10_minds_74 rfl rfl ?_
  refine wp_getI 10 2 kcX10 kfX10_206 rfl lM_0 (congrArg Prod.fst gM_0) dX10_minds_75 rfl ?_
  refine wp_iconst (v := 1) dX10_minds_78 rfl (by decide) ?_
  refine wp_iadd dX10_minds_79 rfl ?_
  refine wp_putI 10 2 kcX10 kfX10_206 rfl rfl rfl rfl lM_0 (congrArg Prod.fst gM_0) dX10_minds_80 rfl ?_
  exact wp_vret rfl (Nat.le_refl 0) (Nat.le_refl 0) dX10_minds_83 ⟨rfl, rfl, K⟩
theorem bX10_passes_0 {E : tp_E} {d : Nat} {Q : tp_M → Prop} {σ : tp_M}   (x1 : Int32) (K : Wv E TM iX10_passes (d + 1) Q 4 [(0, .ref 0), (1, .int x1), (2, .int 0), (3, .int 0)] [] σ) : Wv E TM iX10_passes (d + 1) Q 0 [(0, .ref 0), (1, .int x1)] [] σ := by
  refine wp_iconst (v := 0) dX10_passes_0 rfl (by decide) ?_
  refine wp_istore_n [1, 2, 0] dX10_passes_1 rfl rfl (by decide) rfl ?_
  show WP _ _ _ _ _ _ _ 2 [(0, .ref 0), (1, .int x1), (2, .int 0)] _ _ _
  refine wp_iconst (v := 0) dX10_passes_2 rfl (by decide) ?_
  refine wp_istore_n [1, 2, 3, 0] dX10_passes_3 rfl rfl (by decide) rfl ?_
  show WP _ _ _ _ _ _ _ 4 [(0, .ref 0), (1, .int x1), (2, .int 0), (3, .int 0)] _ _ _
  exact K
theorem eX10_passes {E : tp_E} {d : Nat} {Q : tp_M → Prop} {σ : tp_M}   (x1 : Int32) (K : Wv E TM iX10_passes (d + 1) Q 4 [(0, .ref 0), (1, .int x1), (2, .int 0), (3, .int 0)] [] σ) : Cv E TM yX10_passes iX10_passes (d + 1) [.ref 0, .int x1] σ Q := Cv.of ⟨by decide +kernel, rfl, rfl⟩ (Nat.le_of_ble_eq_true rfl) (bX10_passes_0  x1 K)
theorem bX10_passes_4 {E : tp_E} {d : Nat} {Q : tp_M → Prop} {σ : tp_M}   (x1 : Int32) (x2 : Int32) (x3 : Int32) (K : if (σ 0 7) ≤ x3 then (Wv E TM iX10_passes (d + 1) Q 43 [(0, .ref 0), (1, .int x1), (2, .int x2), (3, .int 0)] [] σ) else (Ci E TM yX10_differs iX10_differs d [.ref 0, .int x1, .int x3] σ (fun v3 σ2 => if v3 ≤ (σ2 0 4) then (Wv E TM iX10_passes (d + 1) Q 4 [(0, .ref 0), (1, .int x1), (2, .int (x2 ||| 0)), (3, .int (x3 + 1))] [] σ2) else (Wv E TM iX10_passes (d + 1) Q 4 [(0, .ref 0), (1, .int x1), (2, .int (x2 ||| (1 <<< (x3 &&& 31)))), (3, .int (x3 + 1))] [] σ2)))) : Wv E TM iX10_passes (d + 1) Q 4 [(0, .ref 0), (1, .int x1), (2, .int x2), (3, .int x3)] [] σ := by
  refine wp_iload_n 3 dX10_passes_4 rfl rfl rfl ?_
  refine wp_aload_n 0 dX10_passes_5 rfl rfl rfl ?_
  refine wp_getI 10 7 kcX10 kfX10_97 rfl lM_0 (congrArg Prod.fst gM_0) dX10_passes_6 rfl ?_
  refine wp_icmp_ge 41 dX10_passes_9 (by decide) rfl (fun h1 => ?_) (fun h1 => ?_)
  · rw [if_pos h1] at K
    refine wp_iconst (v := 0) dX10_passes_41 rfl (by decide) ?_
    refine wp_istore_n [1, 2, 3, 0] dX10_passes_42 rfl rfl (by decide) rfl ?_
    show WP _ _ _ _ _ _ _ 43 [(0, .ref 0), (1, .int x1), (2, .int x2), (3, .int 0)] _ _ _
    exact K
  · rw [if_neg h1] at K
    refine wp_iload_n 2 dX10_passes_12 rfl rfl rfl ?_
    refine wp_aload_n 0 dX10_passes_13 rfl rfl rfl ?_
    refine wp_iload_n 1 dX10_passes_14 rfl rfl rfl ?_
    refine wp_iload_n 3 dX10_passes_15 rfl rfl rfl ?_
    refine wn_callVi (As := [.int x1, .int x3]) (rest := [.int x2]) 10 kmX10_226 (by decide) rfl rfl (Nat.le_of_ble_eq_true rfl) lM_0 (congrArg Prod.fst gM_0) dX10_passes_16 rfl ?_
    refine Ci.mono K (fun v3 σ2 K => ?_)
    refine wp_aload_n 0 dX10_passes_19 rfl rfl rfl ?_
    refine wp_getI 10 4 kcX10 kfX10_191 rfl lM_0 (congrArg Prod.fst gM_0) dX10_passes_20 rfl ?_
    refine wp_icmp_le 32 dX10_passes_23 (by decide) rfl (fun h4 => ?_) (fun h4 => ?_)
    · rw [if_pos h4] at K
      refine wp_iconst (v := 0) dX10_passes_32 rfl (by decide) ?_
      refine wp_ior dX10_passes_33 rfl ?_
      refine wp_istore_n [1, 2, 0, 3] dX10_passes_34 rfl rfl (by decide) rfl ?_
      show WP _ _ _ _ _ _ _ 35 [(0, .ref 0), (1, .int x1), (2, .int (x2 ||| 0)), (3, .int x3)] _ _ _
      refine wp_iinc (v := x3 + 1) 3 [1, 2, 3, 0] dX10_passes_35 rfl (by decide) rfl rfl rfl ?_
      show WP _ _ _ _ _ _ _ 38 [(0, .ref 0), (1, .int x1), (2, .int (x2 ||| 0)), (3, .int (x3 + 1))] _ _ _
      refine wp_goto 4 dX10_passes_38 (by decide) ?_
      exact K
    · rw [if_neg h4] at K
      refine wp_iconst (v := 1) dX10_passes_26 rfl (by decide) ?_
      refine wp_iload_n 3 dX10_passes_27 rfl rfl rfl ?_
      refine wp_ishl dX10_passes_28 rfl ?_
      refine wp_goto 33 dX10_passes_29 (by decide) ?_
      refine wp_ior dX10_passes_33 rfl ?_
      refine wp_istore_n [1, 2, 0, 3] dX10_passes_34 rfl rfl (by decide) rfl ?_
      show WP _ _ _ _ _ _ _ 35 [(0, .ref 0), (1, .int x1), (2, .int (x2 ||| (1 <<< (x3 &&& 31)))), (3, .int x3)] _ _ _
      refine wp_iinc (v := x3 + 1) 3 [1, 2, 3, 0] dX10_passes_35 rfl (by decide) rfl rfl rfl ?_
      show WP _ _ _ _ _ _ _ 38 [(0, .ref 0), (1, .int x1), (2, .int (x2 ||| (1 <<< (x3 &&& 31)))), (3, .int (x3 + 1))] _ _ _
      refine wp_goto 4 dX10_passes_38 (by decide) ?_
      exact K
theorem bX10_passes_43 {E : tp_E} {d : Nat} {Q : tp_M → Prop} {σ : tp_M}   (x1 : Int32) (x2 : Int32) (x3 : Int32) (K : if (σ 0 7) ≤ x3 then (Wv E TM iX10_passes (d + 1) Q 68 [(0, .ref 0), (1, .int x1), (2, .int x2), (3, .int 0), (4, .int 0)] [] σ) else (Cv E TM yX10_walks iX10_walks d [.ref 0, .int x1, .int x3] σ (fun σ2 => Wv E TM iX10_passes (d + 1) Q 43 [(0, .ref 0), (1, .int x1), (2, .int x2), (3, .int (x3 + 1))] [] σ2))) : Wv E TM iX10_passes (d + 1) Q 43 [(0, .ref 0), (1, .int x1), (2, .int x2), (3, .int x3)] [] σ := by
  refine wp_iload_n 3 dX10_passes_43 rfl rfl rfl ?_
  refine wp_aload_n 0 dX10_passes_44 rfl rfl rfl ?_
  refine wp_getI 10 7 kcX10 kfX10_97 rfl lM_0 (congrArg Prod.fst gM_0) dX10_passes_45 rfl ?_
  refine wp_icmp_ge 63 dX10_passes_48 (by decide) rfl (fun h1 => ?_) (fun h1 => ?_)
  · rw [if_pos h1] at K
    refine wp_iconst (v := 0) dX10_passes_63 rfl (by decide) ?_
    refine wp_istore_n [1, 2, 3, 0] dX10_passes_64 rfl rfl (by decide) rfl ?_
    show WP _ _ _ _ _ _ _ 65 [(0, .ref 0), (1, .int x1), (2, .int x2), (3, .int 0)] _ _ _
    refine wp_iconst (v := 0) dX10_passes_65 rfl (by decide) ?_
    refine wp_istore [1, 2, 3, 4, 0] dX10_passes_66 rfl (by decide) rfl ?_
    show WP _ _ _ _ _ _ _ 68 [(0, .ref 0), (1, .int x1), (2, .int x2), (3, .int 0), (4, .int 0)] _ _ _
    exact K
  · rw [if_neg h1] at K
    refine wp_aload_n 0 dX10_passes_51 rfl rfl rfl ?_
    refine wp_iload_n 1 dX10_passes_52 rfl rfl rfl ?_
    refine wp_iload_n 3 dX10_passes_53 rfl rfl rfl ?_
    refine wn_callVv (As := [.int x1, .int x3]) (rest := []) 10 kmX10_235 (by decide) rfl rfl (Nat.le_of_ble_eq_true rfl) lM_0 (congrArg Prod.fst gM_0) dX10_passes_54 rfl ?_
    refine Cv.mono K (fun σ2 K => ?_)
    refine wp_iinc (v := x3 + 1) 3 [1, 2, 3, 0] dX10_passes_57 rfl (by decide) rfl rfl rfl ?_
    show WP _ _ _ _ _ _ _ 60 [(0, .ref 0), (1, .int x1), (2, .int x2), (3, .int (x3 + 1))] _ _ _
    refine wp_goto 43 dX10_passes_60 (by decide) ?_
    exact K
theorem bX10_passes_68 {E : tp_E} {d : Nat} {Q : tp_M → Prop} {σ : tp_M}   (x1 : Int32) (x2 : Int32) (x3 : Int32) (x4 : Int32) (K : if (σ 0 7) ≤ x4 then (Wv E TM iX10_passes (d + 1) Q 167 [(0, .ref 0), (1, .int x1), (2, .int x2), (3, .int x3), (4, .int 0)] [] σ) else (Wv E TM iX10_passes (d + 1) Q 83 [(0, .ref 0), (1, .int x1), (2, .int x2), (3, .int x3), (4, .int x4), (5, .int (x4 + 1))] [] σ)) : Wv E TM iX10_passes (d + 1) Q 68 [(0, .ref 0), (1, .int x1), (2, .int x2), (3, .int x3), (4, .int x4)] [] σ := by
  refine wp_iload 4 dX10_passes_68 rfl rfl ?_
  refine wp_aload_n 0 dX10_passes_70 rfl rfl rfl ?_
  refine wp_getI 10 7 kcX10 kfX10_97 rfl lM_0 (congrArg Prod.fst gM_0) dX10_passes_71 rfl ?_
  refine wp_icmp_ge 164 dX10_passes_74 (by decide) rfl (fun h1 => ?_) (fun h1 => ?_)
  · rw [if_pos h1] at K
    refine wp_iconst (v := 0) dX10_passes_164 rfl (by decide) ?_
    refine wp_istore [1, 2, 3, 4, 0] dX10_passes_165 rfl (by decide) rfl ?_
    show WP _ _ _ _ _ _ _ 167 [(0, .ref 0), (1, .int x1), (2, .int x2), (3, .int x3), (4, .int 0)] _ _ _
    exact K
  · rw [if_neg h1] at K
    refine wp_iload 4 dX10_passes_77 rfl rfl ?_
    refine wp_iconst (v := 1) dX10_passes_79 rfl (by decide) ?_
    refine wp_iadd dX10_passes_80 rfl ?_
    refine wp_istore [1, 2, 3, 4, 5, 0] dX10_passes_81 rfl (by decide) rfl ?_
    show WP _ _ _ _ _ _ _ 83 [(0, .ref 0), (1, .int x1), (2, .int x2), (3, .int x3), (4, .int x4), (5, .int (x4 + 1))] _ _ _
    exact K
theorem bX10_passes_83 {E : tp_E} {d : Nat} {Q : tp_M → Prop} {σ : tp_M}   (x1 : Int32) (x2 : Int32) (x3 : Int32) (x4 : Int32) (x5 : Int32) (K : if (σ 0 7) ≤ x5 then (Wv E TM iX10_passes (d + 1) Q 68 [(0, .ref 0), (1, .int x1), (2, .int x2), (3, .int x3), (4, .int (x4 + 1))] [] σ) else (Ci E TM yX10_haveMet iX10_haveMet d [.ref 0, .int x1, .int x4, .int x5] σ (fun v3 σ2 => if v3 = 0 then (Wv E TM iX10_passes (d + 1) Q 83 [(0, .ref 0), (1, .int x1), (2, .int x2), (3, .int x3), (4, .int x4), (5, .int (x5 + 1))] [] σ2) else (vp_in (x1 + 1) 1416 ∧ (vp_in (x1 + 1) 1416 ∧ (vp_in ((x1 + 46) + x4) 1416 ∧ (Ci E TM yX10_has iX10_has d [.int ((tp_u σ2 1 (Int32.toNatClampNeg (x1 + 1)) ((σ2 1 (Int32.toNatClampNeg (x1 + 1))) + 1)) 1 (Int32.toNatClampNeg ((x1 + 46) + x4))), .int x5] (tp_u σ2 1 (Int32.toNatClampNeg (x1 + 1)) ((σ2 1 (Int32.toNatClampNeg (x1 + 1))) + 1)) (fun v9 σ8 => if v9 = 0 then (Wv E TM iX10_passes (d + 1) Q 83 [(0, .ref 0), (1, .int x1), (2, .int x2), (3, .int (x3 ||| ((1 <<< (x4 &&& 31)) ||| (1 <<< (x5 &&& 31))))), (4, .int x4), (5, .int (x5 + 1))] [] σ8) else (Wv E TM iX10_passes (d + 1) Q 83 [(0, .ref 0), (1, .int x1), (2, .int x2), (3, .int (x3 ||| 0)), (4, .int x4), (5, .int (x5 + 1))] [] σ8))))))))) : Wv E TM iX10_passes (d + 1) Q 83 [(0, .ref 0), (1, .int x1), (2, .int x2), (3, .int x3), (4, .int x4), (5, .int x5)] [] σ := by
  refine wp_iload 5 dX10_passes_83 rfl rfl ?_
  refine wp_aload_n 0 dX10_passes_85 rfl rfl rfl ?_
  refine wp_getI 10 7 kcX10 kfX10_97 rfl lM_0 (congrArg Prod.fst gM_0) dX10_passes_86 rfl ?_
  refine wp_icmp_ge 158 dX10_passes_89 (by decide) rfl (fun h1 => ?_) (fun h1 => ?_)
  · rw [if_pos h1] at K
    refine wp_iinc (v := x4 + 1) 4 [1, 2, 3, 4, 0, 5] dX10_passes_158 rfl (by decide) rfl rfl rfl ?_
    show WP _ _ _ _ _ _ _ 161 [(0, .ref 0), (1, .int x1), (2, .int x2), (3, .int x3), (4, .int (x4 + 1)), (5, .int x5)] _ _ _
    refine wp_goto 68 dX10_passes_161 (by decide) ?_
    refine wp_lv [0, 1, 2, 3, 4] rfl ?_
    exact K
  · rw [if_neg h1] at K
    refine wp_aload_n 0 dX10_passes_92 rfl rfl rfl ?_
    refine wp_iload_n 1 dX10_passes_93 rfl rfl rfl ?_
    refine wp_iload 4 dX10_passes_94 rfl rfl ?_
    refine wp_iload 5 dX10_passes_96 rfl rfl ?_
    refine wn_callVi (As := [.int x1, .int x4, .int x5]) (rest := []) 10 kmX10_239 (by decide) rfl rfl (Nat.le_of_ble_eq_true rfl) lM_0 (congrArg Prod.fst gM_0) dX10_passes_98 rfl ?_
    refine Ci.mono K (fun v3 σ2 K => ?_)
    refine wp_if_eq 152 dX10_passes_101 (by decide) rfl (fun h4 => ?_) (fun h4 => ?_)
    · rw [if_pos h4] at K
      refine wp_iinc (v := x5 + 1) 5 [1, 2, 3, 4, 5, 0] dX10_passes_152 rfl (by decide) rfl rfl rfl ?_
      show WP _ _ _ _ _ _ _ 155 [(0, .ref 0), (1, .int x1), (2, .int x2), (3, .int x3), (4, .int x4), (5, .int (x5 + 1))] _ _ _
      refine wp_goto 83 dX10_passes_155 (by decide) ?_
      exact K
    · rw [if_neg h4] at K
      refine wp_aload_n 0 dX10_passes_104 rfl rfl rfl ?_
      refine wp_getR 10 0 kcX10 kfX10_7 rfl lM_0 (congrArg Prod.fst gM_0) rM_0_0 dX10_passes_105 rfl ?_
      refine wp_iload_n 1 dX10_passes_108 rfl rfl rfl ?_
      refine wp_iconst (v := 1) dX10_passes_109 rfl (by decide) ?_
      refine wp_iadd dX10_passes_110 rfl ?_
      refine wp_dup2 dX10_passes_111 rfl rfl rfl ?_
      obtain ⟨k5, K⟩ := K
      refine wn_iald lM_1 gM_1 k5 dX10_passes_112 rfl ?_
      refine wp_iconst (v := 1) dX10_passes_113 rfl (by decide) ?_
      refine wp_iadd dX10_passes_114 rfl ?_
      obtain ⟨k6, K⟩ := K
      refine wn_iast lM_1 gM_1 k6 dX10_passes_115 rfl ?_
      refine wp_iload_n 3 dX10_passes_116 rfl rfl rfl ?_
      refine wp_aload_n 0 dX10_passes_117 rfl rfl rfl ?_
      refine wp_getR 10 0 kcX10 kfX10_7 rfl lM_0 (congrArg Prod.fst gM_0) rM_0_0 dX10_passes_118 rfl ?_
      refine wp_iload_n 1 dX10_passes_121 rfl rfl rfl ?_
      refine wp_bipush (v := 46) dX10_passes_122 rfl (by decide) ?_
      refine wp_iadd dX10_passes_124 rfl ?_
      refine wp_iload 4 dX10_passes_125 rfl rfl ?_
      refine wp_iadd dX10_passes_127 rfl ?_
      obtain ⟨k7, K⟩ := K
      refine wn_iald lM_1 gM_1 k7 dX10_passes_128 rfl ?_
      refine wp_iload 5 dX10_passes_129 rfl rfl ?_
      refine wn_callSi (As := [.int ((tp_u σ2 1 (Int32.toNatClampNeg (x1 + 1)) ((σ2 1 (Int32.toNatClampNeg (x1 + 1))) + 1)) 1 (Int32.toNatClampNeg ((x1 + 46) + x4))), .int x5]) (rest := [.int x3]) kmX10_151 (by decide) rfl rfl (Nat.le_of_ble_eq_true rfl) dX10_passes_131 rfl ?_
      refine Ci.mono K (fun v9 σ8 K => ?_)
      refine wp_if_eq 141 dX10_passes_134 (by decide) rfl (fun h10 => ?_) (fun h10 => ?_)
      · rw [if_pos h10] at K
        refine wp_iconst (v := 1) dX10_passes_141 rfl (by decide) ?_
        refine wp_iload 4 dX10_passes_142 rfl rfl ?_
        refine wp_ishl dX10_passes_144 rfl ?_
        refine wp_iconst (v := 1) dX10_passes_145 rfl (by decide) ?_
        refine wp_iload 5 dX10_passes_146 rfl rfl ?_
        refine wp_ishl dX10_passes_148 rfl ?_
        refine wp_ior dX10_passes_149 rfl ?_
        refine wp_ior dX10_passes_150 rfl ?_
        refine wp_istore_n [1, 2, 3, 0, 4, 5] dX10_passes_151 rfl rfl (by decide) rfl ?_
        show WP _ _ _ _ _ _ _ 152 [(0, .ref 0), (1, .int x1), (2, .int x2), (3, .int (x3 ||| ((1 <<< (x4 &&& 31)) ||| (1 <<< (x5 &&& 31))))), (4, .int x4), (5, .int x5)] _ _ _
        refine wp_iinc (v := x5 + 1) 5 [1, 2, 3, 4, 5, 0] dX10_passes_152 rfl (by decide) rfl rfl rfl ?_
        show WP _ _ _ _ _ _ _ 155 [(0, .ref 0), (1, .int x1), (2, .int x2), (3, .int (x3 ||| ((1 <<< (x4 &&& 31)) ||| (1 <<< (x5 &&& 31))))), (4, .int x4), (5, .int (x5 + 1))] _ _ _
        refine wp_goto 83 dX10_passes_155 (by decide) ?_
        exact K
      · rw [if_neg h10] at K
        refine wp_iconst (v := 0) dX10_passes_137 rfl (by decide) ?_
        refine wp_goto 150 dX10_passes_138 (by decide) ?_
        refine wp_ior dX10_passes_150 rfl ?_
        refine wp_istore_n [1, 2, 3, 0, 4, 5] dX10_passes_151 rfl rfl (by decide) rfl ?_
        show WP _ _ _ _ _ _ _ 152 [(0, .ref 0), (1, .int x1), (2, .int x2), (3, .int (x3 ||| 0)), (4, .int x4), (5, .int x5)] _ _ _
        refine wp_iinc (v := x5 + 1) 5 [1, 2, 3, 4, 5, 0] dX10_passes_152 rfl (by decide) rfl rfl rfl ?_
        show WP _ _ _ _ _ _ _ 155 [(0, .ref 0), (1, .int x1), (2, .int x2), (3, .int (x3 ||| 0)), (4, .int x4), (5, .int (x5 + 1))] _ _ _
        refine wp_goto 83 dX10_passes_155 (by decide) ?_
        exact K
theorem bX10_passes_167 {E : tp_E} {d : Nat} {Q : tp_M → Prop} {σ : tp_M}   (x1 : Int32) (x2 : Int32) (x3 : Int32) (x4 : Int32) (K : if (σ 0 7) ≤ x4 then (vp_in (x1 + 0) 1416 ∧ (vp_in (x1 + 0) 1416 ∧ (Q (tp_u σ 1 (Int32.toNatClampNeg (x1 + 0)) ((σ 1 (Int32.toNatClampNeg (x1 + 0))) + 1))))) else (Ci E TM yX10_has iX10_has d [.int (x3 &&& x2), .int x4] σ (fun v5 σ4 => if v5 = 0 then (Wv E TM iX10_passes (d + 1) Q 167 [(0, .ref 0), (1, .int x1), (2, .int x2), (3, .int x3), (4, .int (x4 + 1))] [] σ4) else (Cv E TM yX10_spills iX10_spills d [.ref 0, .int x1, .int x4] σ4 (fun σ7 => Wv E TM iX10_passes (d + 1) Q 167 [(0, .ref 0), (1, .int x1), (2, .int x2), (3, .int x3), (4, .int (x4 + 1))] [] σ7))))) : Wv E TM iX10_passes (d + 1) Q 167 [(0, .ref 0), (1, .int x1), (2, .int x2), (3, .int x3), (4, .int x4)] [] σ := by
  refine wp_iload 4 dX10_passes_167 rfl rfl ?_
  refine wp_aload_n 0 dX10_passes_169 rfl rfl rfl ?_
  refine wp_getI 10 7 kcX10 kfX10_97 rfl lM_0 (congrArg Prod.fst gM_0) dX10_passes_170 rfl ?_
  refine wp_icmp_ge 200 dX10_passes_173 (by decide) rfl (fun h1 => ?_) (fun h1 => ?_)
  · rw [if_pos h1] at K
    refine wp_aload_n 0 dX10_passes_200 rfl rfl rfl ?_
    refine wp_getR 10 0 kcX10 kfX10_7 rfl lM_0 (congrArg Prod.fst gM_0) rM_0_0 dX10_passes_201 rfl ?_
    refine wp_iload_n 1 dX10_passes_204 rfl rfl rfl ?_
    refine wp_iconst (v := 0) dX10_passes_205 rfl (by decide) ?_
    refine wp_iadd dX10_passes_206 rfl ?_
    refine wp_dup2 dX10_passes_207 rfl rfl rfl ?_
    obtain ⟨k2, K⟩ := K
    refine wn_iald lM_1 gM_1 k2 dX10_passes_208 rfl ?_
    refine wp_iconst (v := 1) dX10_passes_209 rfl (by decide) ?_
    refine wp_iadd dX10_passes_210 rfl ?_
    obtain ⟨k3, K⟩ := K
    refine wn_iast lM_1 gM_1 k3 dX10_passes_211 rfl ?_
    exact wp_vret rfl (Nat.le_refl 0) (Nat.le_refl 0) dX10_passes_212 ⟨rfl, rfl, K⟩
  · rw [if_neg h1] at K
    refine wp_iload_n 3 dX10_passes_176 rfl rfl rfl ?_
    refine wp_iload_n 2 dX10_passes_177 rfl rfl rfl ?_
    refine wp_iand dX10_passes_178 rfl ?_
    refine wp_iload 4 dX10_passes_179 rfl rfl ?_
    refine wn_callSi (As := [.int (x3 &&& x2), .int x4]) (rest := []) kmX10_151 (by decide) rfl rfl (Nat.le_of_ble_eq_true rfl) dX10_passes_181 rfl ?_
    refine Ci.mono K (fun v5 σ4 K => ?_)
    refine wp_if_eq 194 dX10_passes_184 (by decide) rfl (fun h6 => ?_) (fun h6 => ?_)
    · rw [if_pos h6] at K
      refine wp_iinc (v := x4 + 1) 4 [1, 2, 3, 4, 0] dX10_passes_194 rfl (by decide) rfl rfl rfl ?_
      show WP _ _ _ _ _ _ _ 197 [(0, .ref 0), (1, .int x1), (2, .int x2), (3, .int x3), (4, .int (x4 + 1))] _ _ _
      refine wp_goto 167 dX10_passes_197 (by decide) ?_
      exact K
    · rw [if_neg h6] at K
      refine wp_aload_n 0 dX10_passes_187 rfl rfl rfl ?_
      refine wp_iload_n 1 dX10_passes_188 rfl rfl rfl ?_
      refine wp_iload 4 dX10_passes_189 rfl rfl ?_
      refine wn_callVv (As := [.int x1, .int x4]) (rest := []) 10 kmX10_243 (by decide) rfl rfl (Nat.le_of_ble_eq_true rfl) lM_0 (congrArg Prod.fst gM_0) dX10_passes_191 rfl ?_
      refine Cv.mono K (fun σ7 K => ?_)
      refine wp_iinc (v := x4 + 1) 4 [1, 2, 3, 4, 0] dX10_passes_194 rfl (by decide) rfl rfl rfl ?_
      show WP _ _ _ _ _ _ _ 197 [(0, .ref 0), (1, .int x1), (2, .int x2), (3, .int x3), (4, .int (x4 + 1))] _ _ _
      refine wp_goto 167 dX10_passes_197 (by decide) ?_
      exact K
theorem bX10_walks_0 {E : tp_E} {d : Nat} {Q : tp_M → Prop} {σ : tp_M}   (x1 : Int32) (x2 : Int32) (K : vp_in ((x1 + 2) + x2) 1416 ∧ (vp_in x2 4 ∧ (vp_in ((x1 + 6) + x2) 1416 ∧ (if ((tp_u σ 14 (Int32.toNatClampNeg x2) (σ 1 (Int32.toNatClampNeg ((x1 + 2) + x2)))) 1 (Int32.toNatClampNeg ((x1 + 6) + x2))) ≤ 0 then (Wv E TM iX10_walks d Q 40 [(0, .ref 0), (1, .int x1), (2, .int x2)] [.int 0, .int x2, .ref 15] (tp_u σ 14 (Int32.toNatClampNeg x2) (σ 1 (Int32.toNatClampNeg ((x1 + 2) + x2))))) else (Wv E TM iX10_walks d Q 40 [(0, .ref 0), (1, .int x1), (2, .int x2)] [.int 1, .int x2, .ref 15] (tp_u σ 14 (Int32.toNatClampNeg x2) (σ 1 (Int32.toNatClampNeg ((x1 + 2) + x2))))))))) : Wv E TM iX10_walks d Q 0 [(0, .ref 0), (1, .int x1), (2, .int x2)] [] σ := by
  refine wp_aload_n 0 dX10_walks_0 rfl rfl rfl ?_
  refine wp_getR 10 32 kcX10 kfX10_54 rfl lM_0 (congrArg Prod.fst gM_0) rM_0_32 dX10_walks_1 rfl ?_
  refine wp_iload_n 2 dX10_walks_4 rfl rfl rfl ?_
  refine wp_aload_n 0 dX10_walks_5 rfl rfl rfl ?_
  refine wp_getR 10 0 kcX10 kfX10_7 rfl lM_0 (congrArg Prod.fst gM_0) rM_0_0 dX10_walks_6 rfl ?_
  refine wp_iload_n 1 dX10_walks_9 rfl rfl rfl ?_
  refine wp_iconst (v := 2) dX10_walks_10 rfl (by decide) ?_
  refine wp_iadd dX10_walks_11 rfl ?_
  refine wp_iload_n 2 dX10_walks_12 rfl rfl rfl ?_
  refine wp_iadd dX10_walks_13 rfl ?_
  obtain ⟨k1, K⟩ := K
  refine wn_iald lM_1 gM_1 k1 dX10_walks_14 rfl ?_
  obtain ⟨k2, K⟩ := K
  refine wn_iast lM_14 gM_14 k2 dX10_walks_15 rfl ?_
  refine wp_aload_n 0 dX10_walks_16 rfl rfl rfl ?_
  refine wp_getR 10 33 kcX10 kfX10_57 rfl lM_0 (congrArg Prod.fst gM_0) rM_0_33 dX10_walks_17 rfl ?_
  refine wp_iload_n 2 dX10_walks_20 rfl rfl rfl ?_
  refine wp_aload_n 0 dX10_walks_21 rfl rfl rfl ?_
  refine wp_getR 10 0 kcX10 kfX10_7 rfl lM_0 (congrArg Prod.fst gM_0) rM_0_0 dX10_walks_22 rfl ?_
  refine wp_iload_n 1 dX10_walks_25 rfl rfl rfl ?_
  refine wp_bipush (v := 6) dX10_walks_26 rfl (by decide) ?_
  refine wp_iadd dX10_walks_28 rfl ?_
  refine wp_iload_n 2 dX10_walks_29 rfl rfl rfl ?_
  refine wp_iadd dX10_walks_30 rfl ?_
  obtain ⟨k3, K⟩ := K
  refine wn_iald lM_1 gM_1 k3 dX10_walks_31 rfl ?_
  refine wp_if_le 39 dX10_walks_32 (by decide) rfl (fun h4 => ?_) (fun h4 => ?_)
  · rw [if_pos h4] at K
    refine wp_iconst (v := 0) dX10_walks_39 rfl (by decide) ?_
    exact K
  · rw [if_neg h4] at K
    refine wp_iconst (v := 1) dX10_walks_35 rfl (by decide) ?_
    refine wp_goto 40 dX10_walks_36 (by decide) ?_
    exact K
theorem eX10_walks {E : tp_E} {d : Nat} {Q : tp_M → Prop} {σ : tp_M}   (x1 : Int32) (x2 : Int32) (K : vp_in ((x1 + 2) + x2) 1416 ∧ (vp_in x2 4 ∧ (vp_in ((x1 + 6) + x2) 1416 ∧ (if ((tp_u σ 14 (Int32.toNatClampNeg x2) (σ 1 (Int32.toNatClampNeg ((x1 + 2) + x2)))) 1 (Int32.toNatClampNeg ((x1 + 6) + x2))) ≤ 0 then (Wv E TM iX10_walks d Q 40 [(0, .ref 0), (1, .int x1), (2, .int x2)] [.int 0, .int x2, .ref 15] (tp_u σ 14 (Int32.toNatClampNeg x2) (σ 1 (Int32.toNatClampNeg ((x1 + 2) + x2))))) else (Wv E TM iX10_walks d Q 40 [(0, .ref 0), (1, .int x1), (2, .int x2)] [.int 1, .int x2, .ref 15] (tp_u σ 14 (Int32.toNatClampNeg x2) (σ 1 (Int32.toNatClampNeg ((x1 + 2) + x2))))))))) : Cv E TM yX10_walks iX10_walks d [.ref 0, .int x1, .int x2] σ Q := Cv.of ⟨by decide +kernel, rfl, rfl⟩ (Nat.le_of_ble_eq_true rfl) (bX10_walks_0  x1 x2 K)
theorem bX10_walks_40 {E : tp_E} {d : Nat} {Q : tp_M → Prop} {σ : tp_M}   (x1 : Int32) (x2 : Int32) (s1 : Int32) (s2 : Int32) (K : vp_in s1 4 ∧ ((s2 = 0 ∨ s2 = 1) ∧ (vp_in x2 4 ∧ (if ((tp_u σ 15 (Int32.toNatClampNeg s1) s2) 15 (Int32.toNatClampNeg x2)) = 0 then (Q (tp_u σ 15 (Int32.toNatClampNeg s1) s2)) else (vp_in ((x1 + 10) + (9 * x2)) 1416 ∧ (vp_in ((x1 + 2) + x2) 1416 ∧ (Wv E TM iX10_walks d Q 76 [(0, .ref 0), (1, .int x1), (2, .int x2), (3, .int 0)] [] (tp_u (tp_u σ 15 (Int32.toNatClampNeg s1) s2) 1 (Int32.toNatClampNeg ((x1 + 2) + x2)) ((tp_u σ 15 (Int32.toNatClampNeg s1) s2) 1 (Int32.toNatClampNeg ((x1 + 10) + (9 * x2)))))))))))) : Wv E TM iX10_walks d Q 40 [(0, .ref 0), (1, .int x1), (2, .int x2)] [.int s2, .int s1, .ref 15] σ := by
  obtain ⟨k1, K⟩ := K
  obtain ⟨k2, K⟩ := K
  refine wn_zast lM_15 gM_15 k1 k2 dX10_walks_40 rfl ?_
  refine wp_aload_n 0 dX10_walks_41 rfl rfl rfl ?_
  refine wp_getR 10 33 kcX10 kfX10_57 rfl lM_0 (congrArg Prod.fst gM_0) rM_0_33 dX10_walks_42 rfl ?_
  refine wp_iload_n 2 dX10_walks_45 rfl rfl rfl ?_
  obtain ⟨k3, K⟩ := K
  refine wn_zald lM_15 gM_15 k3 dX10_walks_46 rfl ?_
  refine wp_if_eq 137 dX10_walks_47 (by decide) rfl (fun h4 => ?_) (fun h4 => ?_)
  · rw [if_pos h4] at K
    exact wp_vret rfl (Nat.le_refl 0) (Nat.le_refl 0) dX10_walks_137 ⟨rfl, rfl, K⟩
  · rw [if_neg h4] at K
    refine wp_aload_n 0 dX10_walks_50 rfl rfl rfl ?_
    refine wp_getR 10 0 kcX10 kfX10_7 rfl lM_0 (congrArg Prod.fst gM_0) rM_0_0 dX10_walks_51 rfl ?_
    refine wp_iload_n 1 dX10_walks_54 rfl rfl rfl ?_
    refine wp_iconst (v := 2) dX10_walks_55 rfl (by decide) ?_
    refine wp_iadd dX10_walks_56 rfl ?_
    refine wp_iload_n 2 dX10_walks_57 rfl rfl rfl ?_
    refine wp_iadd dX10_walks_58 rfl ?_
    refine wp_aload_n 0 dX10_walks_59 rfl rfl rfl ?_
    refine wp_getR 10 0 kcX10 kfX10_7 rfl lM_0 (congrArg Prod.fst gM_0) rM_0_0 dX10_walks_60 rfl ?_
    refine wp_iload_n 1 dX10_walks_63 rfl rfl rfl ?_
    refine wp_bipush (v := 10) dX10_walks_64 rfl (by decide) ?_
    refine wp_iadd dX10_walks_66 rfl ?_
    refine wp_bipush (v := 9) dX10_walks_67 rfl (by decide) ?_
    refine wp_iload_n 2 dX10_walks_69 rfl rfl rfl ?_
    refine wp_imul dX10_walks_70 rfl ?_
    refine wp_iadd dX10_walks_71 rfl ?_
    obtain ⟨k5, K⟩ := K
    refine wn_iald lM_1 gM_1 k5 dX10_walks_72 rfl ?_
    obtain ⟨k6, K⟩ := K
    refine wn_iast lM_1 gM_1 k6 dX10_walks_73 rfl ?_
    refine wp_iconst (v := 0) dX10_walks_74 rfl (by decide) ?_
    refine wp_istore_n [1, 2, 3, 0] dX10_walks_75 rfl rfl (by decide) rfl ?_
    show WP _ _ _ _ _ _ _ 76 [(0, .ref 0), (1, .int x1), (2, .int x2), (3, .int 0)] _ _ _
    exact K
theorem bX10_walks_76 {E : tp_E} {d : Nat} {Q : tp_M → Prop} {σ : tp_M}   (x1 : Int32) (x2 : Int32) (x3 : Int32) (K : if 8 ≤ x3 then (vp_in ((x1 + 6) + x2) 1416 ∧ (vp_in ((x1 + 6) + x2) 1416 ∧ (Q (tp_u σ 1 (Int32.toNatClampNeg ((x1 + 6) + x2)) ((σ 1 (Int32.toNatClampNeg ((x1 + 6) + x2))) - 1))))) else (vp_in ((((x1 + 10) + (9 * x2)) + x3) + 1) 1416 ∧ (vp_in (((x1 + 10) + (9 * x2)) + x3) 1416 ∧ (Wv E TM iX10_walks d Q 76 [(0, .ref 0), (1, .int x1), (2, .int x2), (3, .int (x3 + 1))] [] (tp_u σ 1 (Int32.toNatClampNeg (((x1 + 10) + (9 * x2)) + x3)) (σ 1 (Int32.toNatClampNeg ((((x1 + 10) + (9 * x2)) + x3) + 1)))))))) : Wv E TM iX10_walks d Q 76 [(0, .ref 0), (1, .int x1), (2, .int x2), (3, .int x3)] [] σ := by
  refine wp_iload_n 3 dX10_walks_76 rfl rfl rfl ?_
  refine wp_bipush (v := 8) dX10_walks_77 rfl (by decide) ?_
  refine wp_icmp_ge 122 dX10_walks_79 (by decide) rfl (fun h1 => ?_) (fun h1 => ?_)
  · rw [if_pos h1] at K
    refine wp_aload_n 0 dX10_walks_122 rfl rfl rfl ?_
    refine wp_getR 10 0 kcX10 kfX10_7 rfl lM_0 (congrArg Prod.fst gM_0) rM_0_0 dX10_walks_123 rfl ?_
    refine wp_iload_n 1 dX10_walks_126 rfl rfl rfl ?_
    refine wp_bipush (v := 6) dX10_walks_127 rfl (by decide) ?_
    refine wp_iadd dX10_walks_129 rfl ?_
    refine wp_iload_n 2 dX10_walks_130 rfl rfl rfl ?_
    refine wp_iadd dX10_walks_131 rfl ?_
    refine wp_dup2 dX10_walks_132 rfl rfl rfl ?_
    obtain ⟨k2, K⟩ := K
    refine wn_iald lM_1 gM_1 k2 dX10_walks_133 rfl ?_
    refine wp_iconst (v := 1) dX10_walks_134 rfl (by decide) ?_
    refine wp_isub dX10_walks_135 rfl ?_
    obtain ⟨k3, K⟩ := K
    refine wn_iast lM_1 gM_1 k3 dX10_walks_136 rfl ?_
    exact wp_vret rfl (Nat.le_refl 0) (Nat.le_refl 0) dX10_walks_137 ⟨rfl, rfl, K⟩
  · rw [if_neg h1] at K
    refine wp_aload_n 0 dX10_walks_82 rfl rfl rfl ?_
    refine wp_getR 10 0 kcX10 kfX10_7 rfl lM_0 (congrArg Prod.fst gM_0) rM_0_0 dX10_walks_83 rfl ?_
    refine wp_iload_n 1 dX10_walks_86 rfl rfl rfl ?_
    refine wp_bipush (v := 10) dX10_walks_87 rfl (by decide) ?_
    refine wp_iadd dX10_walks_89 rfl ?_
    refine wp_bipush (v := 9) dX10_walks_90 rfl (by decide) ?_
    refine wp_iload_n 2 dX10_walks_92 rfl rfl rfl ?_
    refine wp_imul dX10_walks_93 rfl ?_
    refine wp_iadd dX10_walks_94 rfl ?_
    refine wp_iload_n 3 dX10_walks_95 rfl rfl rfl ?_
    refine wp_iadd dX10_walks_96 rfl ?_
    refine wp_aload_n 0 dX10_walks_97 rfl rfl rfl ?_
    refine wp_getR 10 0 kcX10 kfX10_7 rfl lM_0 (congrArg Prod.fst gM_0) rM_0_0 dX10_walks_98 rfl ?_
    refine wp_iload_n 1 dX10_walks_101 rfl rfl rfl ?_
    refine wp_bipush (v := 10) dX10_walks_102 rfl (by decide) ?_
    refine wp_iadd dX10_walks_104 rfl ?_
    refine wp_bipush (v := 9) dX10_walks_105 rfl (by decide) ?_
    refine wp_iload_n 2 dX10_walks_107 rfl rfl rfl ?_
    refine wp_imul dX10_walks_108 rfl ?_
    refine wp_iadd dX10_walks_109 rfl ?_
    refine wp_iload_n 3 dX10_walks_110 rfl rfl rfl ?_
    refine wp_iadd dX10_walks_111 rfl ?_
    refine wp_iconst (v := 1) dX10_walks_112 rfl (by decide) ?_
    refine wp_iadd dX10_walks_113 rfl ?_
    obtain ⟨k4, K⟩ := K
    refine wn_iald lM_1 gM_1 k4 dX10_walks_114 rfl ?_
    obtain ⟨k5, K⟩ := K
    refine wn_iast lM_1 gM_1 k5 dX10_walks_115 rfl ?_
    refine wp_iinc (v := x3 + 1) 3 [1, 2, 3, 0] dX10_walks_116 rfl (by decide) rfl rfl rfl ?_
    show WP _ _ _ _ _ _ _ 119 [(0, .ref 0), (1, .int x1), (2, .int x2), (3, .int (x3 + 1))] _ _ _
    refine wp_goto 76 dX10_walks_119 (by decide) ?_
    exact K
theorem bX10_haveMet_0 {E : tp_E} {d : Nat} {Q : Int32 → tp_M → Prop} {σ : tp_M}   (x1 : Int32) (x2 : Int32) (x3 : Int32) (K : vp_in ((x1 + 2) + x2) 1416 ∧ (vp_in ((x1 + 2) + x3) 1416 ∧ (if (σ 1 (Int32.toNatClampNeg ((x1 + 2) + x2))) = (σ 1 (Int32.toNatClampNeg ((x1 + 2) + x3))) then (vp_in x2 4 ∧ (if (σ 15 (Int32.toNatClampNeg x2)) = 0 then (vp_in x3 4 ∧ (if (σ 15 (Int32.toNatClampNeg x3)) = 0 then (Wi E TM iX10_haveMet d Q 46 [(0, .ref 0), (1, .int x1), (2, .int x2), (3, .int x3)] [.int 0] σ) else (Wi E TM iX10_haveMet d Q 46 [(0, .ref 0), (1, .int x1), (2, .int x2), (3, .int x3)] [.int 1] σ))) else (Wi E TM iX10_haveMet d Q 46 [(0, .ref 0), (1, .int x1), (2, .int x2), (3, .int x3)] [.int 1] σ))) else (Wi E TM iX10_haveMet d Q 46 [(0, .ref 0), (1, .int x1), (2, .int x2), (3, .int x3)] [.int 0] σ)))) : Wi E TM iX10_haveMet d Q 0 [(0, .ref 0), (1, .int x1), (2, .int x2), (3, .int x3)] [] σ := by
  refine wp_aload_n 0 dX10_haveMet_0 rfl rfl rfl ?_
  refine wp_getR 10 0 kcX10 kfX10_7 rfl lM_0 (congrArg Prod.fst gM_0) rM_0_0 dX10_haveMet_1 rfl ?_
  refine wp_iload_n 1 dX10_haveMet_4 rfl rfl rfl ?_
  refine wp_iconst (v := 2) dX10_haveMet_5 rfl (by decide) ?_
  refine wp_iadd dX10_haveMet_6 rfl ?_
  refine wp_iload_n 2 dX10_haveMet_7 rfl rfl rfl ?_
  refine wp_iadd dX10_haveMet_8 rfl ?_
  obtain ⟨k1, K⟩ := K
  refine wn_iald lM_1 gM_1 k1 dX10_haveMet_9 rfl ?_
  refine wp_aload_n 0 dX10_haveMet_10 rfl rfl rfl ?_
  refine wp_getR 10 0 kcX10 kfX10_7 rfl lM_0 (congrArg Prod.fst gM_0) rM_0_0 dX10_haveMet_11 rfl ?_
  refine wp_iload_n 1 dX10_haveMet_14 rfl rfl rfl ?_
  refine wp_iconst (v := 2) dX10_haveMet_15 rfl (by decide) ?_
  refine wp_iadd dX10_haveMet_16 rfl ?_
  refine wp_iload_n 3 dX10_haveMet_17 rfl rfl rfl ?_
  refine wp_iadd dX10_haveMet_18 rfl ?_
  obtain ⟨k2, K⟩ := K
  refine wn_iald lM_1 gM_1 k2 dX10_haveMet_19 rfl ?_
  refine wp_icmp_ne 45 dX10_haveMet_20 (by decide) rfl (fun h3 => ?_) (fun h3 => ?_)
  · rw [if_neg h3] at K
    refine wp_iconst (v := 0) dX10_haveMet_45 rfl (by decide) ?_
    exact K
  · rw [if_pos h3] at K
    refine wp_aload_n 0 dX10_haveMet_23 rfl rfl rfl ?_
    refine wp_getR 10 33 kcX10 kfX10_57 rfl lM_0 (congrArg Prod.fst gM_0) rM_0_33 dX10_haveMet_24 rfl ?_
    refine wp_iload_n 2 dX10_haveMet_27 rfl rfl rfl ?_
    obtain ⟨k4, K⟩ := K
    refine wn_zald lM_15 gM_15 k4 dX10_haveMet_28 rfl ?_
    refine wp_if_ne 41 dX10_haveMet_29 (by decide) rfl (fun h5 => ?_) (fun h5 => ?_)
    · rw [if_neg h5] at K
      refine wp_iconst (v := 1) dX10_haveMet_41 rfl (by decide) ?_
      refine wp_goto 46 dX10_haveMet_42 (by decide) ?_
      exact K
    · rw [if_pos h5] at K
      refine wp_aload_n 0 dX10_haveMet_32 rfl rfl rfl ?_
      refine wp_getR 10 33 kcX10 kfX10_57 rfl lM_0 (congrArg Prod.fst gM_0) rM_0_33 dX10_haveMet_33 rfl ?_
      refine wp_iload_n 3 dX10_haveMet_36 rfl rfl rfl ?_
      obtain ⟨k6, K⟩ := K
      refine wn_zald lM_15 gM_15 k6 dX10_haveMet_37 rfl ?_
      refine wp_if_eq 45 dX10_haveMet_38 (by decide) rfl (fun h7 => ?_) (fun h7 => ?_)
      · rw [if_pos h7] at K
        refine wp_iconst (v := 0) dX10_haveMet_45 rfl (by decide) ?_
        exact K
      · rw [if_neg h7] at K
        refine wp_iconst (v := 1) dX10_haveMet_41 rfl (by decide) ?_
        refine wp_goto 46 dX10_haveMet_42 (by decide) ?_
        exact K
theorem eX10_haveMet {E : tp_E} {d : Nat} {Q : Int32 → tp_M → Prop} {σ : tp_M}   (x1 : Int32) (x2 : Int32) (x3 : Int32) (K : vp_in ((x1 + 2) + x2) 1416 ∧ (vp_in ((x1 + 2) + x3) 1416 ∧ (if (σ 1 (Int32.toNatClampNeg ((x1 + 2) + x2))) = (σ 1 (Int32.toNatClampNeg ((x1 + 2) + x3))) then (vp_in x2 4 ∧ (if (σ 15 (Int32.toNatClampNeg x2)) = 0 then (vp_in x3 4 ∧ (if (σ 15 (Int32.toNatClampNeg x3)) = 0 then (Wi E TM iX10_haveMet d Q 46 [(0, .ref 0), (1, .int x1), (2, .int x2), (3, .int x3)] [.int 0] σ) else (Wi E TM iX10_haveMet d Q 46 [(0, .ref 0), (1, .int x1), (2, .int x2), (3, .int x3)] [.int 1] σ))) else (Wi E TM iX10_haveMet d Q 46 [(0, .ref 0), (1, .int x1), (2, .int x2), (3, .int x3)] [.int 1] σ))) else (Wi E TM iX10_haveMet d Q 46 [(0, .ref 0), (1, .int x1), (2, .int x2), (3, .int x3)] [.int 0] σ)))) : Ci E TM yX10_haveMet iX10_haveMet d [.ref 0, .int x1, .int x2, .int x3] σ Q := Ci.of ⟨by decide +kernel, rfl, rfl⟩ (Nat.le_of_ble_eq_true rfl) (bX10_haveMet_0  x1 x2 x3 K)
theorem bX10_haveMet_46 {E : tp_E} {d : Nat} {Q : Int32 → tp_M → Prop} {σ : tp_M}   (x1 : Int32) (x2 : Int32) (x3 : Int32) (s0 : Int32) (K : vp_in x2 4 ∧ (if (σ 15 (Int32.toNatClampNeg x2)) = 0 then (if s0 = 0 then (Q 0 σ) else (Q 1 σ)) else (vp_in x3 4 ∧ (if (σ 15 (Int32.toNatClampNeg x3)) = 0 then (if s0 = 0 then (Q 0 σ) else (Q 1 σ)) else (vp_in ((x1 + 2) + x2) 1416 ∧ (vp_in x3 4 ∧ (if (σ 1 (Int32.toNatClampNeg ((x1 + 2) + x2))) = (σ 14 (Int32.toNatClampNeg x3)) then (vp_in ((x1 + 2) + x3) 1416 ∧ (vp_in x2 4 ∧ (if (σ 1 (Int32.toNatClampNeg ((x1 + 2) + x3))) = (σ 14 (Int32.toNatClampNeg x2)) then (if s0 = 0 then (Q 1 σ) else (Q 1 σ)) else (if s0 = 0 then (Q 0 σ) else (Q 1 σ))))) else (if s0 = 0 then (Q 0 σ) else (Q 1 σ))))))))) : Wi E TM iX10_haveMet d Q 46 [(0, .ref 0), (1, .int x1), (2, .int x2), (3, .int x3)] [.int s0] σ := by
  refine wp_istore [1, 2, 3, 4, 0] dX10_haveMet_46 rfl (by decide) rfl ?_
  show WP _ _ _ _ _ _ _ 48 [(0, .ref 0), (1, .int x1), (2, .int x2), (3, .int x3), (4, .int s0)] _ _ _
  refine wp_aload_n 0 dX10_haveMet_48 rfl rfl rfl ?_
  refine wp_getR 10 33 kcX10 kfX10_57 rfl lM_0 (congrArg Prod.fst gM_0) rM_0_33 dX10_haveMet_49 rfl ?_
  refine wp_iload_n 2 dX10_haveMet_52 rfl rfl rfl ?_
  obtain ⟨k1, K⟩ := K
  refine wn_zald lM_15 gM_15 k1 dX10_haveMet_53 rfl ?_
  refine wp_if_eq 108 dX10_haveMet_54 (by decide) rfl (fun h2 => ?_) (fun h2 => ?_)
  · rw [if_pos h2] at K
    refine wp_iconst (v := 0) dX10_haveMet_108 rfl (by decide) ?_
    refine wp_istore [1, 2, 3, 4, 5, 0] dX10_haveMet_109 rfl (by decide) rfl ?_
    show WP _ _ _ _ _ _ _ 111 [(0, .ref 0), (1, .int x1), (2, .int x2), (3, .int x3), (4, .int s0), (5, .int 0)] _ _ _
    refine wp_iload 4 dX10_haveMet_111 rfl rfl ?_
    refine wp_if_ne 121 dX10_haveMet_113 (by decide) rfl (fun h3 => ?_) (fun h3 => ?_)
    · rw [if_neg h3] at K
      refine wp_iconst (v := 1) dX10_haveMet_121 rfl (by decide) ?_
      refine wp_goto 126 dX10_haveMet_122 (by decide) ?_
      exact wp_ret .boolean rfl rfl (Nat.le_refl 0) (Nat.le_refl 0) dX10_haveMet_126 ⟨rfl, _, rfl, K⟩
    · rw [if_pos h3] at K
      refine wp_iload 5 dX10_haveMet_116 rfl rfl ?_
      refine wp_if_eq 125 dX10_haveMet_118 (by decide) rfl (fun h4 => ?_) (fun h4 => ?_)
      · refine wp_iconst (v := 0) dX10_haveMet_125 rfl (by decide) ?_
        exact wp_ret .boolean rfl rfl (Nat.le_refl 0) (Nat.le_refl 0) dX10_haveMet_126 ⟨rfl, _, rfl, K⟩
      · exact absurd h4 (by decide)
  · rw [if_neg h2] at K
    refine wp_aload_n 0 dX10_haveMet_57 rfl rfl rfl ?_
    refine wp_getR 10 33 kcX10 kfX10_57 rfl lM_0 (congrArg Prod.fst gM_0) rM_0_33 dX10_haveMet_58 rfl ?_
    refine wp_iload_n 3 dX10_haveMet_61 rfl rfl rfl ?_
    obtain ⟨k5, K⟩ := K
    refine wn_zald lM_15 gM_15 k5 dX10_haveMet_62 rfl ?_
    refine wp_if_eq 108 dX10_haveMet_63 (by decide) rfl (fun h6 => ?_) (fun h6 => ?_)
    · rw [if_pos h6] at K
      refine wp_iconst (v := 0) dX10_haveMet_108 rfl (by decide) ?_
      refine wp_istore [1, 2, 3, 4, 5, 0] dX10_haveMet_109 rfl (by decide) rfl ?_
      show WP _ _ _ _ _ _ _ 111 [(0, .ref 0), (1, .int x1), (2, .int x2), (3, .int x3), (4, .int s0), (5, .int 0)] _ _ _
      refine wp_iload 4 dX10_haveMet_111 rfl rfl ?_
      refine wp_if_ne 121 dX10_haveMet_113 (by decide) rfl (fun h7 => ?_) (fun h7 => ?_)
      · rw [if_neg h7] at K
        refine wp_iconst (v := 1) dX10_haveMet_121 rfl (by decide) ?_
        refine wp_goto 126 dX10_haveMet_122 (by decide) ?_
        exact wp_ret .boolean rfl rfl (Nat.le_refl 0) (Nat.le_refl 0) dX10_haveMet_126 ⟨rfl, _, rfl, K⟩
      · rw [if_pos h7] at K
        refine wp_iload 5 dX10_haveMet_116 rfl rfl ?_
        refine wp_if_eq 125 dX10_haveMet_118 (by decide) rfl (fun h8 => ?_) (fun h8 => ?_)
        · refine wp_iconst (v := 0) dX10_haveMet_125 rfl (by decide) ?_
          exact wp_ret .boolean rfl rfl (Nat.le_refl 0) (Nat.le_refl 0) dX10_haveMet_126 ⟨rfl, _, rfl, K⟩
        · exact absurd h8 (by decide)
    · rw [if_neg h6] at K
      refine wp_aload_n 0 dX10_haveMet_66 rfl rfl rfl ?_
      refine wp_getR 10 0 kcX10 kfX10_7 rfl lM_0 (congrArg Prod.fst gM_0) rM_0_0 dX10_haveMet_67 rfl ?_
      refine wp_iload_n 1 dX10_haveMet_70 rfl rfl rfl ?_
      refine wp_iconst (v := 2) dX10_haveMet_71 rfl (by decide) ?_
      refine wp_iadd dX10_haveMet_72 rfl ?_
      refine wp_iload_n 2 dX10_haveMet_73 rfl rfl rfl ?_
      refine wp_iadd dX10_haveMet_74 rfl ?_
      obtain ⟨k9, K⟩ := K
      refine wn_iald lM_1 gM_1 k9 dX10_haveMet_75 rfl ?_
      refine wp_aload_n 0 dX10_haveMet_76 rfl rfl rfl ?_
      refine wp_getR 10 32 kcX10 kfX10_54 rfl lM_0 (congrArg Prod.fst gM_0) rM_0_32 dX10_haveMet_77 rfl ?_
      refine wp_iload_n 3 dX10_haveMet_80 rfl rfl rfl ?_
      obtain ⟨k10, K⟩ := K
      refine wn_iald lM_14 gM_14 k10 dX10_haveMet_81 rfl ?_
      refine wp_icmp_ne 108 dX10_haveMet_82 (by decide) rfl (fun h11 => ?_) (fun h11 => ?_)
      · rw [if_neg h11] at K
        refine wp_iconst (v := 0) dX10_haveMet_108 rfl (by decide) ?_
        refine wp_istore [1, 2, 3, 4, 5, 0] dX10_haveMet_109 rfl (by decide) rfl ?_
        show WP _ _ _ _ _ _ _ 111 [(0, .ref 0), (1, .int x1), (2, .int x2), (3, .int x3), (4, .int s0), (5, .int 0)] _ _ _
        refine wp_iload 4 dX10_haveMet_111 rfl rfl ?_
        refine wp_if_ne 121 dX10_haveMet_113 (by decide) rfl (fun h12 => ?_) (fun h12 => ?_)
        · rw [if_neg h12] at K
          refine wp_iconst (v := 1) dX10_haveMet_121 rfl (by decide) ?_
          refine wp_goto 126 dX10_haveMet_122 (by decide) ?_
          exact wp_ret .boolean rfl rfl (Nat.le_refl 0) (Nat.le_refl 0) dX10_haveMet_126 ⟨rfl, _, rfl, K⟩
        · rw [if_pos h12] at K
          refine wp_iload 5 dX10_haveMet_116 rfl rfl ?_
          refine wp_if_eq 125 dX10_haveMet_118 (by decide) rfl (fun h13 => ?_) (fun h13 => ?_)
          · refine wp_iconst (v := 0) dX10_haveMet_125 rfl (by decide) ?_
            exact wp_ret .boolean rfl rfl (Nat.le_refl 0) (Nat.le_refl 0) dX10_haveMet_126 ⟨rfl, _, rfl, K⟩
          · exact absurd h13 (by decide)
      · rw [if_pos h11] at K
        refine wp_aload_n 0 dX10_haveMet_85 rfl rfl rfl ?_
        refine wp_getR 10 0 kcX10 kfX10_7 rfl lM_0 (congrArg Prod.fst gM_0) rM_0_0 dX10_haveMet_86 rfl ?_
        refine wp_iload_n 1 dX10_haveMet_89 rfl rfl rfl ?_
        refine wp_iconst (v := 2) dX10_haveMet_90 rfl (by decide) ?_
        refine wp_iadd dX10_haveMet_91 rfl ?_
        refine wp_iload_n 3 dX10_haveMet_92 rfl rfl rfl ?_
        refine wp_iadd dX10_haveMet_93 rfl ?_
        obtain ⟨k14, K⟩ := K
        refine wn_iald lM_1 gM_1 k14 dX10_haveMet_94 rfl ?_
        refine wp_aload_n 0 dX10_haveMet_95 rfl rfl rfl ?_
        refine wp_getR 10 32 kcX10 kfX10_54 rfl lM_0 (congrArg Prod.fst gM_0) rM_0_32 dX10_haveMet_96 rfl ?_
        refine wp_iload_n 2 dX10_haveMet_99 rfl rfl rfl ?_
        obtain ⟨k15, K⟩ := K
        refine wn_iald lM_14 gM_14 k15 dX10_haveMet_100 rfl ?_
        refine wp_icmp_ne 108 dX10_haveMet_101 (by decide) rfl (fun h16 => ?_) (fun h16 => ?_)
        · rw [if_neg h16] at K
          refine wp_iconst (v := 0) dX10_haveMet_108 rfl (by decide) ?_
          refine wp_istore [1, 2, 3, 4, 5, 0] dX10_haveMet_109 rfl (by decide) rfl ?_
          show WP _ _ _ _ _ _ _ 111 [(0, .ref 0), (1, .int x1), (2, .int x2), (3, .int x3), (4, .int s0), (5, .int 0)] _ _ _
          refine wp_iload 4 dX10_haveMet_111 rfl rfl ?_
          refine wp_if_ne 121 dX10_haveMet_113 (by decide) rfl (fun h17 => ?_) (fun h17 => ?_)
          · rw [if_neg h17] at K
            refine wp_iconst (v := 1) dX10_haveMet_121 rfl (by decide) ?_
            refine wp_goto 126 dX10_haveMet_122 (by decide) ?_
            exact wp_ret .boolean rfl rfl (Nat.le_refl 0) (Nat.le_refl 0) dX10_haveMet_126 ⟨rfl, _, rfl, K⟩
          · rw [if_pos h17] at K
            refine wp_iload 5 dX10_haveMet_116 rfl rfl ?_
            refine wp_if_eq 125 dX10_haveMet_118 (by decide) rfl (fun h18 => ?_) (fun h18 => ?_)
            · refine wp_iconst (v := 0) dX10_haveMet_125 rfl (by decide) ?_
              exact wp_ret .boolean rfl rfl (Nat.le_refl 0) (Nat.le_refl 0) dX10_haveMet_126 ⟨rfl, _, rfl, K⟩
            · exact absurd h18 (by decide)
        · rw [if_pos h16] at K
          refine wp_iconst (v := 1) dX10_haveMet_104 rfl (by decide) ?_
          refine wp_goto 109 dX10_haveMet_105 (by decide) ?_
          refine wp_istore [1, 2, 3, 4, 5, 0] dX10_haveMet_109 rfl (by decide) rfl ?_
          show WP _ _ _ _ _ _ _ 111 [(0, .ref 0), (1, .int x1), (2, .int x2), (3, .int x3), (4, .int s0), (5, .int 1)] _ _ _
          refine wp_iload 4 dX10_haveMet_111 rfl rfl ?_
          refine wp_if_ne 121 dX10_haveMet_113 (by decide) rfl (fun h19 => ?_) (fun h19 => ?_)
          · rw [if_neg h19] at K
            refine wp_iconst (v := 1) dX10_haveMet_121 rfl (by decide) ?_
            refine wp_goto 126 dX10_haveMet_122 (by decide) ?_
            exact wp_ret .boolean rfl rfl (Nat.le_refl 0) (Nat.le_refl 0) dX10_haveMet_126 ⟨rfl, _, rfl, K⟩
          · rw [if_pos h19] at K
            refine wp_iload 5 dX10_haveMet_116 rfl rfl ?_
            refine wp_if_eq 125 dX10_haveMet_118 (by decide) rfl (fun h20 => ?_) (fun h20 => ?_)
            · exact absurd h20 (by decide)
            · refine wp_iconst (v := 1) dX10_haveMet_121 rfl (by decide) ?_
              refine wp_goto 126 dX10_haveMet_122 (by decide) ?_
              exact wp_ret .boolean rfl rfl (Nat.le_refl 0) (Nat.le_refl 0) dX10_haveMet_126 ⟨rfl, _, rfl, K⟩
theorem bX10_spills_0 {E : tp_E} {d : Nat} {Q : tp_M → Prop} {σ : tp_M}   (x1 : Int32) (x2 : Int32) (K : Ci E TM yX10_onTray iX10_onTray d [.ref 0, .int x1, .int x2] σ (fun v2 σ1 => Wv E TM iX10_spills (d + 1) Q 13 [(0, .ref 0), (1, .int x1), (3, .int v2), (4, .int (-1)), (5, .int 0)] [] σ1)) : Wv E TM iX10_spills (d + 1) Q 0 [(0, .ref 0), (1, .int x1), (2, .int x2)] [] σ := by
  refine wp_aload_n 0 dX10_spills_0 rfl rfl rfl ?_
  refine wp_iload_n 1 dX10_spills_1 rfl rfl rfl ?_
  refine wp_iload_n 2 dX10_spills_2 rfl rfl rfl ?_
  refine wn_callVi (As := [.int x1, .int x2]) (rest := []) 10 kmX10_223 (by decide) rfl rfl (Nat.le_of_ble_eq_true rfl) lM_0 (congrArg Prod.fst gM_0) dX10_spills_3 rfl ?_
  refine Ci.mono K (fun v2 σ1 K => ?_)
  refine wp_istore_n [1, 2, 3, 0] dX10_spills_6 rfl rfl (by decide) rfl ?_
  show WP _ _ _ _ _ _ _ 7 [(0, .ref 0), (1, .int x1), (2, .int x2), (3, .int v2)] _ _ _
  refine wp_iconst (v := (-1)) dX10_spills_7 rfl (by decide) ?_
  refine wp_istore [1, 2, 3, 4, 0] dX10_spills_8 rfl (by decide) rfl ?_
  show WP _ _ _ _ _ _ _ 10 [(0, .ref 0), (1, .int x1), (2, .int x2), (3, .int v2), (4, .int (-1))] _ _ _
  refine wp_iconst (v := 0) dX10_spills_10 rfl (by decide) ?_
  refine wp_istore [1, 2, 3, 4, 5, 0] dX10_spills_11 rfl (by decide) rfl ?_
  show WP _ _ _ _ _ _ _ 13 [(0, .ref 0), (1, .int x1), (2, .int x2), (3, .int v2), (4, .int (-1)), (5, .int 0)] _ _ _
  refine wp_lv [0, 1, 3, 4, 5] rfl ?_
  exact K
theorem eX10_spills {E : tp_E} {d : Nat} {Q : tp_M → Prop} {σ : tp_M}   (x1 : Int32) (x2 : Int32) (K : Ci E TM yX10_onTray iX10_onTray d [.ref 0, .int x1, .int x2] σ (fun v2 σ1 => Wv E TM iX10_spills (d + 1) Q 13 [(0, .ref 0), (1, .int x1), (3, .int v2), (4, .int (-1)), (5, .int 0)] [] σ1)) : Cv E TM yX10_spills iX10_spills (d + 1) [.ref 0, .int x1, .int x2] σ Q := Cv.of ⟨by decide +kernel, rfl, rfl⟩ (Nat.le_of_ble_eq_true rfl) (bX10_spills_0  x1 x2 K)
theorem bX10_spills_13 {E : tp_E} {d : Nat} {Q : tp_M → Prop} {σ : tp_M}   (x1 : Int32) (x3 : Int32) (x4 : Int32) (x5 : Int32) (K : if (σ 0 9) ≤ x5 then (if x4 = (-1) then (Q σ) else (vp_in ((x1 + 50) + x4) 1416 ∧ (Q (tp_u σ 1 (Int32.toNatClampNeg ((x1 + 50) + x4)) (-2))))) else (Ci E TM yX10_has iX10_has d [.int x3, .int x5] σ (fun v5 σ4 => if v5 = 0 then (Wv E TM iX10_spills (d + 1) Q 13 [(0, .ref 0), (1, .int x1), (3, .int x3), (4, .int x4), (5, .int (x5 + 1))] [] σ4) else (if x4 = (-1) then (Wv E TM iX10_spills (d + 1) Q 13 [(0, .ref 0), (1, .int x1), (3, .int x3), (4, .int x5), (5, .int (x5 + 1))] [] σ4) else (vp_in x5 8 ∧ (vp_in x4 8 ∧ (if (σ4 5 (Int32.toNatClampNeg x5)) ≤ (σ4 5 (Int32.toNatClampNeg x4)) then (Wv E TM iX10_spills (d + 1) Q 13 [(0, .ref 0), (1, .int x1), (3, .int x3), (4, .int x4), (5, .int (x5 + 1))] [] σ4) else (Wv E TM iX10_spills (d + 1) Q 13 [(0, .ref 0), (1, .int x1), (3, .int x3), (4, .int x5), (5, .int (x5 + 1))] [] σ4)))))))) : Wv E TM iX10_spills (d + 1) Q 13 [(0, .ref 0), (1, .int x1), (3, .int x3), (4, .int x4), (5, .int x5)] [] σ := by
  refine wp_iload 4 dX10_spills_13 rfl rfl ?_
  refine wp_aload_n 0 dX10_spills_15 rfl rfl rfl ?_
  refine wp_getI 10 9 kcX10 kfX10_104 rfl lM_0 (congrArg Prod.fst gM_0) dX10_spills_16 rfl ?_
  refine wp_icmp_ge 69 dX10_spills_19 (by decide) rfl (fun h1 => ?_) (fun h1 => ?_)
  · rw [if_pos h1] at K
    refine wp_iload 3 dX10_spills_69 rfl rfl ?_
    refine wp_iconst (v := (-1)) dX10_spills_71 rfl (by decide) ?_
    refine wp_icmp_eq 89 dX10_spills_72 (by decide) rfl (fun h2 => ?_) (fun h2 => ?_)
    · rw [if_pos h2] at K
      exact wp_vret rfl (Nat.le_refl 0) (Nat.le_refl 0) dX10_spills_89 ⟨rfl, rfl, K⟩
    · rw [if_neg h2] at K
      refine wp_aload_n 0 dX10_spills_75 rfl rfl rfl ?_
      refine wp_getR 10 0 kcX10 kfX10_7 rfl lM_0 (congrArg Prod.fst gM_0) rM_0_0 dX10_spills_76 rfl ?_
      refine wp_iload_n 1 dX10_spills_79 rfl rfl rfl ?_
      refine wp_bipush (v := 50) dX10_spills_80 rfl (by decide) ?_
      refine wp_iadd dX10_spills_82 rfl ?_
      refine wp_iload 3 dX10_spills_83 rfl rfl ?_
      refine wp_iadd dX10_spills_85 rfl ?_
      refine wp_bipush (v := (-2)) dX10_spills_86 rfl (by decide) ?_
      obtain ⟨k3, K⟩ := K
      refine wn_iast lM_1 gM_1 k3 dX10_spills_88 rfl ?_
      exact wp_vret rfl (Nat.le_refl 0) (Nat.le_refl 0) dX10_spills_89 ⟨rfl, rfl, K⟩
  · rw [if_neg h1] at K
    refine wp_iload_n 2 dX10_spills_22 rfl rfl rfl ?_
    refine wp_iload 4 dX10_spills_23 rfl rfl ?_
    refine wn_callSi (As := [.int x3, .int x5]) (rest := []) kmX10_151 (by decide) rfl rfl (Nat.le_of_ble_eq_true rfl) dX10_spills_25 rfl ?_
    refine Ci.mono K (fun v5 σ4 K => ?_)
    refine wp_if_eq 59 dX10_spills_28 (by decide) rfl (fun h6 => ?_) (fun h6 => ?_)
    · rw [if_pos h6] at K
      refine wp_iload 3 dX10_spills_59 rfl rfl ?_
      refine wp_istore [1, 2, 3, 0, 4] dX10_spills_61 rfl (by decide) rfl ?_
      show WP _ _ _ _ _ _ _ 63 [(0, .ref 0), (1, .int x1), (3, .int x3), (4, .int x4), (5, .int x5)] _ _ _
      refine wp_iinc (v := x5 + 1) 4 [1, 2, 3, 4, 0] dX10_spills_63 rfl (by decide) rfl rfl rfl ?_
      show WP _ _ _ _ _ _ _ 66 [(0, .ref 0), (1, .int x1), (3, .int x3), (4, .int x4), (5, .int (x5 + 1))] _ _ _
      refine wp_goto 13 dX10_spills_66 (by decide) ?_
      exact K
    · rw [if_neg h6] at K
      refine wp_iload 3 dX10_spills_31 rfl rfl ?_
      refine wp_iconst (v := (-1)) dX10_spills_33 rfl (by decide) ?_
      refine wp_icmp_eq 54 dX10_spills_34 (by decide) rfl (fun h7 => ?_) (fun h7 => ?_)
      · rw [if_pos h7] at K
        refine wp_iload 4 dX10_spills_54 rfl rfl ?_
        refine wp_goto 61 dX10_spills_56 (by decide) ?_
        refine wp_istore [1, 2, 3, 0, 4] dX10_spills_61 rfl (by decide) rfl ?_
        show WP _ _ _ _ _ _ _ 63 [(0, .ref 0), (1, .int x1), (3, .int x3), (4, .int x5), (5, .int x5)] _ _ _
        refine wp_iinc (v := x5 + 1) 4 [1, 2, 3, 4, 0] dX10_spills_63 rfl (by decide) rfl rfl rfl ?_
        show WP _ _ _ _ _ _ _ 66 [(0, .ref 0), (1, .int x1), (3, .int x3), (4, .int x5), (5, .int (x5 + 1))] _ _ _
        refine wp_goto 13 dX10_spills_66 (by decide) ?_
        exact K
      · rw [if_neg h7] at K
        refine wp_aload_n 0 dX10_spills_37 rfl rfl rfl ?_
        refine wp_getR 10 10 kcX10 kfX10_23 rfl lM_0 (congrArg Prod.fst gM_0) rM_0_10 dX10_spills_38 rfl ?_
        refine wp_iload 4 dX10_spills_41 rfl rfl ?_
        obtain ⟨k8, K⟩ := K
        refine wn_iald lM_5 gM_5 k8 dX10_spills_43 rfl ?_
        refine wp_aload_n 0 dX10_spills_44 rfl rfl rfl ?_
        refine wp_getR 10 10 kcX10 kfX10_23 rfl lM_0 (congrArg Prod.fst gM_0) rM_0_10 dX10_spills_45 rfl ?_
        refine wp_iload 3 dX10_spills_48 rfl rfl ?_
        obtain ⟨k9, K⟩ := K
        refine wn_iald lM_5 gM_5 k9 dX10_spills_50 rfl ?_
        refine wp_icmp_le 59 dX10_spills_51 (by decide) rfl (fun h10 => ?_) (fun h10 => ?_)
        · rw [if_pos h10] at K
          refine wp_iload 3 dX10_spills_59 rfl rfl ?_
          refine wp_istore [1, 2, 3, 0, 4] dX10_spills_61 rfl (by decide) rfl ?_
          show WP _ _ _ _ _ _ _ 63 [(0, .ref 0), (1, .int x1), (3, .int x3), (4, .int x4), (5, .int x5)] _ _ _
          refine wp_iinc (v := x5 + 1) 4 [1, 2, 3, 4, 0] dX10_spills_63 rfl (by decide) rfl rfl rfl ?_
          show WP _ _ _ _ _ _ _ 66 [(0, .ref 0), (1, .int x1), (3, .int x3), (4, .int x4), (5, .int (x5 + 1))] _ _ _
          refine wp_goto 13 dX10_spills_66 (by decide) ?_
          exact K
        · rw [if_neg h10] at K
          refine wp_iload 4 dX10_spills_54 rfl rfl ?_
          refine wp_goto 61 dX10_spills_56 (by decide) ?_
          refine wp_istore [1, 2, 3, 0, 4] dX10_spills_61 rfl (by decide) rfl ?_
          show WP _ _ _ _ _ _ _ 63 [(0, .ref 0), (1, .int x1), (3, .int x3), (4, .int x5), (5, .int x5)] _ _ _
          refine wp_iinc (v := x5 + 1) 4 [1, 2, 3, 4, 0] dX10_spills_63 rfl (by decide) rfl rfl rfl ?_
          show WP _ _ _ _ _ _ _ 66 [(0, .ref 0), (1, .int x1), (3, .int x3), (4, .int x5), (5, .int (x5 + 1))] _ _ _
          refine wp_goto 13 dX10_spills_66 (by decide) ?_
          exact K
theorem bX10_route_0 {E : tp_E} {d : Nat} {Q : Int32 → tp_M → Prop} {σ : tp_M}   (x1 : Int32) (x2 : Int32) (K : Ci E TM yX10_isWaiter iX10_isWaiter d [.ref 0, .int x1] σ (fun v2 σ1 => if v2 = 0 then (Q (-1000000001) σ1) else (Ci E TM yX10_in iX10_in d [.long (Int32.toInt64 x2), .long 0, .long 999999999] σ1 (fun v5 σ4 => if v5 = 0 then (Q (-1000000002) σ4) else (Wi E TM iX10_route (d + 1) Q 31 [(0, .ref 0), (1, .int x1), (2, .int x2), (3, .int 0), (4, .int x2)] [] σ4))))) : Wi E TM iX10_route (d + 1) Q 0 [(0, .ref 0), (1, .int x1), (2, .int x2)] [] σ := by
  refine wp_aload_n 0 dX10_route_0 rfl rfl rfl ?_
  refine wp_iload_n 1 dX10_route_1 rfl rfl rfl ?_
  refine wn_callVi (As := [.int x1]) (rest := []) 10 kmX10_100 (by decide) rfl rfl (Nat.le_of_ble_eq_true rfl) lM_0 (congrArg Prod.fst gM_0) dX10_route_2 rfl ?_
  refine Ci.mono K (fun v2 σ1 K => ?_)
  refine wp_if_ne 11 dX10_route_5 (by decide) rfl (fun h3 => ?_) (fun h3 => ?_)
  · rw [if_neg h3] at K
    refine wp_iload_n 2 dX10_route_11 rfl rfl rfl ?_
    refine wp_i2l dX10_route_12 rfl ?_
    refine wp_lconst (v := 0) dX10_route_13 rfl (by decide) ?_
    refine wp_ldc2 dX10_route_14 rfl tw_1262 ?_
    refine wn_callSi (As := [.long (Int32.toInt64 x2), .long 0, .long 999999999]) (rest := []) kmX10_93 (by decide) rfl rfl (Nat.le_of_ble_eq_true rfl) dX10_route_17 rfl ?_
    refine Ci.mono K (fun v5 σ4 K => ?_)
    refine wp_if_ne 26 dX10_route_20 (by decide) rfl (fun h6 => ?_) (fun h6 => ?_)
    · rw [if_neg h6] at K
      refine wp_iconst (v := 0) dX10_route_26 rfl (by decide) ?_
      refine wp_istore_n [1, 2, 3, 0] dX10_route_27 rfl rfl (by decide) rfl ?_
      show WP _ _ _ _ _ _ _ 28 [(0, .ref 0), (1, .int x1), (2, .int x2), (3, .int 0)] _ _ _
      refine wp_iload_n 2 dX10_route_28 rfl rfl rfl ?_
      refine wp_istore [1, 2, 3, 4, 0] dX10_route_29 rfl (by decide) rfl ?_
      show WP _ _ _ _ _ _ _ 31 [(0, .ref 0), (1, .int x1), (2, .int x2), (3, .int 0), (4, .int x2)] _ _ _
      exact K
    · rw [if_pos h6] at K
      refine wp_ldc dX10_route_23 rfl tw_1108 ?_
      exact wp_ret .int rfl rfl (Nat.le_refl 0) (Nat.le_refl 0) dX10_route_25 ⟨rfl, _, rfl, K⟩
  · rw [if_pos h3] at K
    refine wp_ldc dX10_route_8 rfl tw_1191 ?_
    exact wp_ret .int rfl rfl (Nat.le_refl 0) (Nat.le_refl 0) dX10_route_10 ⟨rfl, _, rfl, K⟩
theorem eX10_route {E : tp_E} {d : Nat} {Q : Int32 → tp_M → Prop} {σ : tp_M}   (x1 : Int32) (x2 : Int32) (K : Ci E TM yX10_isWaiter iX10_isWaiter d [.ref 0, .int x1] σ (fun v2 σ1 => if v2 = 0 then (Q (-1000000001) σ1) else (Ci E TM yX10_in iX10_in d [.long (Int32.toInt64 x2), .long 0, .long 999999999] σ1 (fun v5 σ4 => if v5 = 0 then (Q (-1000000002) σ4) else (Wi E TM iX10_route (d + 1) Q 31 [(0, .ref 0), (1, .int x1), (2, .int x2), (3, .int 0), (4, .int x2)] [] σ4))))) : Ci E TM yX10_route iX10_route (d + 1) [.ref 0, .int x1, .int x2] σ Q := Ci.of ⟨by decide +kernel, rfl, rfl⟩ (Nat.le_of_ble_eq_true rfl) (bX10_route_0  x1 x2 K)
theorem bX10_route_31 {E : tp_E} {d : Nat} {Q : Int32 → tp_M → Prop} {σ : tp_M}   (x1 : Int32) (x2 : Int32) (x3 : Int32) (x4 : Int32) (K : if x4 ≤ 0 then (Wi E TM iX10_route (d + 1) Q 57 [(0, .ref 0), (1, .int x1), (3, .int x3), (4, .int x2), (5, .int (x3 - 1))] [] σ) else (Wi E TM iX10_route (d + 1) Q 31 [(0, .ref 0), (1, .int x1), (2, .int x2), (3, .int (x3 + 1)), (4, .int (x4 / 10))] [] σ)) : Wi E TM iX10_route (d + 1) Q 31 [(0, .ref 0), (1, .int x1), (2, .int x2), (3, .int x3), (4, .int x4)] [] σ := by
  refine wp_iload 4 dX10_route_31 rfl rfl ?_
  refine wp_if_le 49 dX10_route_33 (by decide) rfl (fun h1 => ?_) (fun h1 => ?_)
  · rw [if_pos h1] at K
    refine wp_iload_n 2 dX10_route_49 rfl rfl rfl ?_
    refine wp_istore [1, 2, 3, 4, 0] dX10_route_50 rfl (by decide) rfl ?_
    show WP _ _ _ _ _ _ _ 52 [(0, .ref 0), (1, .int x1), (2, .int x2), (3, .int x3), (4, .int x2)] _ _ _
    refine wp_iload_n 3 dX10_route_52 rfl rfl rfl ?_
    refine wp_iconst (v := 1) dX10_route_53 rfl (by decide) ?_
    refine wp_isub dX10_route_54 rfl ?_
    refine wp_istore [1, 2, 3, 4, 5, 0] dX10_route_55 rfl (by decide) rfl ?_
    show WP _ _ _ _ _ _ _ 57 [(0, .ref 0), (1, .int x1), (2, .int x2), (3, .int x3), (4, .int x2), (5, .int (x3 - 1))] _ _ _
    refine wp_lv [0, 1, 3, 4, 5] rfl ?_
    exact K
  · rw [if_neg h1] at K
    refine wp_iinc (v := x3 + 1) 3 [1, 2, 3, 0, 4] dX10_route_36 rfl (by decide) rfl rfl rfl ?_
    show WP _ _ _ _ _ _ _ 39 [(0, .ref 0), (1, .int x1), (2, .int x2), (3, .int (x3 + 1)), (4, .int x4)] _ _ _
    refine wp_iload 4 dX10_route_39 rfl rfl ?_
    refine wp_bipush (v := 10) dX10_route_41 rfl (by decide) ?_
    refine wp_idiv dX10_route_43 rfl (by decide) ?_
    refine wp_istore [1, 2, 3, 4, 0] dX10_route_44 rfl (by decide) rfl ?_
    show WP _ _ _ _ _ _ _ 46 [(0, .ref 0), (1, .int x1), (2, .int x2), (3, .int (x3 + 1)), (4, .int (x4 / 10))] _ _ _
    refine wp_goto 31 dX10_route_46 (by decide) ?_
    exact K
theorem bX10_route_57 {E : tp_E} {d : Nat} {Q : Int32 → tp_M → Prop} {σ : tp_M}   (x1 : Int32) (x3 : Int32) (x4 : Int32) (x5 : Int32) (K : if x5 < 0 then (vp_in (2 + x1) 1416 ∧ (Wi E TM iX10_route (d + 1) Q 119 [(0, .ref 0), (1, .int x1), (3, .int x3), (5, .int (σ 1 (Int32.toNatClampNeg (2 + x1)))), (6, .int 0)] [] σ)) else (vp_in x5 9 ∧ (vp_in x5 9 ∧ (Ci E TM yX10_isRoom iX10_isRoom d [.ref 0, .int ((tp_u σ 16 (Int32.toNatClampNeg x5) ((x4 - x4 / 10 * 10) - 1)) 16 (Int32.toNatClampNeg x5))] (tp_u σ 16 (Int32.toNatClampNeg x5) ((x4 - x4 / 10 * 10) - 1)) (fun v6 σ5 => if v6 = 0 then (Q (-1000000002) σ5) else (Wi E TM iX10_route (d + 1) Q 57 [(0, .ref 0), (1, .int x1), (3, .int x3), (4, .int (x4 / 10)), (5, .int (x5 + (-1)))] [] σ5)))))) : Wi E TM iX10_route (d + 1) Q 57 [(0, .ref 0), (1, .int x1), (3, .int x3), (4, .int x4), (5, .int x5)] [] σ := by
  refine wp_iload 4 dX10_route_57 rfl rfl ?_
  refine wp_if_lt 106 dX10_route_59 (by decide) rfl (fun h1 => ?_) (fun h1 => ?_)
  · rw [if_pos h1] at K
    refine wp_aload_n 0 dX10_route_106 rfl rfl rfl ?_
    refine wp_getR 10 0 kcX10 kfX10_7 rfl lM_0 (congrArg Prod.fst gM_0) rM_0_0 dX10_route_107 rfl ?_
    refine wp_iconst (v := 2) dX10_route_110 rfl (by decide) ?_
    refine wp_iload_n 1 dX10_route_111 rfl rfl rfl ?_
    refine wp_iadd dX10_route_112 rfl ?_
    obtain ⟨k2, K⟩ := K
    refine wn_iald lM_1 gM_1 k2 dX10_route_113 rfl ?_
    refine wp_istore [1, 2, 3, 4, 0] dX10_route_114 rfl (by decide) rfl ?_
    show WP _ _ _ _ _ _ _ 116 [(0, .ref 0), (1, .int x1), (3, .int x3), (4, .int x4), (5, .int (σ 1 (Int32.toNatClampNeg (2 + x1))))] _ _ _
    refine wp_iconst (v := 0) dX10_route_116 rfl (by decide) ?_
    refine wp_istore [1, 2, 3, 4, 5, 0] dX10_route_117 rfl (by decide) rfl ?_
    show WP _ _ _ _ _ _ _ 119 [(0, .ref 0), (1, .int x1), (3, .int x3), (4, .int x4), (5, .int (σ 1 (Int32.toNatClampNeg (2 + x1)))), (6, .int 0)] _ _ _
    refine wp_lv [0, 1, 2, 4, 5] rfl ?_
    exact K
  · rw [if_neg h1] at K
    refine wp_aload_n 0 dX10_route_62 rfl rfl rfl ?_
    refine wp_getR 10 34 kcX10 kfX10_60 rfl lM_0 (congrArg Prod.fst gM_0) rM_0_34 dX10_route_63 rfl ?_
    refine wp_iload 4 dX10_route_66 rfl rfl ?_
    refine wp_iload 3 dX10_route_68 rfl rfl ?_
    refine wp_bipush (v := 10) dX10_route_70 rfl (by decide) ?_
    refine wp_irem dX10_route_72 rfl (by decide) ?_
    refine wp_iconst (v := 1) dX10_route_73 rfl (by decide) ?_
    refine wp_isub dX10_route_74 rfl ?_
    obtain ⟨k3, K⟩ := K
    refine wn_iast lM_16 gM_16 k3 dX10_route_75 rfl ?_
    refine wp_iload 3 dX10_route_76 rfl rfl ?_
    refine wp_bipush (v := 10) dX10_route_78 rfl (by decide) ?_
    refine wp_idiv dX10_route_80 rfl (by decide) ?_
    refine wp_istore [1, 2, 3, 0, 4] dX10_route_81 rfl (by decide) rfl ?_
    show WP _ _ _ _ _ _ _ 83 [(0, .ref 0), (1, .int x1), (3, .int x3), (4, .int (x4 / 10)), (5, .int x5)] _ _ _
    refine wp_aload_n 0 dX10_route_83 rfl rfl rfl ?_
    refine wp_aload_n 0 dX10_route_84 rfl rfl rfl ?_
    refine wp_getR 10 34 kcX10 kfX10_60 rfl lM_0 (congrArg Prod.fst gM_0) rM_0_34 dX10_route_85 rfl ?_
    refine wp_iload 4 dX10_route_88 rfl rfl ?_
    obtain ⟨k4, K⟩ := K
    refine wn_iald lM_16 gM_16 k4 dX10_route_90 rfl ?_
    refine wn_callVi (As := [.int ((tp_u σ 16 (Int32.toNatClampNeg x5) ((x4 - x4 / 10 * 10) - 1)) 16 (Int32.toNatClampNeg x5))]) (rest := []) 10 kmX10_216 (by decide) rfl rfl (Nat.le_of_ble_eq_true rfl) lM_0 (congrArg Prod.fst gM_0) dX10_route_91 rfl ?_
    refine Ci.mono K (fun v6 σ5 K => ?_)
    refine wp_if_ne 100 dX10_route_94 (by decide) rfl (fun h7 => ?_) (fun h7 => ?_)
    · rw [if_neg h7] at K
      refine wp_iinc (v := x5 + (-1)) 4 [1, 2, 3, 4, 0] dX10_route_100 rfl (by decide) rfl rfl rfl ?_
      show WP _ _ _ _ _ _ _ 103 [(0, .ref 0), (1, .int x1), (3, .int x3), (4, .int (x4 / 10)), (5, .int (x5 + (-1)))] _ _ _
      refine wp_goto 57 dX10_route_103 (by decide) ?_
      exact K
    · rw [if_pos h7] at K
      refine wp_ldc dX10_route_97 rfl tw_1108 ?_
      exact wp_ret .int rfl rfl (Nat.le_refl 0) (Nat.le_refl 0) dX10_route_99 ⟨rfl, _, rfl, K⟩
theorem bX10_route_119 {E : tp_E} {d : Nat} {Q : Int32 → tp_M → Prop} {σ : tp_M}   (x1 : Int32) (x3 : Int32) (x5 : Int32) (x6 : Int32) (K : if x3 ≤ x6 then (Cv E TM yX10_minds iX10_minds d [.ref 0] σ (fun σ2 => Wi E TM iX10_route (d + 1) Q 170 [(0, .ref 0), (1, .int x1), (3, .int x3), (6, .int 0)] [] σ2)) else (vp_in x5 8 ∧ (vp_in x6 9 ∧ (Ci E TM yX10_has iX10_has d [.int (σ 3 (Int32.toNatClampNeg x5)), .int (σ 16 (Int32.toNatClampNeg x6))] σ (fun v6 σ5 => if v6 = 0 then (Q (-1000000003) σ5) else (vp_in x6 9 ∧ (Wi E TM iX10_route (d + 1) Q 119 [(0, .ref 0), (1, .int x1), (3, .int x3), (5, .int (σ5 16 (Int32.toNatClampNeg x6))), (6, .int (x6 + 1))] [] σ5))))))) : Wi E TM iX10_route (d + 1) Q 119 [(0, .ref 0), (1, .int x1), (3, .int x3), (5, .int x5), (6, .int x6)] [] σ := by
  refine wp_iload 4 dX10_route_119 rfl rfl ?_
  refine wp_iload_n 2 dX10_route_121 rfl rfl rfl ?_
  refine wp_icmp_ge 163 dX10_route_122 (by decide) rfl (fun h1 => ?_) (fun h1 => ?_)
  · rw [if_pos h1] at K
    refine wp_aload_n 0 dX10_route_163 rfl rfl rfl ?_
    refine wn_callVv (As := []) (rest := []) 10 kmX10_252 (by decide) rfl rfl (Nat.le_of_ble_eq_true rfl) lM_0 (congrArg Prod.fst gM_0) dX10_route_164 rfl ?_
    refine Cv.mono K (fun σ2 K => ?_)
    refine wp_iconst (v := 0) dX10_route_167 rfl (by decide) ?_
    refine wp_istore [1, 2, 3, 4, 0] dX10_route_168 rfl (by decide) rfl ?_
    show WP _ _ _ _ _ _ _ 170 [(0, .ref 0), (1, .int x1), (3, .int x3), (5, .int x5), (6, .int 0)] _ _ _
    refine wp_lv [0, 1, 2, 4] rfl ?_
    exact K
  · rw [if_neg h1] at K
    refine wp_aload_n 0 dX10_route_125 rfl rfl rfl ?_
    refine wp_getR 10 6 kcX10 kfX10_17 rfl lM_0 (congrArg Prod.fst gM_0) rM_0_6 dX10_route_126 rfl ?_
    refine wp_iload 3 dX10_route_129 rfl rfl ?_
    obtain ⟨k3, K⟩ := K
    refine wn_iald lM_3 gM_3 k3 dX10_route_131 rfl ?_
    refine wp_aload_n 0 dX10_route_132 rfl rfl rfl ?_
    refine wp_getR 10 34 kcX10 kfX10_60 rfl lM_0 (congrArg Prod.fst gM_0) rM_0_34 dX10_route_133 rfl ?_
    refine wp_iload 4 dX10_route_136 rfl rfl ?_
    obtain ⟨k4, K⟩ := K
    refine wn_iald lM_16 gM_16 k4 dX10_route_138 rfl ?_
    refine wn_callSi (As := [.int (σ 3 (Int32.toNatClampNeg x5)), .int (σ 16 (Int32.toNatClampNeg x6))]) (rest := []) kmX10_151 (by decide) rfl rfl (Nat.le_of_ble_eq_true rfl) dX10_route_139 rfl ?_
    refine Ci.mono K (fun v6 σ5 K => ?_)
    refine wp_if_ne 148 dX10_route_142 (by decide) rfl (fun h7 => ?_) (fun h7 => ?_)
    · rw [if_neg h7] at K
      refine wp_aload_n 0 dX10_route_148 rfl rfl rfl ?_
      refine wp_getR 10 34 kcX10 kfX10_60 rfl lM_0 (congrArg Prod.fst gM_0) rM_0_34 dX10_route_149 rfl ?_
      refine wp_iload 4 dX10_route_152 rfl rfl ?_
      obtain ⟨k8, K⟩ := K
      refine wn_iald lM_16 gM_16 k8 dX10_route_154 rfl ?_
      refine wp_istore [1, 2, 3, 0, 4] dX10_route_155 rfl (by decide) rfl ?_
      show WP _ _ _ _ _ _ _ 157 [(0, .ref 0), (1, .int x1), (3, .int x3), (5, .int (σ5 16 (Int32.toNatClampNeg x6))), (6, .int x6)] _ _ _
      refine wp_iinc (v := x6 + 1) 4 [1, 2, 3, 4, 0] dX10_route_157 rfl (by decide) rfl rfl rfl ?_
      show WP _ _ _ _ _ _ _ 160 [(0, .ref 0), (1, .int x1), (3, .int x3), (5, .int (σ5 16 (Int32.toNatClampNeg x6))), (6, .int (x6 + 1))] _ _ _
      refine wp_goto 119 dX10_route_160 (by decide) ?_
      exact K
    · rw [if_pos h7] at K
      refine wp_ldc dX10_route_145 rfl tw_1228 ?_
      exact wp_ret .int rfl rfl (Nat.le_refl 0) (Nat.le_refl 0) dX10_route_147 ⟨rfl, _, rfl, K⟩
theorem bX10_route_170 {E : tp_E} {d : Nat} {Q : Int32 → tp_M → Prop} {σ : tp_M}   (x1 : Int32) (x3 : Int32) (x6 : Int32) (K : if x3 ≤ x6 then (vp_in (6 + x1) 1416 ∧ (Q x3 (tp_u σ 1 (Int32.toNatClampNeg (6 + x1)) x3))) else (vp_in x6 9 ∧ (vp_in ((10 + (9 * x1)) + x6) 1416 ∧ (Wi E TM iX10_route (d + 1) Q 170 [(0, .ref 0), (1, .int x1), (3, .int x3), (6, .int (x6 + 1))] [] (tp_u σ 1 (Int32.toNatClampNeg ((10 + (9 * x1)) + x6)) (σ 16 (Int32.toNatClampNeg x6))))))) : Wi E TM iX10_route (d + 1) Q 170 [(0, .ref 0), (1, .int x1), (3, .int x3), (6, .int x6)] [] σ := by
  refine wp_iload 3 dX10_route_170 rfl rfl ?_
  refine wp_iload_n 2 dX10_route_172 rfl rfl rfl ?_
  refine wp_icmp_ge 204 dX10_route_173 (by decide) rfl (fun h1 => ?_) (fun h1 => ?_)
  · rw [if_pos h1] at K
    refine wp_aload_n 0 dX10_route_204 rfl rfl rfl ?_
    refine wp_getR 10 0 kcX10 kfX10_7 rfl lM_0 (congrArg Prod.fst gM_0) rM_0_0 dX10_route_205 rfl ?_
    refine wp_bipush (v := 6) dX10_route_208 rfl (by decide) ?_
    refine wp_iload_n 1 dX10_route_210 rfl rfl rfl ?_
    refine wp_iadd dX10_route_211 rfl ?_
    refine wp_iload_n 2 dX10_route_212 rfl rfl rfl ?_
    obtain ⟨k2, K⟩ := K
    refine wn_iast lM_1 gM_1 k2 dX10_route_213 rfl ?_
    refine wp_iload_n 2 dX10_route_214 rfl rfl rfl ?_
    exact wp_ret .int rfl rfl (Nat.le_refl 0) (Nat.le_refl 0) dX10_route_215 ⟨rfl, _, rfl, K⟩
  · rw [if_neg h1] at K
    refine wp_aload_n 0 dX10_route_176 rfl rfl rfl ?_
    refine wp_getR 10 0 kcX10 kfX10_7 rfl lM_0 (congrArg Prod.fst gM_0) rM_0_0 dX10_route_177 rfl ?_
    refine wp_bipush (v := 10) dX10_route_180 rfl (by decide) ?_
    refine wp_bipush (v := 9) dX10_route_182 rfl (by decide) ?_
    refine wp_iload_n 1 dX10_route_184 rfl rfl rfl ?_
    refine wp_imul dX10_route_185 rfl ?_
    refine wp_iadd dX10_route_186 rfl ?_
    refine wp_iload 3 dX10_route_187 rfl rfl ?_
    refine wp_iadd dX10_route_189 rfl ?_
    refine wp_aload_n 0 dX10_route_190 rfl rfl rfl ?_
    refine wp_getR 10 34 kcX10 kfX10_60 rfl lM_0 (congrArg Prod.fst gM_0) rM_0_34 dX10_route_191 rfl ?_
    refine wp_iload 3 dX10_route_194 rfl rfl ?_
    obtain ⟨k3, K⟩ := K
    refine wn_iald lM_16 gM_16 k3 dX10_route_196 rfl ?_
    obtain ⟨k4, K⟩ := K
    refine wn_iast lM_1 gM_1 k4 dX10_route_197 rfl ?_
    refine wp_iinc (v := x6 + 1) 3 [1, 2, 3, 0] dX10_route_198 rfl (by decide) rfl rfl rfl ?_
    show WP _ _ _ _ _ _ _ 201 [(0, .ref 0), (1, .int x1), (3, .int x3), (6, .int (x6 + 1))] _ _ _
    refine wp_goto 170 dX10_route_201 (by decide) ?_
    exact K
theorem bX10_lay_0 {E : tp_E} {d : Nat} {Q : Int32 → tp_M → Prop} {σ : tp_M}   (x1 : Int32) (x2 : Int32) (x3 : Int32) (K : Ci E TM yX10_isThing iX10_isThing d [.ref 0, .int x1] σ (fun v2 σ1 => if v2 = 0 then (Q (-1000000001) σ1) else (Ci E TM yX10_isWaiter iX10_isWaiter d [.ref 0, .int x2] σ1 (fun v5 σ4 => if v5 = 0 then (Q (-1000000001) σ4) else (Ci E TM yX10_in iX10_in d [.long (Int32.toInt64 x3), .long 0, .long 1] σ4 (fun v8 σ7 => if v8 = 0 then (Q (-1000000002) σ7) else (Ci E TM yX10_whose iX10_whose d [.ref 0, .int x1] σ7 (fun v11 σ10 => vp_in (50 + x1) 1416 ∧ (if (σ10 1 (Int32.toNatClampNeg (50 + x1))) = (-1) then (Wi E TM iX10_lay (d + 1) Q 89 [(0, .ref 0), (1, .int x1), (2, .int x2), (3, .int x3)] [.int 1] σ10) else (if v11 = (-1) then (Wi E TM iX10_lay (d + 1) Q 89 [(0, .ref 0), (1, .int x1), (2, .int x2), (3, .int x3)] [.int 0] σ10) else (if v11 = x2 then (Wi E TM iX10_lay (d + 1) Q 89 [(0, .ref 0), (1, .int x1), (2, .int x2), (3, .int x3)] [.int 0] σ10) else (vp_in (2 + v11) 1416 ∧ (vp_in (2 + x2) 1416 ∧ (if (σ10 1 (Int32.toNatClampNeg (2 + v11))) = (σ10 1 (Int32.toNatClampNeg (2 + x2))) then (Wi E TM iX10_lay (d + 1) Q 89 [(0, .ref 0), (1, .int x1), (2, .int x2), (3, .int x3)] [.int 1] σ10) else (Wi E TM iX10_lay (d + 1) Q 89 [(0, .ref 0), (1, .int x1), (2, .int x2), (3, .int x3)] [.int 0] σ10))))))))))))))) : Wi E TM iX10_lay (d + 1) Q 0 [(0, .ref 0), (1, .int x1), (2, .int x2), (3, .int x3)] [] σ := by
  refine wp_aload_n 0 dX10_lay_0 rfl rfl rfl ?_
  refine wp_iload_n 1 dX10_lay_1 rfl rfl rfl ?_
  refine wn_callVi (As := [.int x1]) (rest := []) 10 kmX10_229 (by decide) rfl rfl (Nat.le_of_ble_eq_true rfl) lM_0 (congrArg Prod.fst gM_0) dX10_lay_2 rfl ?_
  refine Ci.mono K (fun v2 σ1 K => ?_)
  refine wp_if_eq 16 dX10_lay_5 (by decide) rfl (fun h3 => ?_) (fun h3 => ?_)
  · rw [if_pos h3] at K
    refine wp_ldc dX10_lay_16 rfl tw_1191 ?_
    exact wp_ret .int rfl rfl (Nat.le_refl 0) (Nat.le_refl 0) dX10_lay_18 ⟨rfl, _, rfl, K⟩
  · rw [if_neg h3] at K
    refine wp_aload_n 0 dX10_lay_8 rfl rfl rfl ?_
    refine wp_iload_n 2 dX10_lay_9 rfl rfl rfl ?_
    refine wn_callVi (As := [.int x2]) (rest := []) 10 kmX10_100 (by decide) rfl rfl (Nat.le_of_ble_eq_true rfl) lM_0 (congrArg Prod.fst gM_0) dX10_lay_10 rfl ?_
    refine Ci.mono K (fun v5 σ4 K => ?_)
    refine wp_if_ne 19 dX10_lay_13 (by decide) rfl (fun h6 => ?_) (fun h6 => ?_)
    · rw [if_neg h6] at K
      refine wp_iload_n 3 dX10_lay_19 rfl rfl rfl ?_
      refine wp_i2l dX10_lay_20 rfl ?_
      refine wp_lconst (v := 0) dX10_lay_21 rfl (by decide) ?_
      refine wp_lconst (v := 1) dX10_lay_22 rfl (by decide) ?_
      refine wn_callSi (As := [.long (Int32.toInt64 x3), .long 0, .long 1]) (rest := []) kmX10_93 (by decide) rfl rfl (Nat.le_of_ble_eq_true rfl) dX10_lay_23 rfl ?_
      refine Ci.mono K (fun v8 σ7 K => ?_)
      refine wp_if_ne 32 dX10_lay_26 (by decide) rfl (fun h9 => ?_) (fun h9 => ?_)
      · rw [if_neg h9] at K
        refine wp_aload_n 0 dX10_lay_32 rfl rfl rfl ?_
        refine wp_iload_n 1 dX10_lay_33 rfl rfl rfl ?_
        refine wn_callVi (As := [.int x1]) (rest := []) 10 kmX10_232 (by decide) rfl rfl (Nat.le_of_ble_eq_true rfl) lM_0 (congrArg Prod.fst gM_0) dX10_lay_34 rfl ?_
        refine Ci.mono K (fun v11 σ10 K => ?_)
        refine wp_istore [1, 2, 3, 4, 0] dX10_lay_37 rfl (by decide) rfl ?_
        show WP _ _ _ _ _ _ _ 39 [(0, .ref 0), (1, .int x1), (2, .int x2), (3, .int x3), (4, .int v11)] _ _ _
        refine wp_aload_n 0 dX10_lay_39 rfl rfl rfl ?_
        refine wp_getR 10 0 kcX10 kfX10_7 rfl lM_0 (congrArg Prod.fst gM_0) rM_0_0 dX10_lay_40 rfl ?_
        refine wp_bipush (v := 50) dX10_lay_43 rfl (by decide) ?_
        refine wp_iload_n 1 dX10_lay_45 rfl rfl rfl ?_
        refine wp_iadd dX10_lay_46 rfl ?_
        obtain ⟨k12, K⟩ := K
        refine wn_iald lM_1 gM_1 k12 dX10_lay_47 rfl ?_
        refine wp_iconst (v := (-1)) dX10_lay_48 rfl (by decide) ?_
        refine wp_icmp_eq 84 dX10_lay_49 (by decide) rfl (fun h13 => ?_) (fun h13 => ?_)
        · rw [if_pos h13] at K
          refine wp_iconst (v := 1) dX10_lay_84 rfl (by decide) ?_
          refine wp_goto 89 dX10_lay_85 (by decide) ?_
          refine wp_lv [0, 1, 2, 3] rfl ?_
          exact K
        · rw [if_neg h13] at K
          refine wp_iload 4 dX10_lay_52 rfl rfl ?_
          refine wp_iconst (v := (-1)) dX10_lay_54 rfl (by decide) ?_
          refine wp_icmp_eq 88 dX10_lay_55 (by decide) rfl (fun h14 => ?_) (fun h14 => ?_)
          · rw [if_pos h14] at K
            refine wp_iconst (v := 0) dX10_lay_88 rfl (by decide) ?_
            refine wp_lv [0, 1, 2, 3] rfl ?_
            exact K
          · rw [if_neg h14] at K
            refine wp_iload 4 dX10_lay_58 rfl rfl ?_
            refine wp_iload_n 2 dX10_lay_60 rfl rfl rfl ?_
            refine wp_icmp_eq 88 dX10_lay_61 (by decide) rfl (fun h15 => ?_) (fun h15 => ?_)
            · rw [if_pos h15] at K
              refine wp_iconst (v := 0) dX10_lay_88 rfl (by decide) ?_
              refine wp_lv [0, 1, 2, 3] rfl ?_
              exact K
            · rw [if_neg h15] at K
              refine wp_aload_n 0 dX10_lay_64 rfl rfl rfl ?_
              refine wp_getR 10 0 kcX10 kfX10_7 rfl lM_0 (congrArg Prod.fst gM_0) rM_0_0 dX10_lay_65 rfl ?_
              refine wp_iconst (v := 2) dX10_lay_68 rfl (by decide) ?_
              refine wp_iload 4 dX10_lay_69 rfl rfl ?_
              refine wp_iadd dX10_lay_71 rfl ?_
              obtain ⟨k16, K⟩ := K
              refine wn_iald lM_1 gM_1 k16 dX10_lay_72 rfl ?_
              refine wp_aload_n 0 dX10_lay_73 rfl rfl rfl ?_
              refine wp_getR 10 0 kcX10 kfX10_7 rfl lM_0 (congrArg Prod.fst gM_0) rM_0_0 dX10_lay_74 rfl ?_
              refine wp_iconst (v := 2) dX10_lay_77 rfl (by decide) ?_
              refine wp_iload_n 2 dX10_lay_78 rfl rfl rfl ?_
              refine wp_iadd dX10_lay_79 rfl ?_
              obtain ⟨k17, K⟩ := K
              refine wn_iald lM_1 gM_1 k17 dX10_lay_80 rfl ?_
              refine wp_icmp_ne 88 dX10_lay_81 (by decide) rfl (fun h18 => ?_) (fun h18 => ?_)
              · rw [if_neg h18] at K
                refine wp_iconst (v := 0) dX10_lay_88 rfl (by decide) ?_
                refine wp_lv [0, 1, 2, 3] rfl ?_
                exact K
              · rw [if_pos h18] at K
                refine wp_iconst (v := 1) dX10_lay_84 rfl (by decide) ?_
                refine wp_goto 89 dX10_lay_85 (by decide) ?_
                refine wp_lv [0, 1, 2, 3] rfl ?_
                exact K
      · rw [if_pos h9] at K
        refine wp_ldc dX10_lay_29 rfl tw_1108 ?_
        exact wp_ret .int rfl rfl (Nat.le_refl 0) (Nat.le_refl 0) dX10_lay_31 ⟨rfl, _, rfl, K⟩
    · rw [if_pos h6] at K
      refine wp_ldc dX10_lay_16 rfl tw_1191 ?_
      exact wp_ret .int rfl rfl (Nat.le_refl 0) (Nat.le_refl 0) dX10_lay_18 ⟨rfl, _, rfl, K⟩
theorem eX10_lay {E : tp_E} {d : Nat} {Q : Int32 → tp_M → Prop} {σ : tp_M}   (x1 : Int32) (x2 : Int32) (x3 : Int32) (K : Ci E TM yX10_isThing iX10_isThing d [.ref 0, .int x1] σ (fun v2 σ1 => if v2 = 0 then (Q (-1000000001) σ1) else (Ci E TM yX10_isWaiter iX10_isWaiter d [.ref 0, .int x2] σ1 (fun v5 σ4 => if v5 = 0 then (Q (-1000000001) σ4) else (Ci E TM yX10_in iX10_in d [.long (Int32.toInt64 x3), .long 0, .long 1] σ4 (fun v8 σ7 => if v8 = 0 then (Q (-1000000002) σ7) else (Ci E TM yX10_whose iX10_whose d [.ref 0, .int x1] σ7 (fun v11 σ10 => vp_in (50 + x1) 1416 ∧ (if (σ10 1 (Int32.toNatClampNeg (50 + x1))) = (-1) then (Wi E TM iX10_lay (d + 1) Q 89 [(0, .ref 0), (1, .int x1), (2, .int x2), (3, .int x3)] [.int 1] σ10) else (if v11 = (-1) then (Wi E TM iX10_lay (d + 1) Q 89 [(0, .ref 0), (1, .int x1), (2, .int x2), (3, .int x3)] [.int 0] σ10) else (if v11 = x2 then (Wi E TM iX10_lay (d + 1) Q 89 [(0, .ref 0), (1, .int x1), (2, .int x2), (3, .int x3)] [.int 0] σ10) else (vp_in (2 + v11) 1416 ∧ (vp_in (2 + x2) 1416 ∧ (if (σ10 1 (Int32.toNatClampNeg (2 + v11))) = (σ10 1 (Int32.toNatClampNeg (2 + x2))) then (Wi E TM iX10_lay (d + 1) Q 89 [(0, .ref 0), (1, .int x1), (2, .int x2), (3, .int x3)] [.int 1] σ10) else (Wi E TM iX10_lay (d + 1) Q 89 [(0, .ref 0), (1, .int x1), (2, .int x2), (3, .int x3)] [.int 0] σ10))))))))))))))) : Ci E TM yX10_lay iX10_lay (d + 1) [.ref 0, .int x1, .int x2, .int x3] σ Q := Ci.of ⟨by decide +kernel, rfl, rfl⟩ (Nat.le_of_ble_eq_true rfl) (bX10_lay_0  x1 x2 x3 K)
theorem bX10_lay_89 {E : tp_E} {d : Nat} {Q : Int32 → tp_M → Prop} {σ : tp_M}   (x1 : Int32) (x2 : Int32) (x3 : Int32) (s0 : Int32) (K : Ci E TM yX10_onTray iX10_onTray d [.ref 0, .int 0, .int x2] σ (fun v2 σ1 => Ci E TM yX10_weightOf iX10_weightOf d [.ref 0, .int v2] σ1 (fun v4 σ3 => vp_in x1 8 ∧ (if s0 = 0 then (Q (-1000000003) σ3) else (vp_in x2 4 ∧ (if (v4 + (σ3 5 (Int32.toNatClampNeg x1))) ≤ (σ3 4 (Int32.toNatClampNeg x2)) then (Cv E TM yX10_minds iX10_minds d [.ref 0] σ3 (fun σ9 => vp_in (50 + x1) 1416 ∧ (Q (v4 + (σ3 5 (Int32.toNatClampNeg x1))) (tp_u σ9 1 (Int32.toNatClampNeg (50 + x1)) ((2 * x2) + x3))))) else (Q (-1000000003) σ3))))))) : Wi E TM iX10_lay (d + 1) Q 89 [(0, .ref 0), (1, .int x1), (2, .int x2), (3, .int x3)] [.int s0] σ := by
  refine wp_istore [1, 2, 3, 4, 0] dX10_lay_89 rfl (by decide) rfl ?_
  show WP _ _ _ _ _ _ _ 91 [(0, .ref 0), (1, .int x1), (2, .int x2), (3, .int x3), (5, .int s0)] _ _ _
  refine wp_aload_n 0 dX10_lay_91 rfl rfl rfl ?_
  refine wp_aload_n 0 dX10_lay_92 rfl rfl rfl ?_
  refine wp_iconst (v := 0) dX10_lay_93 rfl (by decide) ?_
  refine wp_iload_n 2 dX10_lay_94 rfl rfl rfl ?_
  refine wn_callVi (As := [.int 0, .int x2]) (rest := [.ref 0]) 10 kmX10_223 (by decide) rfl rfl (Nat.le_of_ble_eq_true rfl) lM_0 (congrArg Prod.fst gM_0) dX10_lay_95 rfl ?_
  refine Ci.mono K (fun v2 σ1 K => ?_)
  refine wn_callVi (As := [.int v2]) (rest := []) 10 kmX10_220 (by decide) rfl rfl (Nat.le_of_ble_eq_true rfl) lM_0 (congrArg Prod.fst gM_0) dX10_lay_98 rfl ?_
  refine Ci.mono K (fun v4 σ3 K => ?_)
  refine wp_aload_n 0 dX10_lay_101 rfl rfl rfl ?_
  refine wp_getR 10 10 kcX10 kfX10_23 rfl lM_0 (congrArg Prod.fst gM_0) rM_0_10 dX10_lay_102 rfl ?_
  refine wp_iload_n 1 dX10_lay_105 rfl rfl rfl ?_
  obtain ⟨k5, K⟩ := K
  refine wn_iald lM_5 gM_5 k5 dX10_lay_106 rfl ?_
  refine wp_iadd dX10_lay_107 rfl ?_
  refine wp_istore [1, 2, 3, 4, 5, 0] dX10_lay_108 rfl (by decide) rfl ?_
  show WP _ _ _ _ _ _ _ 110 [(0, .ref 0), (1, .int x1), (2, .int x2), (3, .int x3), (5, .int s0), (6, .int (v4 + (σ3 5 (Int32.toNatClampNeg x1))))] _ _ _
  refine wp_iload 4 dX10_lay_110 rfl rfl ?_
  refine wp_if_eq 126 dX10_lay_112 (by decide) rfl (fun h6 => ?_) (fun h6 => ?_)
  · rw [if_pos h6] at K
    refine wp_ldc dX10_lay_126 rfl tw_1228 ?_
    exact wp_ret .int rfl rfl (Nat.le_refl 0) (Nat.le_refl 0) dX10_lay_128 ⟨rfl, _, rfl, K⟩
  · rw [if_neg h6] at K
    refine wp_iload 5 dX10_lay_115 rfl rfl ?_
    refine wp_aload_n 0 dX10_lay_117 rfl rfl rfl ?_
    refine wp_getR 10 8 kcX10 kfX10_20 rfl lM_0 (congrArg Prod.fst gM_0) rM_0_8 dX10_lay_118 rfl ?_
    refine wp_iload_n 2 dX10_lay_121 rfl rfl rfl ?_
    obtain ⟨k7, K⟩ := K
    refine wn_iald lM_4 gM_4 k7 dX10_lay_122 rfl ?_
    refine wp_icmp_le 129 dX10_lay_123 (by decide) rfl (fun h8 => ?_) (fun h8 => ?_)
    · rw [if_pos h8] at K
      refine wp_aload_n 0 dX10_lay_129 rfl rfl rfl ?_
      refine wn_callVv (As := []) (rest := []) 10 kmX10_252 (by decide) rfl rfl (Nat.le_of_ble_eq_true rfl) lM_0 (congrArg Prod.fst gM_0) dX10_lay_130 rfl ?_
      refine Cv.mono K (fun σ9 K => ?_)
      refine wp_aload_n 0 dX10_lay_133 rfl rfl rfl ?_
      refine wp_getR 10 0 kcX10 kfX10_7 rfl lM_0 (congrArg Prod.fst gM_0) rM_0_0 dX10_lay_134 rfl ?_
      refine wp_bipush (v := 50) dX10_lay_137 rfl (by decide) ?_
      refine wp_iload_n 1 dX10_lay_139 rfl rfl rfl ?_
      refine wp_iadd dX10_lay_140 rfl ?_
      refine wp_iconst (v := 2) dX10_lay_141 rfl (by decide) ?_
      refine wp_iload_n 2 dX10_lay_142 rfl rfl rfl ?_
      refine wp_imul dX10_lay_143 rfl ?_
      refine wp_iload_n 3 dX10_lay_144 rfl rfl rfl ?_
      refine wp_iadd dX10_lay_145 rfl ?_
      obtain ⟨k10, K⟩ := K
      refine wn_iast lM_1 gM_1 k10 dX10_lay_146 rfl ?_
      refine wp_iload 5 dX10_lay_147 rfl rfl ?_
      exact wp_ret .int rfl rfl (Nat.le_refl 0) (Nat.le_refl 0) dX10_lay_149 ⟨rfl, _, rfl, K⟩
    · rw [if_neg h8] at K
      refine wp_ldc dX10_lay_126 rfl tw_1228 ?_
      exact wp_ret .int rfl rfl (Nat.le_refl 0) (Nat.le_refl 0) dX10_lay_128 ⟨rfl, _, rfl, K⟩
theorem bX10_takeOff_0 {E : tp_E} {d : Nat} {Q : Int32 → tp_M → Prop} {σ : tp_M}   (x1 : Int32) (K : Ci E TM yX10_isThing iX10_isThing d [.ref 0, .int x1] σ (fun v2 σ1 => if v2 = 0 then (Q (-1000000001) σ1) else (Ci E TM yX10_whose iX10_whose d [.ref 0, .int x1] σ1 (fun v5 σ4 => if v5 = (-1) then (Q (-1000000003) σ4) else (Cv E TM yX10_minds iX10_minds d [.ref 0] σ4 (fun σ7 => vp_in (50 + x1) 1416 ∧ (Q v5 (tp_u σ7 1 (Int32.toNatClampNeg (50 + x1)) (-1))))))))) : Wi E TM iX10_takeOff (d + 1) Q 0 [(0, .ref 0), (1, .int x1)] [] σ := by
  refine wp_aload_n 0 dX10_takeOff_0 rfl rfl rfl ?_
  refine wp_iload_n 1 dX10_takeOff_1 rfl rfl rfl ?_
  refine wn_callVi (As := [.int x1]) (rest := []) 10 kmX10_229 (by decide) rfl rfl (Nat.le_of_ble_eq_true rfl) lM_0 (congrArg Prod.fst gM_0) dX10_takeOff_2 rfl ?_
  refine Ci.mono K (fun v2 σ1 K => ?_)
  refine wp_if_ne 11 dX10_takeOff_5 (by decide) rfl (fun h3 => ?_) (fun h3 => ?_)
  · rw [if_neg h3] at K
    refine wp_aload_n 0 dX10_takeOff_11 rfl rfl rfl ?_
    refine wp_iload_n 1 dX10_takeOff_12 rfl rfl rfl ?_
    refine wn_callVi (As := [.int x1]) (rest := []) 10 kmX10_232 (by decide) rfl rfl (Nat.le_of_ble_eq_true rfl) lM_0 (congrArg Prod.fst gM_0) dX10_takeOff_13 rfl ?_
    refine Ci.mono K (fun v5 σ4 K => ?_)
    refine wp_istore_n [1, 2, 0] dX10_takeOff_16 rfl rfl (by decide) rfl ?_
    show WP _ _ _ _ _ _ _ 17 [(0, .ref 0), (1, .int x1), (2, .int v5)] _ _ _
    refine wp_iload_n 2 dX10_takeOff_17 rfl rfl rfl ?_
    refine wp_iconst (v := (-1)) dX10_takeOff_18 rfl (by decide) ?_
    refine wp_icmp_ne 25 dX10_takeOff_19 (by decide) rfl (fun h6 => ?_) (fun h6 => ?_)
    · rw [if_neg h6] at K
      refine wp_aload_n 0 dX10_takeOff_25 rfl rfl rfl ?_
      refine wn_callVv (As := []) (rest := []) 10 kmX10_252 (by decide) rfl rfl (Nat.le_of_ble_eq_true rfl) lM_0 (congrArg Prod.fst gM_0) dX10_takeOff_26 rfl ?_
      refine Cv.mono K (fun σ7 K => ?_)
      refine wp_aload_n 0 dX10_takeOff_29 rfl rfl rfl ?_
      refine wp_getR 10 0 kcX10 kfX10_7 rfl lM_0 (congrArg Prod.fst gM_0) rM_0_0 dX10_takeOff_30 rfl ?_
      refine wp_bipush (v := 50) dX10_takeOff_33 rfl (by decide) ?_
      refine wp_iload_n 1 dX10_takeOff_35 rfl rfl rfl ?_
      refine wp_iadd dX10_takeOff_36 rfl ?_
      refine wp_iconst (v := (-1)) dX10_takeOff_37 rfl (by decide) ?_
      obtain ⟨k8, K⟩ := K
      refine wn_iast lM_1 gM_1 k8 dX10_takeOff_38 rfl ?_
      refine wp_iload_n 2 dX10_takeOff_39 rfl rfl rfl ?_
      exact wp_ret .int rfl rfl (Nat.le_refl 0) (Nat.le_refl 0) dX10_takeOff_40 ⟨rfl, _, rfl, K⟩
    · rw [if_pos h6] at K
      refine wp_ldc dX10_takeOff_22 rfl tw_1228 ?_
      exact wp_ret .int rfl rfl (Nat.le_refl 0) (Nat.le_refl 0) dX10_takeOff_24 ⟨rfl, _, rfl, K⟩
  · rw [if_pos h3] at K
    refine wp_ldc dX10_takeOff_8 rfl tw_1191 ?_
    exact wp_ret .int rfl rfl (Nat.le_refl 0) (Nat.le_refl 0) dX10_takeOff_10 ⟨rfl, _, rfl, K⟩
theorem eX10_takeOff {E : tp_E} {d : Nat} {Q : Int32 → tp_M → Prop} {σ : tp_M}   (x1 : Int32) (K : Ci E TM yX10_isThing iX10_isThing d [.ref 0, .int x1] σ (fun v2 σ1 => if v2 = 0 then (Q (-1000000001) σ1) else (Ci E TM yX10_whose iX10_whose d [.ref 0, .int x1] σ1 (fun v5 σ4 => if v5 = (-1) then (Q (-1000000003) σ4) else (Cv E TM yX10_minds iX10_minds d [.ref 0] σ4 (fun σ7 => vp_in (50 + x1) 1416 ∧ (Q v5 (tp_u σ7 1 (Int32.toNatClampNeg (50 + x1)) (-1))))))))) : Ci E TM yX10_takeOff iX10_takeOff (d + 1) [.ref 0, .int x1] σ Q := Ci.of ⟨by decide +kernel, rfl, rfl⟩ (Nat.le_of_ble_eq_true rfl) (bX10_takeOff_0  x1 K)
theorem bX10_treaty_0 {E : tp_E} {d : Nat} {Q : Int32 → tp_M → Prop} {σ : tp_M}   (x1 : Int32) (x2 : Int32) (x3 : Int32) (K : Ci E TM yX10_areTwo iX10_areTwo d [.ref 0, .int x1, .int x2] σ (fun v2 σ1 => if v2 = 0 then (Q (-1000000001) σ1) else (Cv E TM yX10_minds iX10_minds d [.ref 0] σ1 (fun σ4 => vp_in (46 + x1) 1416 ∧ (if x3 = 0 then (vp_in (46 + x1) 1416 ∧ (Wi E TM iX10_treaty (d + 1) Q 74 [(0, .ref 0), (1, .int x1), (2, .int x2), (3, .int x3), (4, .int (((σ4 1 (Int32.toNatClampNeg (46 + x1))) >>> (x2 &&& 31)) &&& 1))] [.int ((σ4 1 (Int32.toNatClampNeg (46 + x1))) &&& ((1 <<< (x2 &&& 31)) ^^^ (-1))), .int (46 + x1), .ref 1] σ4)) else (vp_in (46 + x1) 1416 ∧ (Wi E TM iX10_treaty (d + 1) Q 74 [(0, .ref 0), (1, .int x1), (2, .int x2), (3, .int x3), (4, .int (((σ4 1 (Int32.toNatClampNeg (46 + x1))) >>> (x2 &&& 31)) &&& 1))] [.int ((σ4 1 (Int32.toNatClampNeg (46 + x1))) ||| (1 <<< (x2 &&& 31))), .int (46 + x1), .ref 1] σ4))))))) : Wi E TM iX10_treaty (d + 1) Q 0 [(0, .ref 0), (1, .int x1), (2, .int x2), (3, .int x3)] [] σ := by
  refine wp_aload_n 0 dX10_treaty_0 rfl rfl rfl ?_
  refine wp_iload_n 1 dX10_treaty_1 rfl rfl rfl ?_
  refine wp_iload_n 2 dX10_treaty_2 rfl rfl rfl ?_
  refine wn_callVi (As := [.int x1, .int x2]) (rest := []) 10 kmX10_261 (by decide) rfl rfl (Nat.le_of_ble_eq_true rfl) lM_0 (congrArg Prod.fst gM_0) dX10_treaty_3 rfl ?_
  refine Ci.mono K (fun v2 σ1 K => ?_)
  refine wp_if_ne 12 dX10_treaty_6 (by decide) rfl (fun h3 => ?_) (fun h3 => ?_)
  · rw [if_neg h3] at K
    refine wp_aload_n 0 dX10_treaty_12 rfl rfl rfl ?_
    refine wn_callVv (As := []) (rest := []) 10 kmX10_252 (by decide) rfl rfl (Nat.le_of_ble_eq_true rfl) lM_0 (congrArg Prod.fst gM_0) dX10_treaty_13 rfl ?_
    refine Cv.mono K (fun σ4 K => ?_)
    refine wp_aload_n 0 dX10_treaty_16 rfl rfl rfl ?_
    refine wp_getR 10 0 kcX10 kfX10_7 rfl lM_0 (congrArg Prod.fst gM_0) rM_0_0 dX10_treaty_17 rfl ?_
    refine wp_bipush (v := 46) dX10_treaty_20 rfl (by decide) ?_
    refine wp_iload_n 1 dX10_treaty_22 rfl rfl rfl ?_
    refine wp_iadd dX10_treaty_23 rfl ?_
    obtain ⟨k5, K⟩ := K
    refine wn_iald lM_1 gM_1 k5 dX10_treaty_24 rfl ?_
    refine wp_iload_n 2 dX10_treaty_25 rfl rfl rfl ?_
    refine wp_ishr dX10_treaty_26 rfl ?_
    refine wp_iconst (v := 1) dX10_treaty_27 rfl (by decide) ?_
    refine wp_iand dX10_treaty_28 rfl ?_
    refine wp_istore [1, 2, 3, 4, 0] dX10_treaty_29 rfl (by decide) rfl ?_
    show WP _ _ _ _ _ _ _ 31 [(0, .ref 0), (1, .int x1), (2, .int x2), (3, .int x3), (4, .int (((σ4 1 (Int32.toNatClampNeg (46 + x1))) >>> (x2 &&& 31)) &&& 1))] _ _ _
    refine wp_aload_n 0 dX10_treaty_31 rfl rfl rfl ?_
    refine wp_getR 10 0 kcX10 kfX10_7 rfl lM_0 (congrArg Prod.fst gM_0) rM_0_0 dX10_treaty_32 rfl ?_
    refine wp_bipush (v := 46) dX10_treaty_35 rfl (by decide) ?_
    refine wp_iload_n 1 dX10_treaty_37 rfl rfl rfl ?_
    refine wp_iadd dX10_treaty_38 rfl ?_
    refine wp_iload_n 3 dX10_treaty_39 rfl rfl rfl ?_
    refine wp_if_eq 59 dX10_treaty_40 (by decide) rfl (fun h6 => ?_) (fun h6 => ?_)
    · rw [if_pos h6] at K
      refine wp_aload_n 0 dX10_treaty_59 rfl rfl rfl ?_
      refine wp_getR 10 0 kcX10 kfX10_7 rfl lM_0 (congrArg Prod.fst gM_0) rM_0_0 dX10_treaty_60 rfl ?_
      refine wp_bipush (v := 46) dX10_treaty_63 rfl (by decide) ?_
      refine wp_iload_n 1 dX10_treaty_65 rfl rfl rfl ?_
      refine wp_iadd dX10_treaty_66 rfl ?_
      obtain ⟨k7, K⟩ := K
      refine wn_iald lM_1 gM_1 k7 dX10_treaty_67 rfl ?_
      refine wp_iconst (v := 1) dX10_treaty_68 rfl (by decide) ?_
      refine wp_iload_n 2 dX10_treaty_69 rfl rfl rfl ?_
      refine wp_ishl dX10_treaty_70 rfl ?_
      refine wp_iconst (v := (-1)) dX10_treaty_71 rfl (by decide) ?_
      refine wp_ixor dX10_treaty_72 rfl ?_
      refine wp_iand dX10_treaty_73 rfl ?_
      exact K
    · rw [if_neg h6] at K
      refine wp_aload_n 0 dX10_treaty_43 rfl rfl rfl ?_
      refine wp_getR 10 0 kcX10 kfX10_7 rfl lM_0 (congrArg Prod.fst gM_0) rM_0_0 dX10_treaty_44 rfl ?_
      refine wp_bipush (v := 46) dX10_treaty_47 rfl (by decide) ?_
      refine wp_iload_n 1 dX10_treaty_49 rfl rfl rfl ?_
      refine wp_iadd dX10_treaty_50 rfl ?_
      obtain ⟨k8, K⟩ := K
      refine wn_iald lM_1 gM_1 k8 dX10_treaty_51 rfl ?_
      refine wp_iconst (v := 1) dX10_treaty_52 rfl (by decide) ?_
      refine wp_iload_n 2 dX10_treaty_53 rfl rfl rfl ?_
      refine wp_ishl dX10_treaty_54 rfl ?_
      refine wp_ior dX10_treaty_55 rfl ?_
      refine wp_goto 74 dX10_treaty_56 (by decide) ?_
      exact K
  · rw [if_pos h3] at K
    refine wp_ldc dX10_treaty_9 rfl tw_1191 ?_
    exact wp_ret .int rfl rfl (Nat.le_refl 0) (Nat.le_refl 0) dX10_treaty_11 ⟨rfl, _, rfl, K⟩
theorem eX10_treaty {E : tp_E} {d : Nat} {Q : Int32 → tp_M → Prop} {σ : tp_M}   (x1 : Int32) (x2 : Int32) (x3 : Int32) (K : Ci E TM yX10_areTwo iX10_areTwo d [.ref 0, .int x1, .int x2] σ (fun v2 σ1 => if v2 = 0 then (Q (-1000000001) σ1) else (Cv E TM yX10_minds iX10_minds d [.ref 0] σ1 (fun σ4 => vp_in (46 + x1) 1416 ∧ (if x3 = 0 then (vp_in (46 + x1) 1416 ∧ (Wi E TM iX10_treaty (d + 1) Q 74 [(0, .ref 0), (1, .int x1), (2, .int x2), (3, .int x3), (4, .int (((σ4 1 (Int32.toNatClampNeg (46 + x1))) >>> (x2 &&& 31)) &&& 1))] [.int ((σ4 1 (Int32.toNatClampNeg (46 + x1))) &&& ((1 <<< (x2 &&& 31)) ^^^ (-1))), .int (46 + x1), .ref 1] σ4)) else (vp_in (46 + x1) 1416 ∧ (Wi E TM iX10_treaty (d + 1) Q 74 [(0, .ref 0), (1, .int x1), (2, .int x2), (3, .int x3), (4, .int (((σ4 1 (Int32.toNatClampNeg (46 + x1))) >>> (x2 &&& 31)) &&& 1))] [.int ((σ4 1 (Int32.toNatClampNeg (46 + x1))) ||| (1 <<< (x2 &&& 31))), .int (46 + x1), .ref 1] σ4))))))) : Ci E TM yX10_treaty iX10_treaty (d + 1) [.ref 0, .int x1, .int x2, .int x3] σ Q := Ci.of ⟨by decide +kernel, rfl, rfl⟩ (Nat.le_of_ble_eq_true rfl) (bX10_treaty_0  x1 x2 x3 K)
theorem bX10_treaty_74 {E : tp_E} {d : Nat} {Q : Int32 → tp_M → Prop} {σ : tp_M}   (x1 : Int32) (x2 : Int32) (x3 : Int32) (x4 : Int32) (s1 : Int32) (s2 : Int32) (K : vp_in s1 1416 ∧ (if x3 = 0 then (vp_in (46 + x2) 1416 ∧ (vp_in (46 + x2) 1416 ∧ (Q x4 (tp_u (tp_u σ 1 (Int32.toNatClampNeg s1) s2) 1 (Int32.toNatClampNeg (46 + x2)) (((tp_u σ 1 (Int32.toNatClampNeg s1) s2) 1 (Int32.toNatClampNeg (46 + x2))) &&& ((1 <<< (x1 &&& 31)) ^^^ (-1))))))) else (vp_in (46 + x2) 1416 ∧ (vp_in (46 + x2) 1416 ∧ (Q x4 (tp_u (tp_u σ 1 (Int32.toNatClampNeg s1) s2) 1 (Int32.toNatClampNeg (46 + x2)) (((tp_u σ 1 (Int32.toNatClampNeg s1) s2) 1 (Int32.toNatClampNeg (46 + x2))) ||| (1 <<< (x1 &&& 31))))))))) : Wi E TM iX10_treaty (d + 1) Q 74 [(0, .ref 0), (1, .int x1), (2, .int x2), (3, .int x3), (4, .int x4)] [.int s2, .int s1, .ref 1] σ := by
  obtain ⟨k1, K⟩ := K
  refine wn_iast lM_1 gM_1 k1 dX10_treaty_74 rfl ?_
  refine wp_aload_n 0 dX10_treaty_75 rfl rfl rfl ?_
  refine wp_getR 10 0 kcX10 kfX10_7 rfl lM_0 (congrArg Prod.fst gM_0) rM_0_0 dX10_treaty_76 rfl ?_
  refine wp_bipush (v := 46) dX10_treaty_79 rfl (by decide) ?_
  refine wp_iload_n 2 dX10_treaty_81 rfl rfl rfl ?_
  refine wp_iadd dX10_treaty_82 rfl ?_
  refine wp_iload_n 3 dX10_treaty_83 rfl rfl rfl ?_
  refine wp_if_eq 103 dX10_treaty_84 (by decide) rfl (fun h2 => ?_) (fun h2 => ?_)
  · rw [if_pos h2] at K
    refine wp_aload_n 0 dX10_treaty_103 rfl rfl rfl ?_
    refine wp_getR 10 0 kcX10 kfX10_7 rfl lM_0 (congrArg Prod.fst gM_0) rM_0_0 dX10_treaty_104 rfl ?_
    refine wp_bipush (v := 46) dX10_treaty_107 rfl (by decide) ?_
    refine wp_iload_n 2 dX10_treaty_109 rfl rfl rfl ?_
    refine wp_iadd dX10_treaty_110 rfl ?_
    obtain ⟨k3, K⟩ := K
    refine wn_iald lM_1 gM_1 k3 dX10_treaty_111 rfl ?_
    refine wp_iconst (v := 1) dX10_treaty_112 rfl (by decide) ?_
    refine wp_iload_n 1 dX10_treaty_113 rfl rfl rfl ?_
    refine wp_ishl dX10_treaty_114 rfl ?_
    refine wp_iconst (v := (-1)) dX10_treaty_115 rfl (by decide) ?_
    refine wp_ixor dX10_treaty_116 rfl ?_
    refine wp_iand dX10_treaty_117 rfl ?_
    obtain ⟨k4, K⟩ := K
    refine wn_iast lM_1 gM_1 k4 dX10_treaty_118 rfl ?_
    refine wp_iload 4 dX10_treaty_119 rfl rfl ?_
    exact wp_ret .int rfl rfl (Nat.le_refl 0) (Nat.le_refl 0) dX10_treaty_121 ⟨rfl, _, rfl, K⟩
  · rw [if_neg h2] at K
    refine wp_aload_n 0 dX10_treaty_87 rfl rfl rfl ?_
    refine wp_getR 10 0 kcX10 kfX10_7 rfl lM_0 (congrArg Prod.fst gM_0) rM_0_0 dX10_treaty_88 rfl ?_
    refine wp_bipush (v := 46) dX10_treaty_91 rfl (by decide) ?_
    refine wp_iload_n 2 dX10_treaty_93 rfl rfl rfl ?_
    refine wp_iadd dX10_treaty_94 rfl ?_
    obtain ⟨k5, K⟩ := K
    refine wn_iald lM_1 gM_1 k5 dX10_treaty_95 rfl ?_
    refine wp_iconst (v := 1) dX10_treaty_96 rfl (by decide) ?_
    refine wp_iload_n 1 dX10_treaty_97 rfl rfl rfl ?_
    refine wp_ishl dX10_treaty_98 rfl ?_
    refine wp_ior dX10_treaty_99 rfl ?_
    refine wp_goto 118 dX10_treaty_100 (by decide) ?_
    obtain ⟨k6, K⟩ := K
    refine wn_iast lM_1 gM_1 k6 dX10_treaty_118 rfl ?_
    refine wp_iload 4 dX10_treaty_119 rfl rfl ?_
    exact wp_ret .int rfl rfl (Nat.le_refl 0) (Nat.le_refl 0) dX10_treaty_121 ⟨rfl, _, rfl, K⟩
theorem bX10_areTwo_0 {E : tp_E} {d : Nat} {Q : Int32 → tp_M → Prop} {σ : tp_M}   (x1 : Int32) (x2 : Int32) (K : Ci E TM yX10_isWaiter iX10_isWaiter d [.ref 0, .int x1] σ (fun v2 σ1 => if v2 = 0 then (Q 0 σ1) else (Ci E TM yX10_isWaiter iX10_isWaiter d [.ref 0, .int x2] σ1 (fun v5 σ4 => if v5 = 0 then (Q 0 σ4) else (if x1 = x2 then (Q 0 σ4) else (Q 1 σ4)))))) : Wi E TM iX10_areTwo (d + 1) Q 0 [(0, .ref 0), (1, .int x1), (2, .int x2)] [] σ := by
  refine wp_aload_n 0 dX10_areTwo_0 rfl rfl rfl ?_
  refine wp_iload_n 1 dX10_areTwo_1 rfl rfl rfl ?_
  refine wn_callVi (As := [.int x1]) (rest := []) 10 kmX10_100 (by decide) rfl rfl (Nat.le_of_ble_eq_true rfl) lM_0 (congrArg Prod.fst gM_0) dX10_areTwo_2 rfl ?_
  refine Ci.mono K (fun v2 σ1 K => ?_)
  refine wp_if_eq 25 dX10_areTwo_5 (by decide) rfl (fun h3 => ?_) (fun h3 => ?_)
  · rw [if_pos h3] at K
    refine wp_iconst (v := 0) dX10_areTwo_25 rfl (by decide) ?_
    exact wp_ret .boolean rfl rfl (Nat.le_refl 0) (Nat.le_refl 0) dX10_areTwo_26 ⟨rfl, _, rfl, K⟩
  · rw [if_neg h3] at K
    refine wp_aload_n 0 dX10_areTwo_8 rfl rfl rfl ?_
    refine wp_iload_n 2 dX10_areTwo_9 rfl rfl rfl ?_
    refine wn_callVi (As := [.int x2]) (rest := []) 10 kmX10_100 (by decide) rfl rfl (Nat.le_of_ble_eq_true rfl) lM_0 (congrArg Prod.fst gM_0) dX10_areTwo_10 rfl ?_
    refine Ci.mono K (fun v5 σ4 K => ?_)
    refine wp_if_eq 25 dX10_areTwo_13 (by decide) rfl (fun h6 => ?_) (fun h6 => ?_)
    · rw [if_pos h6] at K
      refine wp_iconst (v := 0) dX10_areTwo_25 rfl (by decide) ?_
      exact wp_ret .boolean rfl rfl (Nat.le_refl 0) (Nat.le_refl 0) dX10_areTwo_26 ⟨rfl, _, rfl, K⟩
    · rw [if_neg h6] at K
      refine wp_iload_n 1 dX10_areTwo_16 rfl rfl rfl ?_
      refine wp_iload_n 2 dX10_areTwo_17 rfl rfl rfl ?_
      refine wp_icmp_eq 25 dX10_areTwo_18 (by decide) rfl (fun h7 => ?_) (fun h7 => ?_)
      · rw [if_pos h7] at K
        refine wp_iconst (v := 0) dX10_areTwo_25 rfl (by decide) ?_
        exact wp_ret .boolean rfl rfl (Nat.le_refl 0) (Nat.le_refl 0) dX10_areTwo_26 ⟨rfl, _, rfl, K⟩
      · rw [if_neg h7] at K
        refine wp_iconst (v := 1) dX10_areTwo_21 rfl (by decide) ?_
        refine wp_goto 26 dX10_areTwo_22 (by decide) ?_
        exact wp_ret .boolean rfl rfl (Nat.le_refl 0) (Nat.le_refl 0) dX10_areTwo_26 ⟨rfl, _, rfl, K⟩
theorem eX10_areTwo {E : tp_E} {d : Nat} {Q : Int32 → tp_M → Prop} {σ : tp_M}   (x1 : Int32) (x2 : Int32) (K : Ci E TM yX10_isWaiter iX10_isWaiter d [.ref 0, .int x1] σ (fun v2 σ1 => if v2 = 0 then (Q 0 σ1) else (Ci E TM yX10_isWaiter iX10_isWaiter d [.ref 0, .int x2] σ1 (fun v5 σ4 => if v5 = 0 then (Q 0 σ4) else (if x1 = x2 then (Q 0 σ4) else (Q 1 σ4)))))) : Ci E TM yX10_areTwo iX10_areTwo (d + 1) [.ref 0, .int x1, .int x2] σ Q := Ci.of ⟨by decide +kernel, rfl, rfl⟩ (Nat.le_of_ble_eq_true rfl) (bX10_areTwo_0  x1 x2 K)
theorem bX10_drift_0 {E : tp_E} {d : Nat} {Q : Int32 → tp_M → Prop} {σ : tp_M}   (x1 : Int32) (K : Ci E TM yX10_in iX10_in d [.long (Int32.toInt64 x1), .long 1, .long 60] σ (fun v2 σ1 => if v2 = 0 then (Q (-1000000002) σ1) else (if (σ1 0 3) = 0 then (Q (-1000000003) σ1) else (vp_in 0 1416 ∧ (if (σ1 1 (Int32.toNatClampNeg 0)) ≤ 9000 then (Cv E TM yX10_minds iX10_minds d [.ref 0] σ1 (fun σ7 => Wi E TM iX10_drift (d + 1) Q 46 [(0, .ref 0), (1, .int x1), (2, .int 0)] [] σ7)) else (Q (-1000000004) σ1)))))) : Wi E TM iX10_drift (d + 1) Q 0 [(0, .ref 0), (1, .int x1)] [] σ := by
  refine wp_iload_n 1 dX10_drift_0 rfl rfl rfl ?_
  refine wp_i2l dX10_drift_1 rfl ?_
  refine wp_lconst (v := 1) dX10_drift_2 rfl (by decide) ?_
  refine wp_ldc2 dX10_drift_3 rfl tw_1237 ?_
  refine wn_callSi (As := [.long (Int32.toInt64 x1), .long 1, .long 60]) (rest := []) kmX10_93 (by decide) rfl rfl (Nat.le_of_ble_eq_true rfl) dX10_drift_6 rfl ?_
  refine Ci.mono K (fun v2 σ1 K => ?_)
  refine wp_if_ne 15 dX10_drift_9 (by decide) rfl (fun h3 => ?_) (fun h3 => ?_)
  · rw [if_neg h3] at K
    refine wp_aload_n 0 dX10_drift_15 rfl rfl rfl ?_
    refine wp_getI 10 3 kcX10 kfX10_90 rfl lM_0 (congrArg Prod.fst gM_0) dX10_drift_16 rfl ?_
    refine wp_if_ne 25 dX10_drift_19 (by decide) rfl (fun h4 => ?_) (fun h4 => ?_)
    · rw [if_neg h4] at K
      refine wp_aload_n 0 dX10_drift_25 rfl rfl rfl ?_
      refine wp_getR 10 0 kcX10 kfX10_7 rfl lM_0 (congrArg Prod.fst gM_0) rM_0_0 dX10_drift_26 rfl ?_
      refine wp_iconst (v := 0) dX10_drift_29 rfl (by decide) ?_
      obtain ⟨k5, K⟩ := K
      refine wn_iald lM_1 gM_1 k5 dX10_drift_30 rfl ?_
      refine wp_sipush (v := 9000) dX10_drift_31 rfl (by decide) ?_
      refine wp_icmp_le 40 dX10_drift_34 (by decide) rfl (fun h6 => ?_) (fun h6 => ?_)
      · rw [if_pos h6] at K
        refine wp_aload_n 0 dX10_drift_40 rfl rfl rfl ?_
        refine wn_callVv (As := []) (rest := []) 10 kmX10_252 (by decide) rfl rfl (Nat.le_of_ble_eq_true rfl) lM_0 (congrArg Prod.fst gM_0) dX10_drift_41 rfl ?_
        refine Cv.mono K (fun σ7 K => ?_)
        refine wp_iconst (v := 0) dX10_drift_44 rfl (by decide) ?_
        refine wp_istore_n [1, 2, 0] dX10_drift_45 rfl rfl (by decide) rfl ?_
        show WP _ _ _ _ _ _ _ 46 [(0, .ref 0), (1, .int x1), (2, .int 0)] _ _ _
        exact K
      · rw [if_neg h6] at K
        refine wp_ldc dX10_drift_37 rfl tw_1109 ?_
        exact wp_ret .int rfl rfl (Nat.le_refl 0) (Nat.le_refl 0) dX10_drift_39 ⟨rfl, _, rfl, K⟩
    · rw [if_pos h4] at K
      refine wp_ldc dX10_drift_22 rfl tw_1228 ?_
      exact wp_ret .int rfl rfl (Nat.le_refl 0) (Nat.le_refl 0) dX10_drift_24 ⟨rfl, _, rfl, K⟩
  · rw [if_pos h3] at K
    refine wp_ldc dX10_drift_12 rfl tw_1108 ?_
    exact wp_ret .int rfl rfl (Nat.le_refl 0) (Nat.le_refl 0) dX10_drift_14 ⟨rfl, _, rfl, K⟩
theorem eX10_drift {E : tp_E} {d : Nat} {Q : Int32 → tp_M → Prop} {σ : tp_M}   (x1 : Int32) (K : Ci E TM yX10_in iX10_in d [.long (Int32.toInt64 x1), .long 1, .long 60] σ (fun v2 σ1 => if v2 = 0 then (Q (-1000000002) σ1) else (if (σ1 0 3) = 0 then (Q (-1000000003) σ1) else (vp_in 0 1416 ∧ (if (σ1 1 (Int32.toNatClampNeg 0)) ≤ 9000 then (Cv E TM yX10_minds iX10_minds d [.ref 0] σ1 (fun σ7 => Wi E TM iX10_drift (d + 1) Q 46 [(0, .ref 0), (1, .int x1), (2, .int 0)] [] σ7)) else (Q (-1000000004) σ1)))))) : Ci E TM yX10_drift iX10_drift (d + 1) [.ref 0, .int x1] σ Q := Ci.of ⟨by decide +kernel, rfl, rfl⟩ (Nat.le_of_ble_eq_true rfl) (bX10_drift_0  x1 K)
theorem bX10_drift_46 {E : tp_E} {d : Nat} {Q : Int32 → tp_M → Prop} {σ : tp_M}   (x1 : Int32) (x2 : Int32) (K : if x1 ≤ x2 then (vp_in 1 1416 ∧ (Q (σ 1 (Int32.toNatClampNeg 1)) σ)) else (if (σ 0 7) ≤ 0 then (Wi E TM iX10_drift (d + 1) Q 70 [(0, .ref 0), (1, .int x1), (2, .int x2)] [.int (-1)] σ) else (Ci E TM yX10_draw iX10_draw d [.ref 0, .int (σ 0 7)] σ (fun v5 σ4 => Wi E TM iX10_drift (d + 1) Q 70 [(0, .ref 0), (1, .int x1), (2, .int x2)] [.int v5] σ4)))) : Wi E TM iX10_drift (d + 1) Q 46 [(0, .ref 0), (1, .int x1), (2, .int x2)] [] σ := by
  refine wp_iload_n 2 dX10_drift_46 rfl rfl rfl ?_
  refine wp_iload_n 1 dX10_drift_47 rfl rfl rfl ?_
  refine wp_icmp_ge 159 dX10_drift_48 (by decide) rfl (fun h1 => ?_) (fun h1 => ?_)
  · rw [if_pos h1] at K
    refine wp_aload_n 0 dX10_drift_159 rfl rfl rfl ?_
    refine wp_getR 10 0 kcX10 kfX10_7 rfl lM_0 (congrArg Prod.fst gM_0) rM_0_0 dX10_drift_160 rfl ?_
    refine wp_iconst (v := 1) dX10_drift_163 rfl (by decide) ?_
    obtain ⟨k2, K⟩ := K
    refine wn_iald lM_1 gM_1 k2 dX10_drift_164 rfl ?_
    exact wp_ret .int rfl rfl (Nat.le_refl 0) (Nat.le_refl 0) dX10_drift_165 ⟨rfl, _, rfl, K⟩
  · rw [if_neg h1] at K
    refine wp_aload_n 0 dX10_drift_51 rfl rfl rfl ?_
    refine wp_getI 10 7 kcX10 kfX10_97 rfl lM_0 (congrArg Prod.fst gM_0) dX10_drift_52 rfl ?_
    refine wp_if_le 69 dX10_drift_55 (by decide) rfl (fun h3 => ?_) (fun h3 => ?_)
    · rw [if_pos h3] at K
      refine wp_iconst (v := (-1)) dX10_drift_69 rfl (by decide) ?_
      exact K
    · rw [if_neg h3] at K
      refine wp_aload_n 0 dX10_drift_58 rfl rfl rfl ?_
      refine wp_aload_n 0 dX10_drift_59 rfl rfl rfl ?_
      refine wp_getI 10 7 kcX10 kfX10_97 rfl lM_0 (congrArg Prod.fst gM_0) dX10_drift_60 rfl ?_
      refine wn_callVi (As := [.int (σ 0 7)]) (rest := []) 10 kmX10_271 (by decide) rfl rfl (Nat.le_of_ble_eq_true rfl) lM_0 (congrArg Prod.fst gM_0) dX10_drift_63 rfl ?_
      refine Ci.mono K (fun v5 σ4 K => ?_)
      refine wp_goto 70 dX10_drift_66 (by decide) ?_
      exact K
theorem bX10_drift_70 {E : tp_E} {d : Nat} {Q : Int32 → tp_M → Prop} {σ : tp_M}   (x1 : Int32) (x2 : Int32) (s0 : Int32) (K : if s0 = (-1) then (Wi E TM iX10_drift (d + 1) Q 105 [(0, .ref 0), (1, .int x1), (2, .int x2), (3, .int s0)] [.int 0] σ) else (vp_in (6 + s0) 1416 ∧ (if (σ 1 (Int32.toNatClampNeg (6 + s0))) ≤ 0 then (vp_in (2 + s0) 1416 ∧ (vp_in (σ 1 (Int32.toNatClampNeg (2 + s0))) 8 ∧ (Wi E TM iX10_drift (d + 1) Q 105 [(0, .ref 0), (1, .int x1), (2, .int x2), (3, .int s0)] [.int (σ 3 (Int32.toNatClampNeg (σ 1 (Int32.toNatClampNeg (2 + s0)))))] σ))) else (Wi E TM iX10_drift (d + 1) Q 105 [(0, .ref 0), (1, .int x1), (2, .int x2), (3, .int s0)] [.int 0] σ)))) : Wi E TM iX10_drift (d + 1) Q 70 [(0, .ref 0), (1, .int x1), (2, .int x2)] [.int s0] σ := by
  refine wp_istore_n [1, 2, 3, 0] dX10_drift_70 rfl rfl (by decide) rfl ?_
  show WP _ _ _ _ _ _ _ 71 [(0, .ref 0), (1, .int x1), (2, .int x2), (3, .int s0)] _ _ _
  refine wp_iload_n 3 dX10_drift_71 rfl rfl rfl ?_
  refine wp_iconst (v := (-1)) dX10_drift_72 rfl (by decide) ?_
  refine wp_icmp_eq 88 dX10_drift_73 (by decide) rfl (fun h1 => ?_) (fun h1 => ?_)
  · rw [if_pos h1] at K
    refine wp_iconst (v := 0) dX10_drift_88 rfl (by decide) ?_
    refine wp_goto 105 dX10_drift_89 (by decide) ?_
    exact K
  · rw [if_neg h1] at K
    refine wp_aload_n 0 dX10_drift_76 rfl rfl rfl ?_
    refine wp_getR 10 0 kcX10 kfX10_7 rfl lM_0 (congrArg Prod.fst gM_0) rM_0_0 dX10_drift_77 rfl ?_
    refine wp_bipush (v := 6) dX10_drift_80 rfl (by decide) ?_
    refine wp_iload_n 3 dX10_drift_82 rfl rfl rfl ?_
    refine wp_iadd dX10_drift_83 rfl ?_
    obtain ⟨k2, K⟩ := K
    refine wn_iald lM_1 gM_1 k2 dX10_drift_84 rfl ?_
    refine wp_if_le 92 dX10_drift_85 (by decide) rfl (fun h3 => ?_) (fun h3 => ?_)
    · rw [if_pos h3] at K
      refine wp_aload_n 0 dX10_drift_92 rfl rfl rfl ?_
      refine wp_getR 10 6 kcX10 kfX10_17 rfl lM_0 (congrArg Prod.fst gM_0) rM_0_6 dX10_drift_93 rfl ?_
      refine wp_aload_n 0 dX10_drift_96 rfl rfl rfl ?_
      refine wp_getR 10 0 kcX10 kfX10_7 rfl lM_0 (congrArg Prod.fst gM_0) rM_0_0 dX10_drift_97 rfl ?_
      refine wp_iconst (v := 2) dX10_drift_100 rfl (by decide) ?_
      refine wp_iload_n 3 dX10_drift_101 rfl rfl rfl ?_
      refine wp_iadd dX10_drift_102 rfl ?_
      obtain ⟨k4, K⟩ := K
      refine wn_iald lM_1 gM_1 k4 dX10_drift_103 rfl ?_
      obtain ⟨k5, K⟩ := K
      refine wn_iald lM_3 gM_3 k5 dX10_drift_104 rfl ?_
      exact K
    · rw [if_neg h3] at K
      refine wp_iconst (v := 0) dX10_drift_88 rfl (by decide) ?_
      refine wp_goto 105 dX10_drift_89 (by decide) ?_
      exact K
theorem bX10_drift_105 {E : tp_E} {d : Nat} {Q : Int32 → tp_M → Prop} {σ : tp_M}   (x1 : Int32) (x2 : Int32) (x3 : Int32) (s0 : Int32) (K : if s0 = 0 then (Cv E TM yX10_passes iX10_passes d [.ref 0, .int 0] σ (fun σ2 => Wi E TM iX10_drift (d + 1) Q 46 [(0, .ref 0), (1, .int x1), (2, .int (x2 + 1))] [] σ2)) else (Ci E TM yX10_ones iX10_ones d [.int s0] σ (fun v4 σ3 => Ci E TM yX10_draw iX10_draw d [.ref 0, .int v4] σ3 (fun v6 σ5 => Ci E TM yX10_nth iX10_nth d [.int s0, .int v6] σ5 (fun v8 σ7 => vp_in (10 + (9 * x3)) 1416 ∧ (vp_in (6 + x3) 1416 ∧ (Cv E TM yX10_passes iX10_passes d [.ref 0, .int 0] (tp_u (tp_u σ7 1 (Int32.toNatClampNeg (10 + (9 * x3))) v8) 1 (Int32.toNatClampNeg (6 + x3)) 1) (fun σ11 => Wi E TM iX10_drift (d + 1) Q 46 [(0, .ref 0), (1, .int x1), (2, .int (x2 + 1))] [] σ11)))))))) : Wi E TM iX10_drift (d + 1) Q 105 [(0, .ref 0), (1, .int x1), (2, .int x2), (3, .int x3)] [.int s0] σ := by
  refine wp_istore [1, 2, 3, 4, 0] dX10_drift_105 rfl (by decide) rfl ?_
  show WP _ _ _ _ _ _ _ 107 [(0, .ref 0), (1, .int x1), (2, .int x2), (3, .int x3), (4, .int s0)] _ _ _
  refine wp_iload 4 dX10_drift_107 rfl rfl ?_
  refine wp_if_eq 148 dX10_drift_109 (by decide) rfl (fun h1 => ?_) (fun h1 => ?_)
  · rw [if_pos h1] at K
    refine wp_aload_n 0 dX10_drift_148 rfl rfl rfl ?_
    refine wp_iconst (v := 0) dX10_drift_149 rfl (by decide) ?_
    refine wn_callVv (As := [.int 0]) (rest := []) 10 kmX10_255 (by decide) rfl rfl (Nat.le_of_ble_eq_true rfl) lM_0 (congrArg Prod.fst gM_0) dX10_drift_150 rfl ?_
    refine Cv.mono K (fun σ2 K => ?_)
    refine wp_iinc (v := x2 + 1) 2 [1, 2, 0, 3, 4] dX10_drift_153 rfl (by decide) rfl rfl rfl ?_
    show WP _ _ _ _ _ _ _ 156 [(0, .ref 0), (1, .int x1), (2, .int (x2 + 1)), (3, .int x3), (4, .int s0)] _ _ _
    refine wp_goto 46 dX10_drift_156 (by decide) ?_
    refine wp_lv [0, 1, 2] rfl ?_
    exact K
  · rw [if_neg h1] at K
    refine wp_aload_n 0 dX10_drift_112 rfl rfl rfl ?_
    refine wp_getR 10 0 kcX10 kfX10_7 rfl lM_0 (congrArg Prod.fst gM_0) rM_0_0 dX10_drift_113 rfl ?_
    refine wp_bipush (v := 10) dX10_drift_116 rfl (by decide) ?_
    refine wp_bipush (v := 9) dX10_drift_118 rfl (by decide) ?_
    refine wp_iload_n 3 dX10_drift_120 rfl rfl rfl ?_
    refine wp_imul dX10_drift_121 rfl ?_
    refine wp_iadd dX10_drift_122 rfl ?_
    refine wp_iload 4 dX10_drift_123 rfl rfl ?_
    refine wp_aload_n 0 dX10_drift_125 rfl rfl rfl ?_
    refine wp_iload 4 dX10_drift_126 rfl rfl ?_
    refine wn_callSi (As := [.int s0]) (rest := [.ref 0, .int s0, .int (10 + (9 * x3)), .ref 1]) kmX10_274 (by decide) rfl rfl (Nat.le_of_ble_eq_true rfl) dX10_drift_128 rfl ?_
    refine Ci.mono K (fun v4 σ3 K => ?_)
    refine wn_callVi (As := [.int v4]) (rest := [.int s0, .int (10 + (9 * x3)), .ref 1]) 10 kmX10_271 (by decide) rfl rfl (Nat.le_of_ble_eq_true rfl) lM_0 (congrArg Prod.fst gM_0) dX10_drift_131 rfl ?_
    refine Ci.mono K (fun v6 σ5 K => ?_)
    refine wn_callSi (As := [.int s0, .int v6]) (rest := [.int (10 + (9 * x3)), .ref 1]) kmX10_277 (by decide) rfl rfl (Nat.le_of_ble_eq_true rfl) dX10_drift_134 rfl ?_
    refine Ci.mono K (fun v8 σ7 K => ?_)
    obtain ⟨k9, K⟩ := K
    refine wn_iast lM_1 gM_1 k9 dX10_drift_137 rfl ?_
    refine wp_aload_n 0 dX10_drift_138 rfl rfl rfl ?_
    refine wp_getR 10 0 kcX10 kfX10_7 rfl lM_0 (congrArg Prod.fst gM_0) rM_0_0 dX10_drift_139 rfl ?_
    refine wp_bipush (v := 6) dX10_drift_142 rfl (by decide) ?_
    refine wp_iload_n 3 dX10_drift_144 rfl rfl rfl ?_
    refine wp_iadd dX10_drift_145 rfl ?_
    refine wp_iconst (v := 1) dX10_drift_146 rfl (by decide) ?_
    obtain ⟨k10, K⟩ := K
    refine wn_iast lM_1 gM_1 k10 dX10_drift_147 rfl ?_
    refine wp_aload_n 0 dX10_drift_148 rfl rfl rfl ?_
    refine wp_iconst (v := 0) dX10_drift_149 rfl (by decide) ?_
    refine wn_callVv (As := [.int 0]) (rest := []) 10 kmX10_255 (by decide) rfl rfl (Nat.le_of_ble_eq_true rfl) lM_0 (congrArg Prod.fst gM_0) dX10_drift_150 rfl ?_
    refine Cv.mono K (fun σ11 K => ?_)
    refine wp_iinc (v := x2 + 1) 2 [1, 2, 0, 3, 4] dX10_drift_153 rfl (by decide) rfl rfl rfl ?_
    show WP _ _ _ _ _ _ _ 156 [(0, .ref 0), (1, .int x1), (2, .int (x2 + 1)), (3, .int x3), (4, .int s0)] _ _ _
    refine wp_goto 46 dX10_drift_156 (by decide) ?_
    refine wp_lv [0, 1, 2] rfl ?_
    exact K
theorem bX10_draw_0 {E : tp_E} {d : Nat} {Q : Int32 → tp_M → Prop} {σ : tp_M}   (x1 : Int32) (K : vp_in 58 1416 ∧ (vp_in 58 1416 ∧ (vp_in 58 1416 ∧ ((¬ x1 = 0) ∧ (Q ((((tp_u σ 1 (Int32.toNatClampNeg 58) (Int64.toInt32 ((((Int32.toInt64 (σ 1 (Int32.toNatClampNeg 58))) * 1103515245) + 12345) - (((Int32.toInt64 (σ 1 (Int32.toNatClampNeg 58))) * 1103515245) + 12345) / 2147483648 * 2147483648))) 1 (Int32.toNatClampNeg 58)) / 65536) - (((tp_u σ 1 (Int32.toNatClampNeg 58) (Int64.toInt32 ((((Int32.toInt64 (σ 1 (Int32.toNatClampNeg 58))) * 1103515245) + 12345) - (((Int32.toInt64 (σ 1 (Int32.toNatClampNeg 58))) * 1103515245) + 12345) / 2147483648 * 2147483648))) 1 (Int32.toNatClampNeg 58)) / 65536) / x1 * x1) (tp_u σ 1 (Int32.toNatClampNeg 58) (Int64.toInt32 ((((Int32.toInt64 (σ 1 (Int32.toNatClampNeg 58))) * 1103515245) + 12345) - (((Int32.toInt64 (σ 1 (Int32.toNatClampNeg 58))) * 1103515245) + 12345) / 2147483648 * 2147483648)))))))) : Wi E TM iX10_draw d Q 0 [(0, .ref 0), (1, .int x1)] [] σ := by
  refine wp_aload_n 0 dX10_draw_0 rfl rfl rfl ?_
  refine wp_getR 10 0 kcX10 kfX10_7 rfl lM_0 (congrArg Prod.fst gM_0) rM_0_0 dX10_draw_1 rfl ?_
  refine wp_bipush (v := 58) dX10_draw_4 rfl (by decide) ?_
  refine wp_aload_n 0 dX10_draw_6 rfl rfl rfl ?_
  refine wp_getR 10 0 kcX10 kfX10_7 rfl lM_0 (congrArg Prod.fst gM_0) rM_0_0 dX10_draw_7 rfl ?_
  refine wp_bipush (v := 58) dX10_draw_10 rfl (by decide) ?_
  obtain ⟨k1, K⟩ := K
  refine wn_iald lM_1 gM_1 k1 dX10_draw_12 rfl ?_
  refine wp_i2l dX10_draw_13 rfl ?_
  refine wp_ldc2 dX10_draw_14 rfl tw_1287 ?_
  refine wp_lmul dX10_draw_17 rfl ?_
  refine wp_ldc2 dX10_draw_18 rfl tw_1288 ?_
  refine wp_ladd dX10_draw_21 rfl ?_
  refine wp_ldc2 dX10_draw_22 rfl tw_1289 ?_
  refine wp_lrem dX10_draw_25 rfl (by decide) ?_
  refine wp_l2i dX10_draw_26 rfl ?_
  obtain ⟨k2, K⟩ := K
  refine wn_iast lM_1 gM_1 k2 dX10_draw_27 rfl ?_
  refine wp_aload_n 0 dX10_draw_28 rfl rfl rfl ?_
  refine wp_getR 10 0 kcX10 kfX10_7 rfl lM_0 (congrArg Prod.fst gM_0) rM_0_0 dX10_draw_29 rfl ?_
  refine wp_bipush (v := 58) dX10_draw_32 rfl (by decide) ?_
  obtain ⟨k3, K⟩ := K
  refine wn_iald lM_1 gM_1 k3 dX10_draw_34 rfl ?_
  refine wp_ldcw dX10_draw_35 rfl tw_1290 ?_
  refine wp_idiv dX10_draw_38 rfl (by decide) ?_
  refine wp_iload_n 1 dX10_draw_39 rfl rfl rfl ?_
  obtain ⟨k4, K⟩ := K
  refine wp_irem dX10_draw_40 rfl k4 ?_
  exact wp_ret .int rfl rfl (Nat.le_refl 0) (Nat.le_refl 0) dX10_draw_41 ⟨rfl, _, rfl, K⟩
theorem eX10_draw {E : tp_E} {d : Nat} {Q : Int32 → tp_M → Prop} {σ : tp_M}   (x1 : Int32) (K : vp_in 58 1416 ∧ (vp_in 58 1416 ∧ (vp_in 58 1416 ∧ ((¬ x1 = 0) ∧ (Q ((((tp_u σ 1 (Int32.toNatClampNeg 58) (Int64.toInt32 ((((Int32.toInt64 (σ 1 (Int32.toNatClampNeg 58))) * 1103515245) + 12345) - (((Int32.toInt64 (σ 1 (Int32.toNatClampNeg 58))) * 1103515245) + 12345) / 2147483648 * 2147483648))) 1 (Int32.toNatClampNeg 58)) / 65536) - (((tp_u σ 1 (Int32.toNatClampNeg 58) (Int64.toInt32 ((((Int32.toInt64 (σ 1 (Int32.toNatClampNeg 58))) * 1103515245) + 12345) - (((Int32.toInt64 (σ 1 (Int32.toNatClampNeg 58))) * 1103515245) + 12345) / 2147483648 * 2147483648))) 1 (Int32.toNatClampNeg 58)) / 65536) / x1 * x1) (tp_u σ 1 (Int32.toNatClampNeg 58) (Int64.toInt32 ((((Int32.toInt64 (σ 1 (Int32.toNatClampNeg 58))) * 1103515245) + 12345) - (((Int32.toInt64 (σ 1 (Int32.toNatClampNeg 58))) * 1103515245) + 12345) / 2147483648 * 2147483648)))))))) : Ci E TM yX10_draw iX10_draw d [.ref 0, .int x1] σ Q := Ci.of ⟨by decide +kernel, rfl, rfl⟩ (Nat.le_of_ble_eq_true rfl) (bX10_draw_0  x1 K)
theorem bX10_ones_0 {E : tp_E} {d : Nat} {Q : Int32 → tp_M → Prop} {σ : tp_M}   (x0 : Int32) (K : Wi E TM iX10_ones d Q 4 [(0, .int x0), (1, .int 0), (2, .int 0)] [] σ) : Wi E TM iX10_ones d Q 0 [(0, .int x0)] [] σ := by
  refine wp_iconst (v := 0) dX10_ones_0 rfl (by decide) ?_
  refine wp_istore_n [1, 0] dX10_ones_1 rfl rfl (by decide) rfl ?_
  show WP _ _ _ _ _ _ _ 2 [(0, .int x0), (1, .int 0)] _ _ _
  refine wp_iconst (v := 0) dX10_ones_2 rfl (by decide) ?_
  refine wp_istore_n [1, 2, 0] dX10_ones_3 rfl rfl (by decide) rfl ?_
  show WP _ _ _ _ _ _ _ 4 [(0, .int x0), (1, .int 0), (2, .int 0)] _ _ _
  exact K
theorem eX10_ones {E : tp_E} {d : Nat} {Q : Int32 → tp_M → Prop} {σ : tp_M}   (x0 : Int32) (K : Wi E TM iX10_ones d Q 4 [(0, .int x0), (1, .int 0), (2, .int 0)] [] σ) : Ci E TM yX10_ones iX10_ones d [.int x0] σ Q := Ci.of ⟨by decide +kernel, rfl, rfl⟩ (Nat.le_of_ble_eq_true rfl) (bX10_ones_0  x0 K)
theorem bX10_ones_4 {E : tp_E} {d : Nat} {Q : Int32 → tp_M → Prop} {σ : tp_M}   (x0 : Int32) (x1 : Int32) (x2 : Int32) (K : if 8 ≤ x2 then (Q x1 σ) else (Wi E TM iX10_ones d Q 4 [(0, .int x0), (1, .int (x1 + ((x0 >>> (x2 &&& 31)) &&& 1))), (2, .int (x2 + 1))] [] σ)) : Wi E TM iX10_ones d Q 4 [(0, .int x0), (1, .int x1), (2, .int x2)] [] σ := by
  refine wp_iload_n 2 dX10_ones_4 rfl rfl rfl ?_
  refine wp_bipush (v := 8) dX10_ones_5 rfl (by decide) ?_
  refine wp_icmp_ge 24 dX10_ones_7 (by decide) rfl (fun h1 => ?_) (fun h1 => ?_)
  · rw [if_pos h1] at K
    refine wp_iload_n 1 dX10_ones_24 rfl rfl rfl ?_
    exact wp_ret .int rfl rfl (Nat.le_refl 0) (Nat.le_refl 0) dX10_ones_25 ⟨rfl, _, rfl, K⟩
  · rw [if_neg h1] at K
    refine wp_iload_n 1 dX10_ones_10 rfl rfl rfl ?_
    refine wp_iload_n 0 dX10_ones_11 rfl rfl rfl ?_
    refine wp_iload_n 2 dX10_ones_12 rfl rfl rfl ?_
    refine wp_ishr dX10_ones_13 rfl ?_
    refine wp_iconst (v := 1) dX10_ones_14 rfl (by decide) ?_
    refine wp_iand dX10_ones_15 rfl ?_
    refine wp_iadd dX10_ones_16 rfl ?_
    refine wp_istore_n [1, 0, 2] dX10_ones_17 rfl rfl (by decide) rfl ?_
    show WP _ _ _ _ _ _ _ 18 [(0, .int x0), (1, .int (x1 + ((x0 >>> (x2 &&& 31)) &&& 1))), (2, .int x2)] _ _ _
    refine wp_iinc (v := x2 + 1) 2 [1, 2, 0] dX10_ones_18 rfl (by decide) rfl rfl rfl ?_
    show WP _ _ _ _ _ _ _ 21 [(0, .int x0), (1, .int (x1 + ((x0 >>> (x2 &&& 31)) &&& 1))), (2, .int (x2 + 1))] _ _ _
    refine wp_goto 4 dX10_ones_21 (by decide) ?_
    exact K
theorem bX10_nth_0 {E : tp_E} {d : Nat} {Q : Int32 → tp_M → Prop} {σ : tp_M}   (x0 : Int32) (x1 : Int32) (K : Wi E TM iX10_nth (d + 1) Q 4 [(0, .int x0), (1, .int x1), (2, .int 0), (3, .int 0)] [] σ) : Wi E TM iX10_nth (d + 1) Q 0 [(0, .int x0), (1, .int x1)] [] σ := by
  refine wp_iconst (v := 0) dX10_nth_0 rfl (by decide) ?_
  refine wp_istore_n [1, 2, 0] dX10_nth_1 rfl rfl (by decide) rfl ?_
  show WP _ _ _ _ _ _ _ 2 [(0, .int x0), (1, .int x1), (2, .int 0)] _ _ _
  refine wp_iconst (v := 0) dX10_nth_2 rfl (by decide) ?_
  refine wp_istore_n [1, 2, 3, 0] dX10_nth_3 rfl rfl (by decide) rfl ?_
  show WP _ _ _ _ _ _ _ 4 [(0, .int x0), (1, .int x1), (2, .int 0), (3, .int 0)] _ _ _
  exact K
theorem eX10_nth {E : tp_E} {d : Nat} {Q : Int32 → tp_M → Prop} {σ : tp_M}   (x0 : Int32) (x1 : Int32) (K : Wi E TM iX10_nth (d + 1) Q 4 [(0, .int x0), (1, .int x1), (2, .int 0), (3, .int 0)] [] σ) : Ci E TM yX10_nth iX10_nth (d + 1) [.int x0, .int x1] σ Q := Ci.of ⟨by decide +kernel, rfl, rfl⟩ (Nat.le_of_ble_eq_true rfl) (bX10_nth_0  x0 x1 K)
theorem bX10_nth_4 {E : tp_E} {d : Nat} {Q : Int32 → tp_M → Prop} {σ : tp_M}   (x0 : Int32) (x1 : Int32) (x2 : Int32) (x3 : Int32) (K : if 8 ≤ x3 then (Q (-1) σ) else (Ci E TM yX10_has iX10_has d [.int x0, .int x3] σ (fun v3 σ2 => if v3 = 0 then (Wi E TM iX10_nth (d + 1) Q 4 [(0, .int x0), (1, .int x1), (2, .int x2), (3, .int (x3 + 1))] [] σ2) else (if x2 = x1 then (Q x3 σ2) else (Wi E TM iX10_nth (d + 1) Q 4 [(0, .int x0), (1, .int x1), (2, .int (x2 + 1)), (3, .int (x3 + 1))] [] σ2))))) : Wi E TM iX10_nth (d + 1) Q 4 [(0, .int x0), (1, .int x1), (2, .int x2), (3, .int x3)] [] σ := by
  refine wp_iload_n 3 dX10_nth_4 rfl rfl rfl ?_
  refine wp_bipush (v := 8) dX10_nth_5 rfl (by decide) ?_
  refine wp_icmp_ge 34 dX10_nth_7 (by decide) rfl (fun h1 => ?_) (fun h1 => ?_)
  · rw [if_pos h1] at K
    refine wp_iconst (v := (-1)) dX10_nth_34 rfl (by decide) ?_
    exact wp_ret .int rfl rfl (Nat.le_refl 0) (Nat.le_refl 0) dX10_nth_35 ⟨rfl, _, rfl, K⟩
  · rw [if_neg h1] at K
    refine wp_iload_n 0 dX10_nth_10 rfl rfl rfl ?_
    refine wp_iload_n 3 dX10_nth_11 rfl rfl rfl ?_
    refine wn_callSi (As := [.int x0, .int x3]) (rest := []) kmX10_151 (by decide) rfl rfl (Nat.le_of_ble_eq_true rfl) dX10_nth_12 rfl ?_
    refine Ci.mono K (fun v3 σ2 K => ?_)
    refine wp_if_eq 28 dX10_nth_15 (by decide) rfl (fun h4 => ?_) (fun h4 => ?_)
    · rw [if_pos h4] at K
      refine wp_iinc (v := x3 + 1) 3 [1, 2, 3, 0] dX10_nth_28 rfl (by decide) rfl rfl rfl ?_
      show WP _ _ _ _ _ _ _ 31 [(0, .int x0), (1, .int x1), (2, .int x2), (3, .int (x3 + 1))] _ _ _
      refine wp_goto 4 dX10_nth_31 (by decide) ?_
      exact K
    · rw [if_neg h4] at K
      refine wp_iload_n 2 dX10_nth_18 rfl rfl rfl ?_
      refine wp_iload_n 1 dX10_nth_19 rfl rfl rfl ?_
      refine wp_icmp_ne 25 dX10_nth_20 (by decide) rfl (fun h5 => ?_) (fun h5 => ?_)
      · rw [if_neg h5] at K
        refine wp_iinc (v := x2 + 1) 2 [1, 2, 0, 3] dX10_nth_25 rfl (by decide) rfl rfl rfl ?_
        show WP _ _ _ _ _ _ _ 28 [(0, .int x0), (1, .int x1), (2, .int (x2 + 1)), (3, .int x3)] _ _ _
        refine wp_iinc (v := x3 + 1) 3 [1, 2, 3, 0] dX10_nth_28 rfl (by decide) rfl rfl rfl ?_
        show WP _ _ _ _ _ _ _ 31 [(0, .int x0), (1, .int x1), (2, .int (x2 + 1)), (3, .int (x3 + 1))] _ _ _
        refine wp_goto 4 dX10_nth_31 (by decide) ?_
        exact K
      · rw [if_pos h5] at K
        refine wp_iload_n 3 dX10_nth_23 rfl rfl rfl ?_
        exact wp_ret .int rfl rfl (Nat.le_refl 0) (Nat.le_refl 0) dX10_nth_24 ⟨rfl, _, rfl, K⟩
theorem bX10_where_0 {E : tp_E} {d : Nat} {Q : Int32 → tp_M → Prop} {σ : tp_M}   (x1 : Int32) (x2 : Int32) (K : Ci E TM yX10_isWaiter iX10_isWaiter d [.ref 0, .int x1] σ (fun v2 σ1 => if v2 = 0 then (Q (-1000000001) σ1) else (Ci E TM yX10_in iX10_in d [.long (Int32.toInt64 x2), .long 0, .long 20] σ1 (fun v5 σ4 => if v5 = 0 then (Q (-1000000002) σ4) else (Cv E TM yX10_tries iX10_tries d [.ref 0] σ4 (fun σ7 => Wi E TM iX10_where (d + 1) Q 32 [(0, .ref 0), (1, .int x1), (2, .int x2), (3, .int 0)] [] σ7)))))) : Wi E TM iX10_where (d + 1) Q 0 [(0, .ref 0), (1, .int x1), (2, .int x2)] [] σ := by
  refine wp_aload_n 0 dX10_where_0 rfl rfl rfl ?_
  refine wp_iload_n 1 dX10_where_1 rfl rfl rfl ?_
  refine wn_callVi (As := [.int x1]) (rest := []) 10 kmX10_100 (by decide) rfl rfl (Nat.le_of_ble_eq_true rfl) lM_0 (congrArg Prod.fst gM_0) dX10_where_2 rfl ?_
  refine Ci.mono K (fun v2 σ1 K => ?_)
  refine wp_if_ne 11 dX10_where_5 (by decide) rfl (fun h3 => ?_) (fun h3 => ?_)
  · rw [if_neg h3] at K
    refine wp_iload_n 2 dX10_where_11 rfl rfl rfl ?_
    refine wp_i2l dX10_where_12 rfl ?_
    refine wp_lconst (v := 0) dX10_where_13 rfl (by decide) ?_
    refine wp_ldc2 dX10_where_14 rfl tw_1301 ?_
    refine wn_callSi (As := [.long (Int32.toInt64 x2), .long 0, .long 20]) (rest := []) kmX10_93 (by decide) rfl rfl (Nat.le_of_ble_eq_true rfl) dX10_where_17 rfl ?_
    refine Ci.mono K (fun v5 σ4 K => ?_)
    refine wp_if_ne 26 dX10_where_20 (by decide) rfl (fun h6 => ?_) (fun h6 => ?_)
    · rw [if_neg h6] at K
      refine wp_aload_n 0 dX10_where_26 rfl rfl rfl ?_
      refine wn_callVv (As := []) (rest := []) 10 kmX10_282 (by decide) rfl rfl (Nat.le_of_ble_eq_true rfl) lM_0 (congrArg Prod.fst gM_0) dX10_where_27 rfl ?_
      refine Cv.mono K (fun σ7 K => ?_)
      refine wp_iconst (v := 0) dX10_where_30 rfl (by decide) ?_
      refine wp_istore_n [1, 2, 3, 0] dX10_where_31 rfl rfl (by decide) rfl ?_
      show WP _ _ _ _ _ _ _ 32 [(0, .ref 0), (1, .int x1), (2, .int x2), (3, .int 0)] _ _ _
      exact K
    · rw [if_pos h6] at K
      refine wp_ldc dX10_where_23 rfl tw_1108 ?_
      exact wp_ret .int rfl rfl (Nat.le_refl 0) (Nat.le_refl 0) dX10_where_25 ⟨rfl, _, rfl, K⟩
  · rw [if_pos h3] at K
    refine wp_ldc dX10_where_8 rfl tw_1191 ?_
    exact wp_ret .int rfl rfl (Nat.le_refl 0) (Nat.le_refl 0) dX10_where_10 ⟨rfl, _, rfl, K⟩
theorem eX10_where {E : tp_E} {d : Nat} {Q : Int32 → tp_M → Prop} {σ : tp_M}   (x1 : Int32) (x2 : Int32) (K : Ci E TM yX10_isWaiter iX10_isWaiter d [.ref 0, .int x1] σ (fun v2 σ1 => if v2 = 0 then (Q (-1000000001) σ1) else (Ci E TM yX10_in iX10_in d [.long (Int32.toInt64 x2), .long 0, .long 20] σ1 (fun v5 σ4 => if v5 = 0 then (Q (-1000000002) σ4) else (Cv E TM yX10_tries iX10_tries d [.ref 0] σ4 (fun σ7 => Wi E TM iX10_where (d + 1) Q 32 [(0, .ref 0), (1, .int x1), (2, .int x2), (3, .int 0)] [] σ7)))))) : Ci E TM yX10_where iX10_where (d + 1) [.ref 0, .int x1, .int x2] σ Q := Ci.of ⟨by decide +kernel, rfl, rfl⟩ (Nat.le_of_ble_eq_true rfl) (bX10_where_0  x1 x2 K)
theorem bX10_where_32 {E : tp_E} {d : Nat} {Q : Int32 → tp_M → Prop} {σ : tp_M}   (x1 : Int32) (x2 : Int32) (x3 : Int32) (K : if x2 ≤ x3 then (vp_in (61 + x1) 1416 ∧ (Q (σ 1 (Int32.toNatClampNeg (61 + x1))) σ)) else (Cv E TM yX10_walksAll iX10_walksAll d [.ref 0] σ (fun σ3 => Wi E TM iX10_where (d + 1) Q 32 [(0, .ref 0), (1, .int x1), (2, .int x2), (3, .int (x3 + 1))] [] σ3))) : Wi E TM iX10_where (d + 1) Q 32 [(0, .ref 0), (1, .int x1), (2, .int x2), (3, .int x3)] [] σ := by
  refine wp_iload_n 3 dX10_where_32 rfl rfl rfl ?_
  refine wp_iload_n 2 dX10_where_33 rfl rfl rfl ?_
  refine wp_icmp_ge 47 dX10_where_34 (by decide) rfl (fun h1 => ?_) (fun h1 => ?_)
  · rw [if_pos h1] at K
    refine wp_aload_n 0 dX10_where_47 rfl rfl rfl ?_
    refine wp_getR 10 0 kcX10 kfX10_7 rfl lM_0 (congrArg Prod.fst gM_0) rM_0_0 dX10_where_48 rfl ?_
    refine wp_bipush (v := 61) dX10_where_51 rfl (by decide) ?_
    refine wp_iload_n 1 dX10_where_53 rfl rfl rfl ?_
    refine wp_iadd dX10_where_54 rfl ?_
    obtain ⟨k2, K⟩ := K
    refine wn_iald lM_1 gM_1 k2 dX10_where_55 rfl ?_
    exact wp_ret .int rfl rfl (Nat.le_refl 0) (Nat.le_refl 0) dX10_where_56 ⟨rfl, _, rfl, K⟩
  · rw [if_neg h1] at K
    refine wp_aload_n 0 dX10_where_37 rfl rfl rfl ?_
    refine wn_callVv (As := []) (rest := []) 10 kmX10_285 (by decide) rfl rfl (Nat.le_of_ble_eq_true rfl) lM_0 (congrArg Prod.fst gM_0) dX10_where_38 rfl ?_
    refine Cv.mono K (fun σ3 K => ?_)
    refine wp_iinc (v := x3 + 1) 3 [1, 2, 3, 0] dX10_where_41 rfl (by decide) rfl rfl rfl ?_
    show WP _ _ _ _ _ _ _ 44 [(0, .ref 0), (1, .int x1), (2, .int x2), (3, .int (x3 + 1))] _ _ _
    refine wp_goto 32 dX10_where_44 (by decide) ?_
    exact K
theorem bX10_tries_0 {E : tp_E} {d : Nat} {Q : tp_M → Prop} {σ : tp_M}    (K : Cv E TM yX10_copy iX10_copy d [.ref 0, .int 0, .int 59] σ (fun σ1 => Q σ1)) : Wv E TM iX10_tries (d + 1) Q 0 [(0, .ref 0)] [] σ := by
  refine wp_aload_n 0 dX10_tries_0 rfl rfl rfl ?_
  refine wp_iconst (v := 0) dX10_tries_1 rfl (by decide) ?_
  refine wp_bipush (v := 59) dX10_tries_2 rfl (by decide) ?_
  refine wn_callVv (As := [.int 0, .int 59]) (rest := []) 10 kmX10_246 (by decide) rfl rfl (Nat.le_of_ble_eq_true rfl) lM_0 (congrArg Prod.fst gM_0) dX10_tries_4 rfl ?_
  refine Cv.mono K (fun σ1 K => ?_)
  exact wp_vret rfl (Nat.le_refl 0) (Nat.le_refl 0) dX10_tries_7 ⟨rfl, rfl, K⟩
theorem eX10_tries {E : tp_E} {d : Nat} {Q : tp_M → Prop} {σ : tp_M}    (K : Cv E TM yX10_copy iX10_copy d [.ref 0, .int 0, .int 59] σ (fun σ1 => Q σ1)) : Cv E TM yX10_tries iX10_tries (d + 1) [.ref 0] σ Q := Cv.of ⟨by decide +kernel, rfl, rfl⟩ (Nat.le_of_ble_eq_true rfl) (bX10_tries_0   K)
theorem bX10_walksAll_0 {E : tp_E} {d : Nat} {Q : tp_M → Prop} {σ : tp_M}    (K : Wv E TM iX10_walksAll (d + 1) Q 2 [(0, .ref 0), (1, .int 0)] [] σ) : Wv E TM iX10_walksAll (d + 1) Q 0 [(0, .ref 0)] [] σ := by
  refine wp_iconst (v := 0) dX10_walksAll_0 rfl (by decide) ?_
  refine wp_istore_n [1, 0] dX10_walksAll_1 rfl rfl (by decide) rfl ?_
  show WP _ _ _ _ _ _ _ 2 [(0, .ref 0), (1, .int 0)] _ _ _
  exact K
theorem eX10_walksAll {E : tp_E} {d : Nat} {Q : tp_M → Prop} {σ : tp_M}    (K : Wv E TM iX10_walksAll (d + 1) Q 2 [(0, .ref 0), (1, .int 0)] [] σ) : Cv E TM yX10_walksAll iX10_walksAll (d + 1) [.ref 0] σ Q := Cv.of ⟨by decide +kernel, rfl, rfl⟩ (Nat.le_of_ble_eq_true rfl) (bX10_walksAll_0   K)
theorem bX10_walksAll_2 {E : tp_E} {d : Nat} {Q : tp_M → Prop} {σ : tp_M}   (x1 : Int32) (K : if (σ 0 7) ≤ x1 then (Q σ) else (Cv E TM yX10_walks iX10_walks d [.ref 0, .int 59, .int x1] σ (fun σ2 => Wv E TM iX10_walksAll (d + 1) Q 2 [(0, .ref 0), (1, .int (x1 + 1))] [] σ2))) : Wv E TM iX10_walksAll (d + 1) Q 2 [(0, .ref 0), (1, .int x1)] [] σ := by
  refine wp_iload_n 1 dX10_walksAll_2 rfl rfl rfl ?_
  refine wp_aload_n 0 dX10_walksAll_3 rfl rfl rfl ?_
  refine wp_getI 10 7 kcX10 kfX10_97 rfl lM_0 (congrArg Prod.fst gM_0) dX10_walksAll_4 rfl ?_
  refine wp_icmp_ge 23 dX10_walksAll_7 (by decide) rfl (fun h1 => ?_) (fun h1 => ?_)
  · rw [if_pos h1] at K
    exact wp_vret rfl (Nat.le_refl 0) (Nat.le_refl 0) dX10_walksAll_23 ⟨rfl, rfl, K⟩
  · rw [if_neg h1] at K
    refine wp_aload_n 0 dX10_walksAll_10 rfl rfl rfl ?_
    refine wp_bipush (v := 59) dX10_walksAll_11 rfl (by decide) ?_
    refine wp_iload_n 1 dX10_walksAll_13 rfl rfl rfl ?_
    refine wn_callVv (As := [.int 59, .int x1]) (rest := []) 10 kmX10_235 (by decide) rfl rfl (Nat.le_of_ble_eq_true rfl) lM_0 (congrArg Prod.fst gM_0) dX10_walksAll_14 rfl ?_
    refine Cv.mono K (fun σ2 K => ?_)
    refine wp_iinc (v := x1 + 1) 1 [1, 0] dX10_walksAll_17 rfl (by decide) rfl rfl rfl ?_
    show WP _ _ _ _ _ _ _ 20 [(0, .ref 0), (1, .int (x1 + 1))] _ _ _
    refine wp_goto 2 dX10_walksAll_20 (by decide) ?_
    exact K
theorem bX10_meets_0 {E : tp_E} {d : Nat} {Q : Int32 → tp_M → Prop} {σ : tp_M}   (x1 : Int32) (x2 : Int32) (K : Ci E TM yX10_areTwo iX10_areTwo d [.ref 0, .int x1, .int x2] σ (fun v2 σ1 => if v2 = 0 then (Q (-1000000001) σ1) else (Cv E TM yX10_tries iX10_tries d [.ref 0] σ1 (fun σ4 => Wi E TM iX10_meets (d + 1) Q 18 [(0, .ref 0), (1, .int x1), (2, .int x2), (3, .int 1)] [] σ4)))) : Wi E TM iX10_meets (d + 1) Q 0 [(0, .ref 0), (1, .int x1), (2, .int x2)] [] σ := by
  refine wp_aload_n 0 dX10_meets_0 rfl rfl rfl ?_
  refine wp_iload_n 1 dX10_meets_1 rfl rfl rfl ?_
  refine wp_iload_n 2 dX10_meets_2 rfl rfl rfl ?_
  refine wn_callVi (As := [.int x1, .int x2]) (rest := []) 10 kmX10_261 (by decide) rfl rfl (Nat.le_of_ble_eq_true rfl) lM_0 (congrArg Prod.fst gM_0) dX10_meets_3 rfl ?_
  refine Ci.mono K (fun v2 σ1 K => ?_)
  refine wp_if_ne 12 dX10_meets_6 (by decide) rfl (fun h3 => ?_) (fun h3 => ?_)
  · rw [if_neg h3] at K
    refine wp_aload_n 0 dX10_meets_12 rfl rfl rfl ?_
    refine wn_callVv (As := []) (rest := []) 10 kmX10_282 (by decide) rfl rfl (Nat.le_of_ble_eq_true rfl) lM_0 (congrArg Prod.fst gM_0) dX10_meets_13 rfl ?_
    refine Cv.mono K (fun σ4 K => ?_)
    refine wp_iconst (v := 1) dX10_meets_16 rfl (by decide) ?_
    refine wp_istore_n [1, 2, 3, 0] dX10_meets_17 rfl rfl (by decide) rfl ?_
    show WP _ _ _ _ _ _ _ 18 [(0, .ref 0), (1, .int x1), (2, .int x2), (3, .int 1)] _ _ _
    exact K
  · rw [if_pos h3] at K
    refine wp_ldc dX10_meets_9 rfl tw_1191 ?_
    exact wp_ret .int rfl rfl (Nat.le_refl 0) (Nat.le_refl 0) dX10_meets_11 ⟨rfl, _, rfl, K⟩
theorem eX10_meets {E : tp_E} {d : Nat} {Q : Int32 → tp_M → Prop} {σ : tp_M}   (x1 : Int32) (x2 : Int32) (K : Ci E TM yX10_areTwo iX10_areTwo d [.ref 0, .int x1, .int x2] σ (fun v2 σ1 => if v2 = 0 then (Q (-1000000001) σ1) else (Cv E TM yX10_tries iX10_tries d [.ref 0] σ1 (fun σ4 => Wi E TM iX10_meets (d + 1) Q 18 [(0, .ref 0), (1, .int x1), (2, .int x2), (3, .int 1)] [] σ4)))) : Ci E TM yX10_meets iX10_meets (d + 1) [.ref 0, .int x1, .int x2] σ Q := Ci.of ⟨by decide +kernel, rfl, rfl⟩ (Nat.le_of_ble_eq_true rfl) (bX10_meets_0  x1 x2 K)
theorem bX10_meets_18 {E : tp_E} {d : Nat} {Q : Int32 → tp_M → Prop} {σ : tp_M}   (x1 : Int32) (x2 : Int32) (x3 : Int32) (K : if 20 < x3 then (Q (-1) σ) else (Cv E TM yX10_walksAll iX10_walksAll d [.ref 0] σ (fun σ2 => Ci E TM yX10_haveMet iX10_haveMet d [.ref 0, .int 59, .int x1, .int x2] σ2 (fun v4 σ3 => if v4 = 0 then (Wi E TM iX10_meets (d + 1) Q 18 [(0, .ref 0), (1, .int x1), (2, .int x2), (3, .int (x3 + 1))] [] σ3) else (Q x3 σ3))))) : Wi E TM iX10_meets (d + 1) Q 18 [(0, .ref 0), (1, .int x1), (2, .int x2), (3, .int x3)] [] σ := by
  refine wp_iload_n 3 dX10_meets_18 rfl rfl rfl ?_
  refine wp_bipush (v := 20) dX10_meets_19 rfl (by decide) ?_
  refine wp_icmp_gt 47 dX10_meets_21 (by decide) rfl (fun h1 => ?_) (fun h1 => ?_)
  · rw [if_pos h1] at K
    refine wp_iconst (v := (-1)) dX10_meets_47 rfl (by decide) ?_
    exact wp_ret .int rfl rfl (Nat.le_refl 0) (Nat.le_refl 0) dX10_meets_48 ⟨rfl, _, rfl, K⟩
  · rw [if_neg h1] at K
    refine wp_aload_n 0 dX10_meets_24 rfl rfl rfl ?_
    refine wn_callVv (As := []) (rest := []) 10 kmX10_285 (by decide) rfl rfl (Nat.le_of_ble_eq_true rfl) lM_0 (congrArg Prod.fst gM_0) dX10_meets_25 rfl ?_
    refine Cv.mono K (fun σ2 K => ?_)
    refine wp_aload_n 0 dX10_meets_28 rfl rfl rfl ?_
    refine wp_bipush (v := 59) dX10_meets_29 rfl (by decide) ?_
    refine wp_iload_n 1 dX10_meets_31 rfl rfl rfl ?_
    refine wp_iload_n 2 dX10_meets_32 rfl rfl rfl ?_
    refine wn_callVi (As := [.int 59, .int x1, .int x2]) (rest := []) 10 kmX10_239 (by decide) rfl rfl (Nat.le_of_ble_eq_true rfl) lM_0 (congrArg Prod.fst gM_0) dX10_meets_33 rfl ?_
    refine Ci.mono K (fun v4 σ3 K => ?_)
    refine wp_if_eq 41 dX10_meets_36 (by decide) rfl (fun h5 => ?_) (fun h5 => ?_)
    · rw [if_pos h5] at K
      refine wp_iinc (v := x3 + 1) 3 [1, 2, 3, 0] dX10_meets_41 rfl (by decide) rfl rfl rfl ?_
      show WP _ _ _ _ _ _ _ 44 [(0, .ref 0), (1, .int x1), (2, .int x2), (3, .int (x3 + 1))] _ _ _
      refine wp_goto 18 dX10_meets_44 (by decide) ?_
      exact K
    · rw [if_neg h5] at K
      refine wp_iload_n 3 dX10_meets_39 rfl rfl rfl ?_
      exact wp_ret .int rfl rfl (Nat.le_refl 0) (Nat.le_refl 0) dX10_meets_40 ⟨rfl, _, rfl, K⟩
theorem bX10_way_0 {E : tp_E} {d : Nat} {Q : Int32 → tp_M → Prop} {σ : tp_M}   (x1 : Int32) (x2 : Int32) (x3 : Int32) (K : Ci E TM yX10_isRoom iX10_isRoom d [.ref 0, .int x1] σ (fun v2 σ1 => if v2 = 0 then (Q (-1000000001) σ1) else (Ci E TM yX10_isRoom iX10_isRoom d [.ref 0, .int x2] σ1 (fun v5 σ4 => if v5 = 0 then (Q (-1000000001) σ4) else (Ci E TM yX10_in iX10_in d [.long (Int32.toInt64 x3), .long 0, .long 1] σ4 (fun v8 σ7 => if v8 = 0 then (Q (-1000000002) σ7) else (Ci E TM yX10_wayOf iX10_wayOf d [.ref 0, .int x1, .int x2] σ7 (fun v11 σ10 => if v11 = 1000000 then (Q (-1) σ10) else (if x3 = 0 then (Ci E TM yX10_wayOf iX10_wayOf d [.ref 0, .int x1, .int x2] σ10 (fun v17 σ16 => Q v17 σ16)) else (Ci E TM yX10_nextOf iX10_nextOf d [.ref 0, .int x1, .int x2] σ10 (fun v15 σ14 => Q v15 σ14))))))))))) : Wi E TM iX10_way (d + 1) Q 0 [(0, .ref 0), (1, .int x1), (2, .int x2), (3, .int x3)] [] σ := by
  refine wp_aload_n 0 dX10_way_0 rfl rfl rfl ?_
  refine wp_iload_n 1 dX10_way_1 rfl rfl rfl ?_
  refine wn_callVi (As := [.int x1]) (rest := []) 10 kmX10_216 (by decide) rfl rfl (Nat.le_of_ble_eq_true rfl) lM_0 (congrArg Prod.fst gM_0) dX10_way_2 rfl ?_
  refine Ci.mono K (fun v2 σ1 K => ?_)
  refine wp_if_eq 16 dX10_way_5 (by decide) rfl (fun h3 => ?_) (fun h3 => ?_)
  · rw [if_pos h3] at K
    refine wp_ldc dX10_way_16 rfl tw_1191 ?_
    exact wp_ret .int rfl rfl (Nat.le_refl 0) (Nat.le_refl 0) dX10_way_18 ⟨rfl, _, rfl, K⟩
  · rw [if_neg h3] at K
    refine wp_aload_n 0 dX10_way_8 rfl rfl rfl ?_
    refine wp_iload_n 2 dX10_way_9 rfl rfl rfl ?_
    refine wn_callVi (As := [.int x2]) (rest := []) 10 kmX10_216 (by decide) rfl rfl (Nat.le_of_ble_eq_true rfl) lM_0 (congrArg Prod.fst gM_0) dX10_way_10 rfl ?_
    refine Ci.mono K (fun v5 σ4 K => ?_)
    refine wp_if_ne 19 dX10_way_13 (by decide) rfl (fun h6 => ?_) (fun h6 => ?_)
    · rw [if_neg h6] at K
      refine wp_iload_n 3 dX10_way_19 rfl rfl rfl ?_
      refine wp_i2l dX10_way_20 rfl ?_
      refine wp_lconst (v := 0) dX10_way_21 rfl (by decide) ?_
      refine wp_lconst (v := 1) dX10_way_22 rfl (by decide) ?_
      refine wn_callSi (As := [.long (Int32.toInt64 x3), .long 0, .long 1]) (rest := []) kmX10_93 (by decide) rfl rfl (Nat.le_of_ble_eq_true rfl) dX10_way_23 rfl ?_
      refine Ci.mono K (fun v8 σ7 K => ?_)
      refine wp_if_ne 32 dX10_way_26 (by decide) rfl (fun h9 => ?_) (fun h9 => ?_)
      · rw [if_neg h9] at K
        refine wp_aload_n 0 dX10_way_32 rfl rfl rfl ?_
        refine wp_iload_n 1 dX10_way_33 rfl rfl rfl ?_
        refine wp_iload_n 2 dX10_way_34 rfl rfl rfl ?_
        refine wn_callVi (As := [.int x1, .int x2]) (rest := []) 10 kmX10_289 (by decide) rfl rfl (Nat.le_of_ble_eq_true rfl) lM_0 (congrArg Prod.fst gM_0) dX10_way_35 rfl ?_
        refine Ci.mono K (fun v11 σ10 K => ?_)
        refine wp_ldcw dX10_way_38 rfl tw_1322 ?_
        refine wp_icmp_ne 46 dX10_way_41 (by decide) rfl (fun h12 => ?_) (fun h12 => ?_)
        · rw [if_neg h12] at K
          refine wp_iload_n 3 dX10_way_46 rfl rfl rfl ?_
          refine wp_if_ne 59 dX10_way_47 (by decide) rfl (fun h13 => ?_) (fun h13 => ?_)
          · rw [if_neg h13] at K
            refine wp_aload_n 0 dX10_way_59 rfl rfl rfl ?_
            refine wp_iload_n 1 dX10_way_60 rfl rfl rfl ?_
            refine wp_iload_n 2 dX10_way_61 rfl rfl rfl ?_
            refine wn_callVi (As := [.int x1, .int x2]) (rest := []) 10 kmX10_292 (by decide) rfl rfl (Nat.le_of_ble_eq_true rfl) lM_0 (congrArg Prod.fst gM_0) dX10_way_62 rfl ?_
            refine Ci.mono K (fun v15 σ14 K => ?_)
            exact wp_ret .int rfl rfl (Nat.le_refl 0) (Nat.le_refl 0) dX10_way_65 ⟨rfl, _, rfl, K⟩
          · rw [if_pos h13] at K
            refine wp_aload_n 0 dX10_way_50 rfl rfl rfl ?_
            refine wp_iload_n 1 dX10_way_51 rfl rfl rfl ?_
            refine wp_iload_n 2 dX10_way_52 rfl rfl rfl ?_
            refine wn_callVi (As := [.int x1, .int x2]) (rest := []) 10 kmX10_289 (by decide) rfl rfl (Nat.le_of_ble_eq_true rfl) lM_0 (congrArg Prod.fst gM_0) dX10_way_53 rfl ?_
            refine Ci.mono K (fun v17 σ16 K => ?_)
            refine wp_goto 65 dX10_way_56 (by decide) ?_
            exact wp_ret .int rfl rfl (Nat.le_refl 0) (Nat.le_refl 0) dX10_way_65 ⟨rfl, _, rfl, K⟩
        · rw [if_pos h12] at K
          refine wp_iconst (v := (-1)) dX10_way_44 rfl (by decide) ?_
          exact wp_ret .int rfl rfl (Nat.le_refl 0) (Nat.le_refl 0) dX10_way_45 ⟨rfl, _, rfl, K⟩
      · rw [if_pos h9] at K
        refine wp_ldc dX10_way_29 rfl tw_1108 ?_
        exact wp_ret .int rfl rfl (Nat.le_refl 0) (Nat.le_refl 0) dX10_way_31 ⟨rfl, _, rfl, K⟩
    · rw [if_pos h6] at K
      refine wp_ldc dX10_way_16 rfl tw_1191 ?_
      exact wp_ret .int rfl rfl (Nat.le_refl 0) (Nat.le_refl 0) dX10_way_18 ⟨rfl, _, rfl, K⟩
theorem eX10_way {E : tp_E} {d : Nat} {Q : Int32 → tp_M → Prop} {σ : tp_M}   (x1 : Int32) (x2 : Int32) (x3 : Int32) (K : Ci E TM yX10_isRoom iX10_isRoom d [.ref 0, .int x1] σ (fun v2 σ1 => if v2 = 0 then (Q (-1000000001) σ1) else (Ci E TM yX10_isRoom iX10_isRoom d [.ref 0, .int x2] σ1 (fun v5 σ4 => if v5 = 0 then (Q (-1000000001) σ4) else (Ci E TM yX10_in iX10_in d [.long (Int32.toInt64 x3), .long 0, .long 1] σ4 (fun v8 σ7 => if v8 = 0 then (Q (-1000000002) σ7) else (Ci E TM yX10_wayOf iX10_wayOf d [.ref 0, .int x1, .int x2] σ7 (fun v11 σ10 => if v11 = 1000000 then (Q (-1) σ10) else (if x3 = 0 then (Ci E TM yX10_wayOf iX10_wayOf d [.ref 0, .int x1, .int x2] σ10 (fun v17 σ16 => Q v17 σ16)) else (Ci E TM yX10_nextOf iX10_nextOf d [.ref 0, .int x1, .int x2] σ10 (fun v15 σ14 => Q v15 σ14))))))))))) : Ci E TM yX10_way iX10_way (d + 1) [.ref 0, .int x1, .int x2, .int x3] σ Q := Ci.of ⟨by decide +kernel, rfl, rfl⟩ (Nat.le_of_ble_eq_true rfl) (bX10_way_0  x1 x2 x3 K)
theorem bX10_wayOf_0 {E : tp_E} {d : Nat} {Q : Int32 → tp_M → Prop} {σ : tp_M}   (x1 : Int32) (x2 : Int32) (K : Wi E TM iX10_wayOf (d + 1) Q 7 [(0, .ref 0), (2, .int x2), (3, .int (1 <<< (x1 &&& 31))), (4, .int 0)] [] σ) : Wi E TM iX10_wayOf (d + 1) Q 0 [(0, .ref 0), (1, .int x1), (2, .int x2)] [] σ := by
  refine wp_iconst (v := 1) dX10_wayOf_0 rfl (by decide) ?_
  refine wp_iload_n 1 dX10_wayOf_1 rfl rfl rfl ?_
  refine wp_ishl dX10_wayOf_2 rfl ?_
  refine wp_istore_n [1, 2, 3, 0] dX10_wayOf_3 rfl rfl (by decide) rfl ?_
  show WP _ _ _ _ _ _ _ 4 [(0, .ref 0), (1, .int x1), (2, .int x2), (3, .int (1 <<< (x1 &&& 31)))] _ _ _
  refine wp_iconst (v := 0) dX10_wayOf_4 rfl (by decide) ?_
  refine wp_istore [1, 2, 3, 4, 0] dX10_wayOf_5 rfl (by decide) rfl ?_
  show WP _ _ _ _ _ _ _ 7 [(0, .ref 0), (1, .int x1), (2, .int x2), (3, .int (1 <<< (x1 &&& 31))), (4, .int 0)] _ _ _
  refine wp_lv [0, 2, 3, 4] rfl ?_
  exact K
theorem eX10_wayOf {E : tp_E} {d : Nat} {Q : Int32 → tp_M → Prop} {σ : tp_M}   (x1 : Int32) (x2 : Int32) (K : Wi E TM iX10_wayOf (d + 1) Q 7 [(0, .ref 0), (2, .int x2), (3, .int (1 <<< (x1 &&& 31))), (4, .int 0)] [] σ) : Ci E TM yX10_wayOf iX10_wayOf (d + 1) [.ref 0, .int x1, .int x2] σ Q := Ci.of ⟨by decide +kernel, rfl, rfl⟩ (Nat.le_of_ble_eq_true rfl) (bX10_wayOf_0  x1 x2 K)
theorem bX10_wayOf_7 {E : tp_E} {d : Nat} {Q : Int32 → tp_M → Prop} {σ : tp_M}   (x2 : Int32) (x3 : Int32) (x4 : Int32) (K : if 8 ≤ x4 then (Q 1000000 σ) else (Ci E TM yX10_has iX10_has d [.int x3, .int x2] σ (fun v3 σ2 => if v3 = 0 then (Wi E TM iX10_wayOf (d + 1) Q 31 [(0, .ref 0), (2, .int x2), (3, .int x3), (4, .int x4), (5, .int x3), (6, .int 0)] [] σ2) else (Q x4 σ2)))) : Wi E TM iX10_wayOf (d + 1) Q 7 [(0, .ref 0), (2, .int x2), (3, .int x3), (4, .int x4)] [] σ := by
  refine wp_iload 3 dX10_wayOf_7 rfl rfl ?_
  refine wp_bipush (v := 8) dX10_wayOf_9 rfl (by decide) ?_
  refine wp_icmp_ge 80 dX10_wayOf_11 (by decide) rfl (fun h1 => ?_) (fun h1 => ?_)
  · rw [if_pos h1] at K
    refine wp_ldcw dX10_wayOf_80 rfl tw_1322 ?_
    exact wp_ret .int rfl rfl (Nat.le_refl 0) (Nat.le_refl 0) dX10_wayOf_83 ⟨rfl, _, rfl, K⟩
  · rw [if_neg h1] at K
    refine wp_iload_n 2 dX10_wayOf_14 rfl rfl rfl ?_
    refine wp_iload_n 1 dX10_wayOf_15 rfl rfl rfl ?_
    refine wn_callSi (As := [.int x3, .int x2]) (rest := []) kmX10_151 (by decide) rfl rfl (Nat.le_of_ble_eq_true rfl) dX10_wayOf_16 rfl ?_
    refine Ci.mono K (fun v3 σ2 K => ?_)
    refine wp_if_eq 25 dX10_wayOf_19 (by decide) rfl (fun h4 => ?_) (fun h4 => ?_)
    · rw [if_pos h4] at K
      refine wp_iload_n 2 dX10_wayOf_25 rfl rfl rfl ?_
      refine wp_istore [1, 2, 3, 4, 0] dX10_wayOf_26 rfl (by decide) rfl ?_
      show WP _ _ _ _ _ _ _ 28 [(0, .ref 0), (2, .int x2), (3, .int x3), (4, .int x4), (5, .int x3)] _ _ _
      refine wp_iconst (v := 0) dX10_wayOf_28 rfl (by decide) ?_
      refine wp_istore [1, 2, 3, 4, 5, 0] dX10_wayOf_29 rfl (by decide) rfl ?_
      show WP _ _ _ _ _ _ _ 31 [(0, .ref 0), (2, .int x2), (3, .int x3), (4, .int x4), (5, .int x3), (6, .int 0)] _ _ _
      exact K
    · rw [if_neg h4] at K
      refine wp_iload 3 dX10_wayOf_22 rfl rfl ?_
      exact wp_ret .int rfl rfl (Nat.le_refl 0) (Nat.le_refl 0) dX10_wayOf_24 ⟨rfl, _, rfl, K⟩
theorem bX10_wayOf_31 {E : tp_E} {d : Nat} {Q : Int32 → tp_M → Prop} {σ : tp_M}   (x2 : Int32) (x3 : Int32) (x4 : Int32) (x5 : Int32) (x6 : Int32) (K : if (σ 0 3) ≤ x6 then (Wi E TM iX10_wayOf (d + 1) Q 7 [(0, .ref 0), (2, .int x2), (3, .int x5), (4, .int (x4 + 1))] [] σ) else (Ci E TM yX10_has iX10_has d [.int x3, .int x6] σ (fun v3 σ2 => if v3 = 0 then (Wi E TM iX10_wayOf (d + 1) Q 31 [(0, .ref 0), (2, .int x2), (3, .int x3), (4, .int x4), (5, .int (x5 ||| 0)), (6, .int (x6 + 1))] [] σ2) else (vp_in x6 8 ∧ (Wi E TM iX10_wayOf (d + 1) Q 31 [(0, .ref 0), (2, .int x2), (3, .int x3), (4, .int x4), (5, .int (x5 ||| (σ2 3 (Int32.toNatClampNeg x6)))), (6, .int (x6 + 1))] [] σ2))))) : Wi E TM iX10_wayOf (d + 1) Q 31 [(0, .ref 0), (2, .int x2), (3, .int x3), (4, .int x4), (5, .int x5), (6, .int x6)] [] σ := by
  refine wp_iload 5 dX10_wayOf_31 rfl rfl ?_
  refine wp_aload_n 0 dX10_wayOf_33 rfl rfl rfl ?_
  refine wp_getI 10 3 kcX10 kfX10_90 rfl lM_0 (congrArg Prod.fst gM_0) dX10_wayOf_34 rfl ?_
  refine wp_icmp_ge 71 dX10_wayOf_37 (by decide) rfl (fun h1 => ?_) (fun h1 => ?_)
  · rw [if_pos h1] at K
    refine wp_iload 4 dX10_wayOf_71 rfl rfl ?_
    refine wp_istore_n [1, 2, 0, 3, 4, 5] dX10_wayOf_73 rfl rfl (by decide) rfl ?_
    show WP _ _ _ _ _ _ _ 74 [(0, .ref 0), (2, .int x2), (3, .int x5), (4, .int x4), (5, .int x5), (6, .int x6)] _ _ _
    refine wp_iinc (v := x4 + 1) 3 [1, 2, 3, 0, 4, 5] dX10_wayOf_74 rfl (by decide) rfl rfl rfl ?_
    show WP _ _ _ _ _ _ _ 77 [(0, .ref 0), (2, .int x2), (3, .int x5), (4, .int (x4 + 1)), (5, .int x5), (6, .int x6)] _ _ _
    refine wp_goto 7 dX10_wayOf_77 (by decide) ?_
    refine wp_lv [0, 1, 2, 3] rfl ?_
    exact K
  · rw [if_neg h1] at K
    refine wp_iload 4 dX10_wayOf_40 rfl rfl ?_
    refine wp_iload_n 2 dX10_wayOf_42 rfl rfl rfl ?_
    refine wp_iload 5 dX10_wayOf_43 rfl rfl ?_
    refine wn_callSi (As := [.int x3, .int x6]) (rest := [.int x5]) kmX10_151 (by decide) rfl rfl (Nat.le_of_ble_eq_true rfl) dX10_wayOf_45 rfl ?_
    refine Ci.mono K (fun v3 σ2 K => ?_)
    refine wp_if_eq 61 dX10_wayOf_48 (by decide) rfl (fun h4 => ?_) (fun h4 => ?_)
    · rw [if_pos h4] at K
      refine wp_iconst (v := 0) dX10_wayOf_61 rfl (by decide) ?_
      refine wp_ior dX10_wayOf_62 rfl ?_
      refine wp_istore [1, 2, 3, 4, 0, 5] dX10_wayOf_63 rfl (by decide) rfl ?_
      show WP _ _ _ _ _ _ _ 65 [(0, .ref 0), (2, .int x2), (3, .int x3), (4, .int x4), (5, .int (x5 ||| 0)), (6, .int x6)] _ _ _
      refine wp_iinc (v := x6 + 1) 5 [1, 2, 3, 4, 5, 0] dX10_wayOf_65 rfl (by decide) rfl rfl rfl ?_
      show WP _ _ _ _ _ _ _ 68 [(0, .ref 0), (2, .int x2), (3, .int x3), (4, .int x4), (5, .int (x5 ||| 0)), (6, .int (x6 + 1))] _ _ _
      refine wp_goto 31 dX10_wayOf_68 (by decide) ?_
      exact K
    · rw [if_neg h4] at K
      refine wp_aload_n 0 dX10_wayOf_51 rfl rfl rfl ?_
      refine wp_getR 10 6 kcX10 kfX10_17 rfl lM_0 (congrArg Prod.fst gM_0) rM_0_6 dX10_wayOf_52 rfl ?_
      refine wp_iload 5 dX10_wayOf_55 rfl rfl ?_
      obtain ⟨k5, K⟩ := K
      refine wn_iald lM_3 gM_3 k5 dX10_wayOf_57 rfl ?_
      refine wp_goto 62 dX10_wayOf_58 (by decide) ?_
      refine wp_ior dX10_wayOf_62 rfl ?_
      refine wp_istore [1, 2, 3, 4, 0, 5] dX10_wayOf_63 rfl (by decide) rfl ?_
      show WP _ _ _ _ _ _ _ 65 [(0, .ref 0), (2, .int x2), (3, .int x3), (4, .int x4), (5, .int (x5 ||| (σ2 3 (Int32.toNatClampNeg x6)))), (6, .int x6)] _ _ _
      refine wp_iinc (v := x6 + 1) 5 [1, 2, 3, 4, 5, 0] dX10_wayOf_65 rfl (by decide) rfl rfl rfl ?_
      show WP _ _ _ _ _ _ _ 68 [(0, .ref 0), (2, .int x2), (3, .int x3), (4, .int x4), (5, .int (x5 ||| (σ2 3 (Int32.toNatClampNeg x6)))), (6, .int (x6 + 1))] _ _ _
      refine wp_goto 31 dX10_wayOf_68 (by decide) ?_
      exact K
theorem bX10_nextOf_0 {E : tp_E} {d : Nat} {Q : Int32 → tp_M → Prop} {σ : tp_M}   (x1 : Int32) (x2 : Int32) (K : Ci E TM yX10_wayOf iX10_wayOf d [.ref 0, .int x1, .int x2] σ (fun v2 σ1 => Wi E TM iX10_nextOf (d + 1) Q 10 [(0, .ref 0), (1, .int x1), (2, .int x2), (3, .int v2), (4, .int 0)] [] σ1)) : Wi E TM iX10_nextOf (d + 1) Q 0 [(0, .ref 0), (1, .int x1), (2, .int x2)] [] σ := by
  refine wp_aload_n 0 dX10_nextOf_0 rfl rfl rfl ?_
  refine wp_iload_n 1 dX10_nextOf_1 rfl rfl rfl ?_
  refine wp_iload_n 2 dX10_nextOf_2 rfl rfl rfl ?_
  refine wn_callVi (As := [.int x1, .int x2]) (rest := []) 10 kmX10_289 (by decide) rfl rfl (Nat.le_of_ble_eq_true rfl) lM_0 (congrArg Prod.fst gM_0) dX10_nextOf_3 rfl ?_
  refine Ci.mono K (fun v2 σ1 K => ?_)
  refine wp_istore_n [1, 2, 3, 0] dX10_nextOf_6 rfl rfl (by decide) rfl ?_
  show WP _ _ _ _ _ _ _ 7 [(0, .ref 0), (1, .int x1), (2, .int x2), (3, .int v2)] _ _ _
  refine wp_iconst (v := 0) dX10_nextOf_7 rfl (by decide) ?_
  refine wp_istore [1, 2, 3, 4, 0] dX10_nextOf_8 rfl (by decide) rfl ?_
  show WP _ _ _ _ _ _ _ 10 [(0, .ref 0), (1, .int x1), (2, .int x2), (3, .int v2), (4, .int 0)] _ _ _
  exact K
theorem eX10_nextOf {E : tp_E} {d : Nat} {Q : Int32 → tp_M → Prop} {σ : tp_M}   (x1 : Int32) (x2 : Int32) (K : Ci E TM yX10_wayOf iX10_wayOf d [.ref 0, .int x1, .int x2] σ (fun v2 σ1 => Wi E TM iX10_nextOf (d + 1) Q 10 [(0, .ref 0), (1, .int x1), (2, .int x2), (3, .int v2), (4, .int 0)] [] σ1)) : Ci E TM yX10_nextOf iX10_nextOf (d + 1) [.ref 0, .int x1, .int x2] σ Q := Ci.of ⟨by decide +kernel, rfl, rfl⟩ (Nat.le_of_ble_eq_true rfl) (bX10_nextOf_0  x1 x2 K)
theorem bX10_nextOf_10 {E : tp_E} {d : Nat} {Q : Int32 → tp_M → Prop} {σ : tp_M}   (x1 : Int32) (x2 : Int32) (x3 : Int32) (x4 : Int32) (K : if (σ 0 3) ≤ x4 then (Q (-1) σ) else (if x3 ≤ 0 then (Q (-1) σ) else (vp_in x1 8 ∧ (Ci E TM yX10_has iX10_has d [.int (σ 3 (Int32.toNatClampNeg x1)), .int x4] σ (fun v5 σ4 => if v5 = 0 then (Wi E TM iX10_nextOf (d + 1) Q 10 [(0, .ref 0), (1, .int x1), (2, .int x2), (3, .int x3), (4, .int (x4 + 1))] [] σ4) else (Ci E TM yX10_wayOf iX10_wayOf d [.ref 0, .int x4, .int x2] σ4 (fun v8 σ7 => if v8 = (x3 - 1) then (Q x4 σ7) else (Wi E TM iX10_nextOf (d + 1) Q 10 [(0, .ref 0), (1, .int x1), (2, .int x2), (3, .int x3), (4, .int (x4 + 1))] [] σ7)))))))) : Wi E TM iX10_nextOf (d + 1) Q 10 [(0, .ref 0), (1, .int x1), (2, .int x2), (3, .int x3), (4, .int x4)] [] σ := by
  refine wp_iload 4 dX10_nextOf_10 rfl rfl ?_
  refine wp_aload_n 0 dX10_nextOf_12 rfl rfl rfl ?_
  refine wp_getI 10 3 kcX10 kfX10_90 rfl lM_0 (congrArg Prod.fst gM_0) dX10_nextOf_13 rfl ?_
  refine wp_icmp_ge 59 dX10_nextOf_16 (by decide) rfl (fun h1 => ?_) (fun h1 => ?_)
  · rw [if_pos h1] at K
    refine wp_iconst (v := (-1)) dX10_nextOf_59 rfl (by decide) ?_
    exact wp_ret .int rfl rfl (Nat.le_refl 0) (Nat.le_refl 0) dX10_nextOf_60 ⟨rfl, _, rfl, K⟩
  · rw [if_neg h1] at K
    refine wp_iload_n 3 dX10_nextOf_19 rfl rfl rfl ?_
    refine wp_if_le 59 dX10_nextOf_20 (by decide) rfl (fun h2 => ?_) (fun h2 => ?_)
    · rw [if_pos h2] at K
      refine wp_iconst (v := (-1)) dX10_nextOf_59 rfl (by decide) ?_
      exact wp_ret .int rfl rfl (Nat.le_refl 0) (Nat.le_refl 0) dX10_nextOf_60 ⟨rfl, _, rfl, K⟩
    · rw [if_neg h2] at K
      refine wp_aload_n 0 dX10_nextOf_23 rfl rfl rfl ?_
      refine wp_getR 10 6 kcX10 kfX10_17 rfl lM_0 (congrArg Prod.fst gM_0) rM_0_6 dX10_nextOf_24 rfl ?_
      refine wp_iload_n 1 dX10_nextOf_27 rfl rfl rfl ?_
      obtain ⟨k3, K⟩ := K
      refine wn_iald lM_3 gM_3 k3 dX10_nextOf_28 rfl ?_
      refine wp_iload 4 dX10_nextOf_29 rfl rfl ?_
      refine wn_callSi (As := [.int (σ 3 (Int32.toNatClampNeg x1)), .int x4]) (rest := []) kmX10_151 (by decide) rfl rfl (Nat.le_of_ble_eq_true rfl) dX10_nextOf_31 rfl ?_
      refine Ci.mono K (fun v5 σ4 K => ?_)
      refine wp_if_eq 53 dX10_nextOf_34 (by decide) rfl (fun h6 => ?_) (fun h6 => ?_)
      · rw [if_pos h6] at K
        refine wp_iinc (v := x4 + 1) 4 [1, 2, 3, 4, 0] dX10_nextOf_53 rfl (by decide) rfl rfl rfl ?_
        show WP _ _ _ _ _ _ _ 56 [(0, .ref 0), (1, .int x1), (2, .int x2), (3, .int x3), (4, .int (x4 + 1))] _ _ _
        refine wp_goto 10 dX10_nextOf_56 (by decide) ?_
        exact K
      · rw [if_neg h6] at K
        refine wp_aload_n 0 dX10_nextOf_37 rfl rfl rfl ?_
        refine wp_iload 4 dX10_nextOf_38 rfl rfl ?_
        refine wp_iload_n 2 dX10_nextOf_40 rfl rfl rfl ?_
        refine wn_callVi (As := [.int x4, .int x2]) (rest := []) 10 kmX10_289 (by decide) rfl rfl (Nat.le_of_ble_eq_true rfl) lM_0 (congrArg Prod.fst gM_0) dX10_nextOf_41 rfl ?_
        refine Ci.mono K (fun v8 σ7 K => ?_)
        refine wp_iload_n 3 dX10_nextOf_44 rfl rfl rfl ?_
        refine wp_iconst (v := 1) dX10_nextOf_45 rfl (by decide) ?_
        refine wp_isub dX10_nextOf_46 rfl ?_
        refine wp_icmp_ne 53 dX10_nextOf_47 (by decide) rfl (fun h9 => ?_) (fun h9 => ?_)
        · rw [if_neg h9] at K
          refine wp_iinc (v := x4 + 1) 4 [1, 2, 3, 4, 0] dX10_nextOf_53 rfl (by decide) rfl rfl rfl ?_
          show WP _ _ _ _ _ _ _ 56 [(0, .ref 0), (1, .int x1), (2, .int x2), (3, .int x3), (4, .int (x4 + 1))] _ _ _
          refine wp_goto 10 dX10_nextOf_56 (by decide) ?_
          exact K
        · rw [if_pos h9] at K
          refine wp_iload 4 dX10_nextOf_50 rfl rfl ?_
          exact wp_ret .int rfl rfl (Nat.le_refl 0) (Nat.le_refl 0) dX10_nextOf_52 ⟨rfl, _, rfl, K⟩
theorem bX10_delays_0 {E : tp_E} {d : Nat} {Q : Int32 → tp_M → Prop} {σ : tp_M}   (x1 : Int32) (K : if x1 = (-1) then (Wi E TM iX10_delays (d + 1) Q 20 [(0, .ref 0), (1, .int x1), (2, .int 1), (3, .int 0)] [] σ) else (Ci E TM yX10_isWaiter iX10_isWaiter d [.ref 0, .int x1] σ (fun v3 σ2 => if v3 = 0 then (Q (-1000000001) σ2) else (Wi E TM iX10_delays (d + 1) Q 20 [(0, .ref 0), (1, .int x1), (2, .int 1), (3, .int 0)] [] σ2)))) : Wi E TM iX10_delays (d + 1) Q 0 [(0, .ref 0), (1, .int x1)] [] σ := by
  refine wp_iload_n 1 dX10_delays_0 rfl rfl rfl ?_
  refine wp_iconst (v := (-1)) dX10_delays_1 rfl (by decide) ?_
  refine wp_icmp_eq 16 dX10_delays_2 (by decide) rfl (fun h1 => ?_) (fun h1 => ?_)
  · rw [if_pos h1] at K
    refine wp_iconst (v := 1) dX10_delays_16 rfl (by decide) ?_
    refine wp_istore_n [1, 2, 0] dX10_delays_17 rfl rfl (by decide) rfl ?_
    show WP _ _ _ _ _ _ _ 18 [(0, .ref 0), (1, .int x1), (2, .int 1)] _ _ _
    refine wp_iconst (v := 0) dX10_delays_18 rfl (by decide) ?_
    refine wp_istore_n [1, 2, 3, 0] dX10_delays_19 rfl rfl (by decide) rfl ?_
    show WP _ _ _ _ _ _ _ 20 [(0, .ref 0), (1, .int x1), (2, .int 1), (3, .int 0)] _ _ _
    exact K
  · rw [if_neg h1] at K
    refine wp_aload_n 0 dX10_delays_5 rfl rfl rfl ?_
    refine wp_iload_n 1 dX10_delays_6 rfl rfl rfl ?_
    refine wn_callVi (As := [.int x1]) (rest := []) 10 kmX10_100 (by decide) rfl rfl (Nat.le_of_ble_eq_true rfl) lM_0 (congrArg Prod.fst gM_0) dX10_delays_7 rfl ?_
    refine Ci.mono K (fun v3 σ2 K => ?_)
    refine wp_if_ne 16 dX10_delays_10 (by decide) rfl (fun h4 => ?_) (fun h4 => ?_)
    · rw [if_neg h4] at K
      refine wp_iconst (v := 1) dX10_delays_16 rfl (by decide) ?_
      refine wp_istore_n [1, 2, 0] dX10_delays_17 rfl rfl (by decide) rfl ?_
      show WP _ _ _ _ _ _ _ 18 [(0, .ref 0), (1, .int x1), (2, .int 1)] _ _ _
      refine wp_iconst (v := 0) dX10_delays_18 rfl (by decide) ?_
      refine wp_istore_n [1, 2, 3, 0] dX10_delays_19 rfl rfl (by decide) rfl ?_
      show WP _ _ _ _ _ _ _ 20 [(0, .ref 0), (1, .int x1), (2, .int 1), (3, .int 0)] _ _ _
      exact K
    · rw [if_pos h4] at K
      refine wp_ldc dX10_delays_13 rfl tw_1191 ?_
      exact wp_ret .int rfl rfl (Nat.le_refl 0) (Nat.le_refl 0) dX10_delays_15 ⟨rfl, _, rfl, K⟩
theorem eX10_delays {E : tp_E} {d : Nat} {Q : Int32 → tp_M → Prop} {σ : tp_M}   (x1 : Int32) (K : if x1 = (-1) then (Wi E TM iX10_delays (d + 1) Q 20 [(0, .ref 0), (1, .int x1), (2, .int 1), (3, .int 0)] [] σ) else (Ci E TM yX10_isWaiter iX10_isWaiter d [.ref 0, .int x1] σ (fun v3 σ2 => if v3 = 0 then (Q (-1000000001) σ2) else (Wi E TM iX10_delays (d + 1) Q 20 [(0, .ref 0), (1, .int x1), (2, .int 1), (3, .int 0)] [] σ2)))) : Ci E TM yX10_delays iX10_delays (d + 1) [.ref 0, .int x1] σ Q := Ci.of ⟨by decide +kernel, rfl, rfl⟩ (Nat.le_of_ble_eq_true rfl) (bX10_delays_0  x1 K)
theorem bX10_delays_20 {E : tp_E} {d : Nat} {Q : Int32 → tp_M → Prop} {σ : tp_M}   (x1 : Int32) (x2 : Int32) (x3 : Int32) (K : if (σ 0 7) ≤ x3 then (Wi E TM iX10_delays (d + 1) Q 45 [(0, .ref 0), (1, .int x1), (2, .int x2), (3, .int 1000000), (4, .int 0)] [] σ) else (Wi E TM iX10_delays (d + 1) Q 20 [(0, .ref 0), (1, .int x1), (2, .int (x2 * 5)), (3, .int (x3 + 1))] [] σ)) : Wi E TM iX10_delays (d + 1) Q 20 [(0, .ref 0), (1, .int x1), (2, .int x2), (3, .int x3)] [] σ := by
  refine wp_iload_n 3 dX10_delays_20 rfl rfl rfl ?_
  refine wp_aload_n 0 dX10_delays_21 rfl rfl rfl ?_
  refine wp_getI 10 7 kcX10 kfX10_97 rfl lM_0 (congrArg Prod.fst gM_0) dX10_delays_22 rfl ?_
  refine wp_icmp_ge 38 dX10_delays_25 (by decide) rfl (fun h1 => ?_) (fun h1 => ?_)
  · rw [if_pos h1] at K
    refine wp_ldcw dX10_delays_38 rfl tw_1322 ?_
    refine wp_istore_n [1, 2, 3, 0] dX10_delays_41 rfl rfl (by decide) rfl ?_
    show WP _ _ _ _ _ _ _ 42 [(0, .ref 0), (1, .int x1), (2, .int x2), (3, .int 1000000)] _ _ _
    refine wp_iconst (v := 0) dX10_delays_42 rfl (by decide) ?_
    refine wp_istore [1, 2, 3, 4, 0] dX10_delays_43 rfl (by decide) rfl ?_
    show WP _ _ _ _ _ _ _ 45 [(0, .ref 0), (1, .int x1), (2, .int x2), (3, .int 1000000), (4, .int 0)] _ _ _
    exact K
  · rw [if_neg h1] at K
    refine wp_iload_n 2 dX10_delays_28 rfl rfl rfl ?_
    refine wp_iconst (v := 5) dX10_delays_29 rfl (by decide) ?_
    refine wp_imul dX10_delays_30 rfl ?_
    refine wp_istore_n [1, 2, 0, 3] dX10_delays_31 rfl rfl (by decide) rfl ?_
    show WP _ _ _ _ _ _ _ 32 [(0, .ref 0), (1, .int x1), (2, .int (x2 * 5)), (3, .int x3)] _ _ _
    refine wp_iinc (v := x3 + 1) 3 [1, 2, 3, 0] dX10_delays_32 rfl (by decide) rfl rfl rfl ?_
    show WP _ _ _ _ _ _ _ 35 [(0, .ref 0), (1, .int x1), (2, .int (x2 * 5)), (3, .int (x3 + 1))] _ _ _
    refine wp_goto 20 dX10_delays_35 (by decide) ?_
    exact K
theorem bX10_delays_45 {E : tp_E} {d : Nat} {Q : Int32 → tp_M → Prop} {σ : tp_M}   (x1 : Int32) (x2 : Int32) (x3 : Int32) (x4 : Int32) (K : if x2 ≤ x4 then (if x3 = 1000000 then (Q (-1) σ) else (if x1 = (-1) then (Q x3 σ) else (vp_in x1 4 ∧ (Q (σ 18 (Int32.toNatClampNeg x1)) σ)))) else (Wi E TM iX10_delays (d + 1) Q 66 [(0, .ref 0), (1, .int x1), (2, .int x2), (3, .int x3), (4, .int x4), (5, .int x4), (6, .int 0), (7, .int ((σ 0 7) - 1))] [] σ)) : Wi E TM iX10_delays (d + 1) Q 45 [(0, .ref 0), (1, .int x1), (2, .int x2), (3, .int x3), (4, .int x4)] [] σ := by
  refine wp_iload 4 dX10_delays_45 rfl rfl ?_
  refine wp_iload_n 2 dX10_delays_47 rfl rfl rfl ?_
  refine wp_icmp_ge 201 dX10_delays_48 (by decide) rfl (fun h1 => ?_) (fun h1 => ?_)
  · rw [if_pos h1] at K
    refine wp_iload_n 3 dX10_delays_201 rfl rfl rfl ?_
    refine wp_ldcw dX10_delays_202 rfl tw_1322 ?_
    refine wp_icmp_ne 212 dX10_delays_205 (by decide) rfl (fun h2 => ?_) (fun h2 => ?_)
    · rw [if_neg h2] at K
      refine wp_iload_n 1 dX10_delays_212 rfl rfl rfl ?_
      refine wp_iconst (v := (-1)) dX10_delays_213 rfl (by decide) ?_
      refine wp_icmp_ne 221 dX10_delays_214 (by decide) rfl (fun h3 => ?_) (fun h3 => ?_)
      · rw [if_neg h3] at K
        refine wp_aload_n 0 dX10_delays_221 rfl rfl rfl ?_
        refine wp_getR 10 36 kcX10 kfX10_66 rfl lM_0 (congrArg Prod.fst gM_0) rM_0_36 dX10_delays_222 rfl ?_
        refine wp_iload_n 1 dX10_delays_225 rfl rfl rfl ?_
        obtain ⟨k4, K⟩ := K
        refine wn_iald lM_18 gM_18 k4 dX10_delays_226 rfl ?_
        exact wp_ret .int rfl rfl (Nat.le_refl 0) (Nat.le_refl 0) dX10_delays_227 ⟨rfl, _, rfl, K⟩
      · rw [if_pos h3] at K
        refine wp_iload_n 3 dX10_delays_217 rfl rfl rfl ?_
        refine wp_goto 227 dX10_delays_218 (by decide) ?_
        exact wp_ret .int rfl rfl (Nat.le_refl 0) (Nat.le_refl 0) dX10_delays_227 ⟨rfl, _, rfl, K⟩
    · rw [if_pos h2] at K
      refine wp_iconst (v := (-1)) dX10_delays_208 rfl (by decide) ?_
      refine wp_goto 227 dX10_delays_209 (by decide) ?_
      exact wp_ret .int rfl rfl (Nat.le_refl 0) (Nat.le_refl 0) dX10_delays_227 ⟨rfl, _, rfl, K⟩
  · rw [if_neg h1] at K
    refine wp_iload 4 dX10_delays_51 rfl rfl ?_
    refine wp_istore [1, 2, 3, 4, 5, 0] dX10_delays_53 rfl (by decide) rfl ?_
    show WP _ _ _ _ _ _ _ 55 [(0, .ref 0), (1, .int x1), (2, .int x2), (3, .int x3), (4, .int x4), (5, .int x4)] _ _ _
    refine wp_iconst (v := 0) dX10_delays_55 rfl (by decide) ?_
    refine wp_istore [1, 2, 3, 4, 5, 6, 0] dX10_delays_56 rfl (by decide) rfl ?_
    show WP _ _ _ _ _ _ _ 58 [(0, .ref 0), (1, .int x1), (2, .int x2), (3, .int x3), (4, .int x4), (5, .int x4), (6, .int 0)] _ _ _
    refine wp_aload_n 0 dX10_delays_58 rfl rfl rfl ?_
    refine wp_getI 10 7 kcX10 kfX10_97 rfl lM_0 (congrArg Prod.fst gM_0) dX10_delays_59 rfl ?_
    refine wp_iconst (v := 1) dX10_delays_62 rfl (by decide) ?_
    refine wp_isub dX10_delays_63 rfl ?_
    refine wp_istore [1, 2, 3, 4, 5, 6, 7, 0] dX10_delays_64 rfl (by decide) rfl ?_
    show WP _ _ _ _ _ _ _ 66 [(0, .ref 0), (1, .int x1), (2, .int x2), (3, .int x3), (4, .int x4), (5, .int x4), (6, .int 0), (7, .int ((σ 0 7) - 1))] _ _ _
    exact K
theorem bX10_delays_66 {E : tp_E} {d : Nat} {Q : Int32 → tp_M → Prop} {σ : tp_M}   (x1 : Int32) (x2 : Int32) (x3 : Int32) (x4 : Int32) (x5 : Int32) (x6 : Int32) (x7 : Int32) (K : if x7 < 0 then (if x3 ≤ x6 then (Wi E TM iX10_delays (d + 1) Q 45 [(0, .ref 0), (1, .int x1), (2, .int x2), (3, .int x3), (4, .int (x4 + 1))] [] σ) else (Ci E TM yX10_isApart iX10_isApart d [.ref 0] σ (fun v4 σ3 => if v4 = 0 then (Wi E TM iX10_delays (d + 1) Q 45 [(0, .ref 0), (1, .int x1), (2, .int x2), (3, .int x3), (4, .int (x4 + 1))] [] σ3) else (Wi E TM iX10_delays (d + 1) Q 166 [(0, .ref 0), (1, .int x1), (2, .int x2), (3, .int x6), (4, .int x4), (7, .int 0)] [] σ3)))) else (vp_in x7 4 ∧ (vp_in (6 + x7) 1416 ∧ (if ((tp_u σ 17 (Int32.toNatClampNeg x7) (x5 - x5 / 5 * 5)) 1 (Int32.toNatClampNeg (6 + x7))) ≤ 0 then (Wi E TM iX10_delays (d + 1) Q 123 [(0, .ref 0), (1, .int x1), (2, .int x2), (3, .int x3), (4, .int x4), (5, .int (x5 / 5)), (6, .int x6), (7, .int x7)] [.int 0] (tp_u σ 17 (Int32.toNatClampNeg x7) (x5 - x5 / 5 * 5))) else (vp_in x7 4 ∧ (vp_in (6 + x7) 1416 ∧ (Wi E TM iX10_delays (d + 1) Q 123 [(0, .ref 0), (1, .int x1), (2, .int x2), (3, .int x3), (4, .int x4), (5, .int (x5 / 5)), (6, .int x6), (7, .int x7)] [.int (((tp_u σ 17 (Int32.toNatClampNeg x7) (x5 - x5 / 5 * 5)) 17 (Int32.toNatClampNeg x7)) + ((tp_u σ 17 (Int32.toNatClampNeg x7) (x5 - x5 / 5 * 5)) 1 (Int32.toNatClampNeg (6 + x7))))] (tp_u σ 17 (Int32.toNatClampNeg x7) (x5 - x5 / 5 * 5))))))))) : Wi E TM iX10_delays (d + 1) Q 66 [(0, .ref 0), (1, .int x1), (2, .int x2), (3, .int x3), (4, .int x4), (5, .int x5), (6, .int x6), (7, .int x7)] [] σ := by
  refine wp_iload 7 dX10_delays_66 rfl rfl ?_
  refine wp_if_lt 147 dX10_delays_68 (by decide) rfl (fun h1 => ?_) (fun h1 => ?_)
  · rw [if_pos h1] at K
    refine wp_iload 6 dX10_delays_147 rfl rfl ?_
    refine wp_iload_n 3 dX10_delays_149 rfl rfl rfl ?_
    refine wp_icmp_ge 195 dX10_delays_150 (by decide) rfl (fun h2 => ?_) (fun h2 => ?_)
    · rw [if_pos h2] at K
      refine wp_iinc (v := x4 + 1) 4 [1, 2, 3, 4, 0, 5, 6, 7] dX10_delays_195 rfl (by decide) rfl rfl rfl ?_
      show WP _ _ _ _ _ _ _ 198 [(0, .ref 0), (1, .int x1), (2, .int x2), (3, .int x3), (4, .int (x4 + 1)), (5, .int x5), (6, .int x6), (7, .int x7)] _ _ _
      refine wp_goto 45 dX10_delays_198 (by decide) ?_
      refine wp_lv [0, 1, 2, 3, 4] rfl ?_
      exact K
    · rw [if_neg h2] at K
      refine wp_aload_n 0 dX10_delays_153 rfl rfl rfl ?_
      refine wn_callVi (As := []) (rest := []) 10 kmX10_295 (by decide) rfl rfl (Nat.le_of_ble_eq_true rfl) lM_0 (congrArg Prod.fst gM_0) dX10_delays_154 rfl ?_
      refine Ci.mono K (fun v4 σ3 K => ?_)
      refine wp_if_eq 195 dX10_delays_157 (by decide) rfl (fun h5 => ?_) (fun h5 => ?_)
      · rw [if_pos h5] at K
        refine wp_iinc (v := x4 + 1) 4 [1, 2, 3, 4, 0, 5, 6, 7] dX10_delays_195 rfl (by decide) rfl rfl rfl ?_
        show WP _ _ _ _ _ _ _ 198 [(0, .ref 0), (1, .int x1), (2, .int x2), (3, .int x3), (4, .int (x4 + 1)), (5, .int x5), (6, .int x6), (7, .int x7)] _ _ _
        refine wp_goto 45 dX10_delays_198 (by decide) ?_
        refine wp_lv [0, 1, 2, 3, 4] rfl ?_
        exact K
      · rw [if_neg h5] at K
        refine wp_iload 6 dX10_delays_160 rfl rfl ?_
        refine wp_istore_n [1, 2, 3, 0, 4, 5, 6, 7] dX10_delays_162 rfl rfl (by decide) rfl ?_
        show WP _ _ _ _ _ _ _ 163 [(0, .ref 0), (1, .int x1), (2, .int x2), (3, .int x6), (4, .int x4), (5, .int x5), (6, .int x6), (7, .int x7)] _ _ _
        refine wp_iconst (v := 0) dX10_delays_163 rfl (by decide) ?_
        refine wp_istore [1, 2, 3, 4, 5, 6, 7, 0] dX10_delays_164 rfl (by decide) rfl ?_
        show WP _ _ _ _ _ _ _ 166 [(0, .ref 0), (1, .int x1), (2, .int x2), (3, .int x6), (4, .int x4), (5, .int x5), (6, .int x6), (7, .int 0)] _ _ _
        refine wp_lv [0, 1, 2, 3, 4, 7] rfl ?_
        exact K
  · rw [if_neg h1] at K
    refine wp_aload_n 0 dX10_delays_71 rfl rfl rfl ?_
    refine wp_getR 10 35 kcX10 kfX10_63 rfl lM_0 (congrArg Prod.fst gM_0) rM_0_35 dX10_delays_72 rfl ?_
    refine wp_iload 7 dX10_delays_75 rfl rfl ?_
    refine wp_iload 5 dX10_delays_77 rfl rfl ?_
    refine wp_iconst (v := 5) dX10_delays_79 rfl (by decide) ?_
    refine wp_irem dX10_delays_80 rfl (by decide) ?_
    obtain ⟨k6, K⟩ := K
    refine wn_iast lM_17 gM_17 k6 dX10_delays_81 rfl ?_
    refine wp_iload 5 dX10_delays_82 rfl rfl ?_
    refine wp_iconst (v := 5) dX10_delays_84 rfl (by decide) ?_
    refine wp_idiv dX10_delays_85 rfl (by decide) ?_
    refine wp_istore [1, 2, 3, 4, 5, 0, 6, 7] dX10_delays_86 rfl (by decide) rfl ?_
    show WP _ _ _ _ _ _ _ 88 [(0, .ref 0), (1, .int x1), (2, .int x2), (3, .int x3), (4, .int x4), (5, .int (x5 / 5)), (6, .int x6), (7, .int x7)] _ _ _
    refine wp_aload_n 0 dX10_delays_88 rfl rfl rfl ?_
    refine wp_getR 10 0 kcX10 kfX10_7 rfl lM_0 (congrArg Prod.fst gM_0) rM_0_0 dX10_delays_89 rfl ?_
    refine wp_bipush (v := 6) dX10_delays_92 rfl (by decide) ?_
    refine wp_iload 7 dX10_delays_94 rfl rfl ?_
    refine wp_iadd dX10_delays_96 rfl ?_
    obtain ⟨k7, K⟩ := K
    refine wn_iald lM_1 gM_1 k7 dX10_delays_97 rfl ?_
    refine wp_if_le 122 dX10_delays_98 (by decide) rfl (fun h8 => ?_) (fun h8 => ?_)
    · rw [if_pos h8] at K
      refine wp_iconst (v := 0) dX10_delays_122 rfl (by decide) ?_
      exact K
    · rw [if_neg h8] at K
      refine wp_aload_n 0 dX10_delays_101 rfl rfl rfl ?_
      refine wp_getR 10 35 kcX10 kfX10_63 rfl lM_0 (congrArg Prod.fst gM_0) rM_0_35 dX10_delays_102 rfl ?_
      refine wp_iload 7 dX10_delays_105 rfl rfl ?_
      obtain ⟨k9, K⟩ := K
      refine wn_iald lM_17 gM_17 k9 dX10_delays_107 rfl ?_
      refine wp_aload_n 0 dX10_delays_108 rfl rfl rfl ?_
      refine wp_getR 10 0 kcX10 kfX10_7 rfl lM_0 (congrArg Prod.fst gM_0) rM_0_0 dX10_delays_109 rfl ?_
      refine wp_bipush (v := 6) dX10_delays_112 rfl (by decide) ?_
      refine wp_iload 7 dX10_delays_114 rfl rfl ?_
      refine wp_iadd dX10_delays_116 rfl ?_
      obtain ⟨k10, K⟩ := K
      refine wn_iald lM_1 gM_1 k10 dX10_delays_117 rfl ?_
      refine wp_iadd dX10_delays_118 rfl ?_
      refine wp_goto 123 dX10_delays_119 (by decide) ?_
      exact K
theorem bX10_delays_123 {E : tp_E} {d : Nat} {Q : Int32 → tp_M → Prop} {σ : tp_M}   (x1 : Int32) (x2 : Int32) (x3 : Int32) (x4 : Int32) (x5 : Int32) (x6 : Int32) (x7 : Int32) (s0 : Int32) (K : if s0 ≤ x6 then (Wi E TM iX10_delays (d + 1) Q 66 [(0, .ref 0), (1, .int x1), (2, .int x2), (3, .int x3), (4, .int x4), (5, .int x5), (6, .int x6), (7, .int (x7 + (-1)))] [] σ) else (Wi E TM iX10_delays (d + 1) Q 66 [(0, .ref 0), (1, .int x1), (2, .int x2), (3, .int x3), (4, .int x4), (5, .int x5), (6, .int s0), (7, .int (x7 + (-1)))] [] σ)) : Wi E TM iX10_delays (d + 1) Q 123 [(0, .ref 0), (1, .int x1), (2, .int x2), (3, .int x3), (4, .int x4), (5, .int x5), (6, .int x6), (7, .int x7)] [.int s0] σ := by
  refine wp_istore [1, 2, 3, 4, 5, 6, 7, 8, 0] dX10_delays_123 rfl (by decide) rfl ?_
  show WP _ _ _ _ _ _ _ 125 [(0, .ref 0), (1, .int x1), (2, .int x2), (3, .int x3), (4, .int x4), (5, .int x5), (6, .int x6), (7, .int x7), (8, .int s0)] _ _ _
  refine wp_iload 8 dX10_delays_125 rfl rfl ?_
  refine wp_iload 6 dX10_delays_127 rfl rfl ?_
  refine wp_icmp_le 137 dX10_delays_129 (by decide) rfl (fun h1 => ?_) (fun h1 => ?_)
  · rw [if_pos h1] at K
    refine wp_iload 6 dX10_delays_137 rfl rfl ?_
    refine wp_istore [1, 2, 3, 4, 5, 6, 0, 7, 8] dX10_delays_139 rfl (by decide) rfl ?_
    show WP _ _ _ _ _ _ _ 141 [(0, .ref 0), (1, .int x1), (2, .int x2), (3, .int x3), (4, .int x4), (5, .int x5), (6, .int x6), (7, .int x7), (8, .int s0)] _ _ _
    refine wp_iinc (v := x7 + (-1)) 7 [1, 2, 3, 4, 5, 6, 7, 0, 8] dX10_delays_141 rfl (by decide) rfl rfl rfl ?_
    show WP _ _ _ _ _ _ _ 144 [(0, .ref 0), (1, .int x1), (2, .int x2), (3, .int x3), (4, .int x4), (5, .int x5), (6, .int x6), (7, .int (x7 + (-1))), (8, .int s0)] _ _ _
    refine wp_goto 66 dX10_delays_144 (by decide) ?_
    refine wp_lv [0, 1, 2, 3, 4, 5, 6, 7] rfl ?_
    exact K
  · rw [if_neg h1] at K
    refine wp_iload 8 dX10_delays_132 rfl rfl ?_
    refine wp_goto 139 dX10_delays_134 (by decide) ?_
    refine wp_istore [1, 2, 3, 4, 5, 6, 0, 7, 8] dX10_delays_139 rfl (by decide) rfl ?_
    show WP _ _ _ _ _ _ _ 141 [(0, .ref 0), (1, .int x1), (2, .int x2), (3, .int x3), (4, .int x4), (5, .int x5), (6, .int s0), (7, .int x7), (8, .int s0)] _ _ _
    refine wp_iinc (v := x7 + (-1)) 7 [1, 2, 3, 4, 5, 6, 7, 0, 8] dX10_delays_141 rfl (by decide) rfl rfl rfl ?_
    show WP _ _ _ _ _ _ _ 144 [(0, .ref 0), (1, .int x1), (2, .int x2), (3, .int x3), (4, .int x4), (5, .int x5), (6, .int s0), (7, .int (x7 + (-1))), (8, .int s0)] _ _ _
    refine wp_goto 66 dX10_delays_144 (by decide) ?_
    refine wp_lv [0, 1, 2, 3, 4, 5, 6, 7] rfl ?_
    exact K
theorem bX10_delays_166 {E : tp_E} {d : Nat} {Q : Int32 → tp_M → Prop} {σ : tp_M}   (x1 : Int32) (x2 : Int32) (x3 : Int32) (x4 : Int32) (x7 : Int32) (K : if (σ 0 7) ≤ x7 then (Wi E TM iX10_delays (d + 1) Q 45 [(0, .ref 0), (1, .int x1), (2, .int x2), (3, .int x3), (4, .int (x4 + 1))] [] σ) else (vp_in x7 4 ∧ (vp_in x7 4 ∧ (Wi E TM iX10_delays (d + 1) Q 166 [(0, .ref 0), (1, .int x1), (2, .int x2), (3, .int x3), (4, .int x4), (7, .int (x7 + 1))] [] (tp_u σ 18 (Int32.toNatClampNeg x7) (σ 17 (Int32.toNatClampNeg x7))))))) : Wi E TM iX10_delays (d + 1) Q 166 [(0, .ref 0), (1, .int x1), (2, .int x2), (3, .int x3), (4, .int x4), (7, .int x7)] [] σ := by
  refine wp_iload 5 dX10_delays_166 rfl rfl ?_
  refine wp_aload_n 0 dX10_delays_168 rfl rfl rfl ?_
  refine wp_getI 10 7 kcX10 kfX10_97 rfl lM_0 (congrArg Prod.fst gM_0) dX10_delays_169 rfl ?_
  refine wp_icmp_ge 195 dX10_delays_172 (by decide) rfl (fun h1 => ?_) (fun h1 => ?_)
  · rw [if_pos h1] at K
    refine wp_iinc (v := x4 + 1) 4 [1, 2, 3, 4, 0, 5] dX10_delays_195 rfl (by decide) rfl rfl rfl ?_
    show WP _ _ _ _ _ _ _ 198 [(0, .ref 0), (1, .int x1), (2, .int x2), (3, .int x3), (4, .int (x4 + 1)), (7, .int x7)] _ _ _
    refine wp_goto 45 dX10_delays_198 (by decide) ?_
    refine wp_lv [0, 1, 2, 3, 4] rfl ?_
    exact K
  · rw [if_neg h1] at K
    refine wp_aload_n 0 dX10_delays_175 rfl rfl rfl ?_
    refine wp_getR 10 36 kcX10 kfX10_66 rfl lM_0 (congrArg Prod.fst gM_0) rM_0_36 dX10_delays_176 rfl ?_
    refine wp_iload 5 dX10_delays_179 rfl rfl ?_
    refine wp_aload_n 0 dX10_delays_181 rfl rfl rfl ?_
    refine wp_getR 10 35 kcX10 kfX10_63 rfl lM_0 (congrArg Prod.fst gM_0) rM_0_35 dX10_delays_182 rfl ?_
    refine wp_iload 5 dX10_delays_185 rfl rfl ?_
    obtain ⟨k2, K⟩ := K
    refine wn_iald lM_17 gM_17 k2 dX10_delays_187 rfl ?_
    obtain ⟨k3, K⟩ := K
    refine wn_iast lM_18 gM_18 k3 dX10_delays_188 rfl ?_
    refine wp_iinc (v := x7 + 1) 5 [1, 2, 3, 4, 5, 0] dX10_delays_189 rfl (by decide) rfl rfl rfl ?_
    show WP _ _ _ _ _ _ _ 192 [(0, .ref 0), (1, .int x1), (2, .int x2), (3, .int x3), (4, .int x4), (7, .int (x7 + 1))] _ _ _
    refine wp_goto 166 dX10_delays_192 (by decide) ?_
    exact K
theorem bX10_isApart_0 {E : tp_E} {d : Nat} {Q : Int32 → tp_M → Prop} {σ : tp_M}    (K : Cv E TM yX10_tries iX10_tries d [.ref 0] σ (fun σ1 => Wi E TM iX10_isApart (d + 1) Q 6 [(0, .ref 0), (1, .int 1)] [] σ1)) : Wi E TM iX10_isApart (d + 1) Q 0 [(0, .ref 0)] [] σ := by
  refine wp_aload_n 0 dX10_isApart_0 rfl rfl rfl ?_
  refine wn_callVv (As := []) (rest := []) 10 kmX10_282 (by decide) rfl rfl (Nat.le_of_ble_eq_true rfl) lM_0 (congrArg Prod.fst gM_0) dX10_isApart_1 rfl ?_
  refine Cv.mono K (fun σ1 K => ?_)
  refine wp_iconst (v := 1) dX10_isApart_4 rfl (by decide) ?_
  refine wp_istore_n [1, 0] dX10_isApart_5 rfl rfl (by decide) rfl ?_
  show WP _ _ _ _ _ _ _ 6 [(0, .ref 0), (1, .int 1)] _ _ _
  exact K
theorem eX10_isApart {E : tp_E} {d : Nat} {Q : Int32 → tp_M → Prop} {σ : tp_M}    (K : Cv E TM yX10_tries iX10_tries d [.ref 0] σ (fun σ1 => Wi E TM iX10_isApart (d + 1) Q 6 [(0, .ref 0), (1, .int 1)] [] σ1)) : Ci E TM yX10_isApart iX10_isApart (d + 1) [.ref 0] σ Q := Ci.of ⟨by decide +kernel, rfl, rfl⟩ (Nat.le_of_ble_eq_true rfl) (bX10_isApart_0   K)
theorem bX10_isApart_6 {E : tp_E} {d : Nat} {Q : Int32 → tp_M → Prop} {σ : tp_M}   (x1 : Int32) (K : if 20 < x1 then (Q 1 σ) else (Wi E TM iX10_isApart (d + 1) Q 14 [(0, .ref 0), (1, .int x1), (2, .int 0)] [] σ)) : Wi E TM iX10_isApart (d + 1) Q 6 [(0, .ref 0), (1, .int x1)] [] σ := by
  refine wp_iload_n 1 dX10_isApart_6 rfl rfl rfl ?_
  refine wp_bipush (v := 20) dX10_isApart_7 rfl (by decide) ?_
  refine wp_icmp_gt 120 dX10_isApart_9 (by decide) rfl (fun h1 => ?_) (fun h1 => ?_)
  · rw [if_pos h1] at K
    refine wp_iconst (v := 1) dX10_isApart_120 rfl (by decide) ?_
    exact wp_ret .boolean rfl rfl (Nat.le_refl 0) (Nat.le_refl 0) dX10_isApart_121 ⟨rfl, _, rfl, K⟩
  · rw [if_neg h1] at K
    refine wp_iconst (v := 0) dX10_isApart_12 rfl (by decide) ?_
    refine wp_istore_n [1, 2, 0] dX10_isApart_13 rfl rfl (by decide) rfl ?_
    show WP _ _ _ _ _ _ _ 14 [(0, .ref 0), (1, .int x1), (2, .int 0)] _ _ _
    exact K
theorem bX10_isApart_14 {E : tp_E} {d : Nat} {Q : Int32 → tp_M → Prop} {σ : tp_M}   (x1 : Int32) (x2 : Int32) (K : if (σ 0 7) ≤ x2 then (Wi E TM iX10_isApart (d + 1) Q 69 [(0, .ref 0), (1, .int x1), (2, .int 0)] [] σ) else (vp_in (61 + x2) 1416 ∧ (vp_in x2 4 ∧ (vp_in x2 4 ∧ (vp_in x2 4 ∧ (if x1 ≤ ((tp_u (tp_u σ 14 (Int32.toNatClampNeg x2) (σ 1 (Int32.toNatClampNeg (61 + x2)))) 15 (Int32.toNatClampNeg x2) 0) 17 (Int32.toNatClampNeg x2)) then (Wi E TM iX10_isApart (d + 1) Q 14 [(0, .ref 0), (1, .int x1), (2, .int (x2 + 1))] [] (tp_u (tp_u σ 14 (Int32.toNatClampNeg x2) (σ 1 (Int32.toNatClampNeg (61 + x2)))) 15 (Int32.toNatClampNeg x2) 0)) else (Cv E TM yX10_walks iX10_walks d [.ref 0, .int 59, .int x2] (tp_u (tp_u σ 14 (Int32.toNatClampNeg x2) (σ 1 (Int32.toNatClampNeg (61 + x2)))) 15 (Int32.toNatClampNeg x2) 0) (fun σ7 => Wi E TM iX10_isApart (d + 1) Q 14 [(0, .ref 0), (1, .int x1), (2, .int (x2 + 1))] [] σ7)))))))) : Wi E TM iX10_isApart (d + 1) Q 14 [(0, .ref 0), (1, .int x1), (2, .int x2)] [] σ := by
  refine wp_iload_n 2 dX10_isApart_14 rfl rfl rfl ?_
  refine wp_aload_n 0 dX10_isApart_15 rfl rfl rfl ?_
  refine wp_getI 10 7 kcX10 kfX10_97 rfl lM_0 (congrArg Prod.fst gM_0) dX10_isApart_16 rfl ?_
  refine wp_icmp_ge 67 dX10_isApart_19 (by decide) rfl (fun h1 => ?_) (fun h1 => ?_)
  · rw [if_pos h1] at K
    refine wp_iconst (v := 0) dX10_isApart_67 rfl (by decide) ?_
    refine wp_istore_n [1, 2, 0] dX10_isApart_68 rfl rfl (by decide) rfl ?_
    show WP _ _ _ _ _ _ _ 69 [(0, .ref 0), (1, .int x1), (2, .int 0)] _ _ _
    exact K
  · rw [if_neg h1] at K
    refine wp_aload_n 0 dX10_isApart_22 rfl rfl rfl ?_
    refine wp_getR 10 32 kcX10 kfX10_54 rfl lM_0 (congrArg Prod.fst gM_0) rM_0_32 dX10_isApart_23 rfl ?_
    refine wp_iload_n 2 dX10_isApart_26 rfl rfl rfl ?_
    refine wp_aload_n 0 dX10_isApart_27 rfl rfl rfl ?_
    refine wp_getR 10 0 kcX10 kfX10_7 rfl lM_0 (congrArg Prod.fst gM_0) rM_0_0 dX10_isApart_28 rfl ?_
    refine wp_bipush (v := 61) dX10_isApart_31 rfl (by decide) ?_
    refine wp_iload_n 2 dX10_isApart_33 rfl rfl rfl ?_
    refine wp_iadd dX10_isApart_34 rfl ?_
    obtain ⟨k2, K⟩ := K
    refine wn_iald lM_1 gM_1 k2 dX10_isApart_35 rfl ?_
    obtain ⟨k3, K⟩ := K
    refine wn_iast lM_14 gM_14 k3 dX10_isApart_36 rfl ?_
    refine wp_aload_n 0 dX10_isApart_37 rfl rfl rfl ?_
    refine wp_getR 10 33 kcX10 kfX10_57 rfl lM_0 (congrArg Prod.fst gM_0) rM_0_33 dX10_isApart_38 rfl ?_
    refine wp_iload_n 2 dX10_isApart_41 rfl rfl rfl ?_
    refine wp_iconst (v := 0) dX10_isApart_42 rfl (by decide) ?_
    obtain ⟨k4, K⟩ := K
    refine wn_zast lM_15 gM_15 k4 (by decide) dX10_isApart_43 rfl ?_
    refine wp_iload_n 1 dX10_isApart_44 rfl rfl rfl ?_
    refine wp_aload_n 0 dX10_isApart_45 rfl rfl rfl ?_
    refine wp_getR 10 35 kcX10 kfX10_63 rfl lM_0 (congrArg Prod.fst gM_0) rM_0_35 dX10_isApart_46 rfl ?_
    refine wp_iload_n 2 dX10_isApart_49 rfl rfl rfl ?_
    obtain ⟨k5, K⟩ := K
    refine wn_iald lM_17 gM_17 k5 dX10_isApart_50 rfl ?_
    refine wp_icmp_le 61 dX10_isApart_51 (by decide) rfl (fun h6 => ?_) (fun h6 => ?_)
    · rw [if_pos h6] at K
      refine wp_iinc (v := x2 + 1) 2 [1, 2, 0] dX10_isApart_61 rfl (by decide) rfl rfl rfl ?_
      show WP _ _ _ _ _ _ _ 64 [(0, .ref 0), (1, .int x1), (2, .int (x2 + 1))] _ _ _
      refine wp_goto 14 dX10_isApart_64 (by decide) ?_
      exact K
    · rw [if_neg h6] at K
      refine wp_aload_n 0 dX10_isApart_54 rfl rfl rfl ?_
      refine wp_bipush (v := 59) dX10_isApart_55 rfl (by decide) ?_
      refine wp_iload_n 2 dX10_isApart_57 rfl rfl rfl ?_
      refine wn_callVv (As := [.int 59, .int x2]) (rest := []) 10 kmX10_235 (by decide) rfl rfl (Nat.le_of_ble_eq_true rfl) lM_0 (congrArg Prod.fst gM_0) dX10_isApart_58 rfl ?_
      refine Cv.mono K (fun σ7 K => ?_)
      refine wp_iinc (v := x2 + 1) 2 [1, 2, 0] dX10_isApart_61 rfl (by decide) rfl rfl rfl ?_
      show WP _ _ _ _ _ _ _ 64 [(0, .ref 0), (1, .int x1), (2, .int (x2 + 1))] _ _ _
      refine wp_goto 14 dX10_isApart_64 (by decide) ?_
      exact K
theorem bX10_isApart_69 {E : tp_E} {d : Nat} {Q : Int32 → tp_M → Prop} {σ : tp_M}   (x1 : Int32) (x2 : Int32) (K : if (σ 0 7) ≤ x2 then (Wi E TM iX10_isApart (d + 1) Q 6 [(0, .ref 0), (1, .int (x1 + 1))] [] σ) else (Wi E TM iX10_isApart (d + 1) Q 81 [(0, .ref 0), (1, .int x1), (2, .int x2), (3, .int (x2 + 1))] [] σ)) : Wi E TM iX10_isApart (d + 1) Q 69 [(0, .ref 0), (1, .int x1), (2, .int x2)] [] σ := by
  refine wp_iload_n 2 dX10_isApart_69 rfl rfl rfl ?_
  refine wp_aload_n 0 dX10_isApart_70 rfl rfl rfl ?_
  refine wp_getI 10 7 kcX10 kfX10_97 rfl lM_0 (congrArg Prod.fst gM_0) dX10_isApart_71 rfl ?_
  refine wp_icmp_ge 114 dX10_isApart_74 (by decide) rfl (fun h1 => ?_) (fun h1 => ?_)
  · rw [if_pos h1] at K
    refine wp_iinc (v := x1 + 1) 1 [1, 0, 2] dX10_isApart_114 rfl (by decide) rfl rfl rfl ?_
    show WP _ _ _ _ _ _ _ 117 [(0, .ref 0), (1, .int (x1 + 1)), (2, .int x2)] _ _ _
    refine wp_goto 6 dX10_isApart_117 (by decide) ?_
    refine wp_lv [0, 1] rfl ?_
    exact K
  · rw [if_neg h1] at K
    refine wp_iload_n 2 dX10_isApart_77 rfl rfl rfl ?_
    refine wp_iconst (v := 1) dX10_isApart_78 rfl (by decide) ?_
    refine wp_iadd dX10_isApart_79 rfl ?_
    refine wp_istore_n [1, 2, 3, 0] dX10_isApart_80 rfl rfl (by decide) rfl ?_
    show WP _ _ _ _ _ _ _ 81 [(0, .ref 0), (1, .int x1), (2, .int x2), (3, .int (x2 + 1))] _ _ _
    exact K
theorem bX10_isApart_81 {E : tp_E} {d : Nat} {Q : Int32 → tp_M → Prop} {σ : tp_M}   (x1 : Int32) (x2 : Int32) (x3 : Int32) (K : if (σ 0 7) ≤ x3 then (Wi E TM iX10_isApart (d + 1) Q 69 [(0, .ref 0), (1, .int x1), (2, .int (x2 + 1))] [] σ) else (Ci E TM yX10_haveMet iX10_haveMet d [.ref 0, .int 59, .int x2, .int x3] σ (fun v3 σ2 => if v3 = 0 then (Wi E TM iX10_isApart (d + 1) Q 81 [(0, .ref 0), (1, .int x1), (2, .int x2), (3, .int (x3 + 1))] [] σ2) else (Q 0 σ2)))) : Wi E TM iX10_isApart (d + 1) Q 81 [(0, .ref 0), (1, .int x1), (2, .int x2), (3, .int x3)] [] σ := by
  refine wp_iload_n 3 dX10_isApart_81 rfl rfl rfl ?_
  refine wp_aload_n 0 dX10_isApart_82 rfl rfl rfl ?_
  refine wp_getI 10 7 kcX10 kfX10_97 rfl lM_0 (congrArg Prod.fst gM_0) dX10_isApart_83 rfl ?_
  refine wp_icmp_ge 108 dX10_isApart_86 (by decide) rfl (fun h1 => ?_) (fun h1 => ?_)
  · rw [if_pos h1] at K
    refine wp_iinc (v := x2 + 1) 2 [1, 2, 0, 3] dX10_isApart_108 rfl (by decide) rfl rfl rfl ?_
    show WP _ _ _ _ _ _ _ 111 [(0, .ref 0), (1, .int x1), (2, .int (x2 + 1)), (3, .int x3)] _ _ _
    refine wp_goto 69 dX10_isApart_111 (by decide) ?_
    refine wp_lv [0, 1, 2] rfl ?_
    exact K
  · rw [if_neg h1] at K
    refine wp_aload_n 0 dX10_isApart_89 rfl rfl rfl ?_
    refine wp_bipush (v := 59) dX10_isApart_90 rfl (by decide) ?_
    refine wp_iload_n 2 dX10_isApart_92 rfl rfl rfl ?_
    refine wp_iload_n 3 dX10_isApart_93 rfl rfl rfl ?_
    refine wn_callVi (As := [.int 59, .int x2, .int x3]) (rest := []) 10 kmX10_239 (by decide) rfl rfl (Nat.le_of_ble_eq_true rfl) lM_0 (congrArg Prod.fst gM_0) dX10_isApart_94 rfl ?_
    refine Ci.mono K (fun v3 σ2 K => ?_)
    refine wp_if_eq 102 dX10_isApart_97 (by decide) rfl (fun h4 => ?_) (fun h4 => ?_)
    · rw [if_pos h4] at K
      refine wp_iinc (v := x3 + 1) 3 [1, 2, 3, 0] dX10_isApart_102 rfl (by decide) rfl rfl rfl ?_
      show WP _ _ _ _ _ _ _ 105 [(0, .ref 0), (1, .int x1), (2, .int x2), (3, .int (x3 + 1))] _ _ _
      refine wp_goto 81 dX10_isApart_105 (by decide) ?_
      exact K
    · rw [if_neg h4] at K
      refine wp_iconst (v := 0) dX10_isApart_100 rfl (by decide) ?_
      exact wp_ret .boolean rfl rfl (Nat.le_refl 0) (Nat.le_refl 0) dX10_isApart_101 ⟨rfl, _, rfl, K⟩
theorem bX10_served_0 {E : tp_E} {d : Nat} {Q : Int32 → tp_M → Prop} {σ : tp_M}   (x1 : Int32) (K : if x1 = (-1) then (Wi E TM iX10_served (d + 1) Q 28 [(0, .ref 0), (1, .int x1), (2, .int 1), (3, .int 0)] [] σ) else (Ci E TM yX10_in iX10_in d [.long (Int32.toInt64 x1), .long 0, .long (Int32.toInt64 ((σ 0 12) - 1))] σ (fun v3 σ2 => if v3 = 0 then (Q (-1000000001) σ2) else (Wi E TM iX10_served (d + 1) Q 28 [(0, .ref 0), (1, .int x1), (2, .int 1), (3, .int 0)] [] σ2)))) : Wi E TM iX10_served (d + 1) Q 0 [(0, .ref 0), (1, .int x1)] [] σ := by
  refine wp_iload_n 1 dX10_served_0 rfl rfl rfl ?_
  refine wp_iconst (v := (-1)) dX10_served_1 rfl (by decide) ?_
  refine wp_icmp_eq 24 dX10_served_2 (by decide) rfl (fun h1 => ?_) (fun h1 => ?_)
  · rw [if_pos h1] at K
    refine wp_iconst (v := 1) dX10_served_24 rfl (by decide) ?_
    refine wp_istore_n [1, 2, 0] dX10_served_25 rfl rfl (by decide) rfl ?_
    show WP _ _ _ _ _ _ _ 26 [(0, .ref 0), (1, .int x1), (2, .int 1)] _ _ _
    refine wp_iconst (v := 0) dX10_served_26 rfl (by decide) ?_
    refine wp_istore_n [1, 2, 3, 0] dX10_served_27 rfl rfl (by decide) rfl ?_
    show WP _ _ _ _ _ _ _ 28 [(0, .ref 0), (1, .int x1), (2, .int 1), (3, .int 0)] _ _ _
    exact K
  · rw [if_neg h1] at K
    refine wp_iload_n 1 dX10_served_5 rfl rfl rfl ?_
    refine wp_i2l dX10_served_6 rfl ?_
    refine wp_lconst (v := 0) dX10_served_7 rfl (by decide) ?_
    refine wp_aload_n 0 dX10_served_8 rfl rfl rfl ?_
    refine wp_getI 10 12 kcX10 kfX10_197 rfl lM_0 (congrArg Prod.fst gM_0) dX10_served_9 rfl ?_
    refine wp_iconst (v := 1) dX10_served_12 rfl (by decide) ?_
    refine wp_isub dX10_served_13 rfl ?_
    refine wp_i2l dX10_served_14 rfl ?_
    refine wn_callSi (As := [.long (Int32.toInt64 x1), .long 0, .long (Int32.toInt64 ((σ 0 12) - 1))]) (rest := []) kmX10_93 (by decide) rfl rfl (Nat.le_of_ble_eq_true rfl) dX10_served_15 rfl ?_
    refine Ci.mono K (fun v3 σ2 K => ?_)
    refine wp_if_ne 24 dX10_served_18 (by decide) rfl (fun h4 => ?_) (fun h4 => ?_)
    · rw [if_neg h4] at K
      refine wp_iconst (v := 1) dX10_served_24 rfl (by decide) ?_
      refine wp_istore_n [1, 2, 0] dX10_served_25 rfl rfl (by decide) rfl ?_
      show WP _ _ _ _ _ _ _ 26 [(0, .ref 0), (1, .int x1), (2, .int 1)] _ _ _
      refine wp_iconst (v := 0) dX10_served_26 rfl (by decide) ?_
      refine wp_istore_n [1, 2, 3, 0] dX10_served_27 rfl rfl (by decide) rfl ?_
      show WP _ _ _ _ _ _ _ 28 [(0, .ref 0), (1, .int x1), (2, .int 1), (3, .int 0)] _ _ _
      exact K
    · rw [if_pos h4] at K
      refine wp_ldc dX10_served_21 rfl tw_1191 ?_
      exact wp_ret .int rfl rfl (Nat.le_refl 0) (Nat.le_refl 0) dX10_served_23 ⟨rfl, _, rfl, K⟩
theorem eX10_served {E : tp_E} {d : Nat} {Q : Int32 → tp_M → Prop} {σ : tp_M}   (x1 : Int32) (K : if x1 = (-1) then (Wi E TM iX10_served (d + 1) Q 28 [(0, .ref 0), (1, .int x1), (2, .int 1), (3, .int 0)] [] σ) else (Ci E TM yX10_in iX10_in d [.long (Int32.toInt64 x1), .long 0, .long (Int32.toInt64 ((σ 0 12) - 1))] σ (fun v3 σ2 => if v3 = 0 then (Q (-1000000001) σ2) else (Wi E TM iX10_served (d + 1) Q 28 [(0, .ref 0), (1, .int x1), (2, .int 1), (3, .int 0)] [] σ2)))) : Ci E TM yX10_served iX10_served (d + 1) [.ref 0, .int x1] σ Q := Ci.of ⟨by decide +kernel, rfl, rfl⟩ (Nat.le_of_ble_eq_true rfl) (bX10_served_0  x1 K)
theorem bX10_served_28 {E : tp_E} {d : Nat} {Q : Int32 → tp_M → Prop} {σ : tp_M}   (x1 : Int32) (x2 : Int32) (x3 : Int32) (K : if (σ 0 12) ≤ x3 then (Wi E TM iX10_served (d + 1) Q 56 [(0, .ref 0), (1, .int x1), (2, .int x2), (3, .int (-1)), (4, .int 0)] [] σ) else (Wi E TM iX10_served (d + 1) Q 28 [(0, .ref 0), (1, .int x1), (2, .int (x2 * ((σ 0 7) + 1))), (3, .int (x3 + 1))] [] σ)) : Wi E TM iX10_served (d + 1) Q 28 [(0, .ref 0), (1, .int x1), (2, .int x2), (3, .int x3)] [] σ := by
  refine wp_iload_n 3 dX10_served_28 rfl rfl rfl ?_
  refine wp_aload_n 0 dX10_served_29 rfl rfl rfl ?_
  refine wp_getI 10 12 kcX10 kfX10_197 rfl lM_0 (congrArg Prod.fst gM_0) dX10_served_30 rfl ?_
  refine wp_icmp_ge 51 dX10_served_33 (by decide) rfl (fun h1 => ?_) (fun h1 => ?_)
  · rw [if_pos h1] at K
    refine wp_iconst (v := (-1)) dX10_served_51 rfl (by decide) ?_
    refine wp_istore_n [1, 2, 3, 0] dX10_served_52 rfl rfl (by decide) rfl ?_
    show WP _ _ _ _ _ _ _ 53 [(0, .ref 0), (1, .int x1), (2, .int x2), (3, .int (-1))] _ _ _
    refine wp_iconst (v := 0) dX10_served_53 rfl (by decide) ?_
    refine wp_istore [1, 2, 3, 4, 0] dX10_served_54 rfl (by decide) rfl ?_
    show WP _ _ _ _ _ _ _ 56 [(0, .ref 0), (1, .int x1), (2, .int x2), (3, .int (-1)), (4, .int 0)] _ _ _
    exact K
  · rw [if_neg h1] at K
    refine wp_iload_n 2 dX10_served_36 rfl rfl rfl ?_
    refine wp_aload_n 0 dX10_served_37 rfl rfl rfl ?_
    refine wp_getI 10 7 kcX10 kfX10_97 rfl lM_0 (congrArg Prod.fst gM_0) dX10_served_38 rfl ?_
    refine wp_iconst (v := 1) dX10_served_41 rfl (by decide) ?_
    refine wp_iadd dX10_served_42 rfl ?_
    refine wp_imul dX10_served_43 rfl ?_
    refine wp_istore_n [1, 2, 0, 3] dX10_served_44 rfl rfl (by decide) rfl ?_
    show WP _ _ _ _ _ _ _ 45 [(0, .ref 0), (1, .int x1), (2, .int (x2 * ((σ 0 7) + 1))), (3, .int x3)] _ _ _
    refine wp_iinc (v := x3 + 1) 3 [1, 2, 3, 0] dX10_served_45 rfl (by decide) rfl rfl rfl ?_
    show WP _ _ _ _ _ _ _ 48 [(0, .ref 0), (1, .int x1), (2, .int (x2 * ((σ 0 7) + 1))), (3, .int (x3 + 1))] _ _ _
    refine wp_goto 28 dX10_served_48 (by decide) ?_
    exact K
theorem bX10_served_56 {E : tp_E} {d : Nat} {Q : Int32 → tp_M → Prop} {σ : tp_M}   (x1 : Int32) (x2 : Int32) (x3 : Int32) (x4 : Int32) (K : if x2 ≤ x4 then (if x1 = (-1) then (Q x3 σ) else (vp_in x1 4 ∧ (if (σ 20 (Int32.toNatClampNeg x1)) = (σ 0 7) then (Q (-1) σ) else (vp_in x1 4 ∧ (Q (σ 20 (Int32.toNatClampNeg x1)) σ))))) else (Ci E TM yX10_servedBy iX10_servedBy d [.ref 0, .int x4] σ (fun v7 σ6 => if v7 ≤ x3 then (Wi E TM iX10_served (d + 1) Q 56 [(0, .ref 0), (1, .int x1), (2, .int x2), (3, .int x3), (4, .int (x4 + 1))] [] σ6) else (Wi E TM iX10_served (d + 1) Q 82 [(0, .ref 0), (1, .int x1), (2, .int x2), (3, .int v7), (4, .int x4), (6, .int 0)] [] σ6)))) : Wi E TM iX10_served (d + 1) Q 56 [(0, .ref 0), (1, .int x1), (2, .int x2), (3, .int x3), (4, .int x4)] [] σ := by
  refine wp_iload 4 dX10_served_56 rfl rfl ?_
  refine wp_iload_n 2 dX10_served_58 rfl rfl rfl ?_
  refine wp_icmp_ge 117 dX10_served_59 (by decide) rfl (fun h1 => ?_) (fun h1 => ?_)
  · rw [if_pos h1] at K
    refine wp_iload_n 1 dX10_served_117 rfl rfl rfl ?_
    refine wp_iconst (v := (-1)) dX10_served_118 rfl (by decide) ?_
    refine wp_icmp_ne 126 dX10_served_119 (by decide) rfl (fun h2 => ?_) (fun h2 => ?_)
    · rw [if_neg h2] at K
      refine wp_aload_n 0 dX10_served_126 rfl rfl rfl ?_
      refine wp_getR 10 38 kcX10 kfX10_72 rfl lM_0 (congrArg Prod.fst gM_0) rM_0_38 dX10_served_127 rfl ?_
      refine wp_iload_n 1 dX10_served_130 rfl rfl rfl ?_
      obtain ⟨k3, K⟩ := K
      refine wn_iald lM_20 gM_20 k3 dX10_served_131 rfl ?_
      refine wp_aload_n 0 dX10_served_132 rfl rfl rfl ?_
      refine wp_getI 10 7 kcX10 kfX10_97 rfl lM_0 (congrArg Prod.fst gM_0) dX10_served_133 rfl ?_
      refine wp_icmp_ne 143 dX10_served_136 (by decide) rfl (fun h4 => ?_) (fun h4 => ?_)
      · rw [if_neg h4] at K
        refine wp_aload_n 0 dX10_served_143 rfl rfl rfl ?_
        refine wp_getR 10 38 kcX10 kfX10_72 rfl lM_0 (congrArg Prod.fst gM_0) rM_0_38 dX10_served_144 rfl ?_
        refine wp_iload_n 1 dX10_served_147 rfl rfl rfl ?_
        obtain ⟨k5, K⟩ := K
        refine wn_iald lM_20 gM_20 k5 dX10_served_148 rfl ?_
        exact wp_ret .int rfl rfl (Nat.le_refl 0) (Nat.le_refl 0) dX10_served_149 ⟨rfl, _, rfl, K⟩
      · rw [if_pos h4] at K
        refine wp_iconst (v := (-1)) dX10_served_139 rfl (by decide) ?_
        refine wp_goto 149 dX10_served_140 (by decide) ?_
        exact wp_ret .int rfl rfl (Nat.le_refl 0) (Nat.le_refl 0) dX10_served_149 ⟨rfl, _, rfl, K⟩
    · rw [if_pos h2] at K
      refine wp_iload_n 3 dX10_served_122 rfl rfl rfl ?_
      refine wp_goto 149 dX10_served_123 (by decide) ?_
      exact wp_ret .int rfl rfl (Nat.le_refl 0) (Nat.le_refl 0) dX10_served_149 ⟨rfl, _, rfl, K⟩
  · rw [if_neg h1] at K
    refine wp_aload_n 0 dX10_served_62 rfl rfl rfl ?_
    refine wp_iload 4 dX10_served_63 rfl rfl ?_
    refine wn_callVi (As := [.int x4]) (rest := []) 10 kmX10_298 (by decide) rfl rfl (Nat.le_of_ble_eq_true rfl) lM_0 (congrArg Prod.fst gM_0) dX10_served_65 rfl ?_
    refine Ci.mono K (fun v7 σ6 K => ?_)
    refine wp_istore [1, 2, 3, 4, 5, 0] dX10_served_68 rfl (by decide) rfl ?_
    show WP _ _ _ _ _ _ _ 70 [(0, .ref 0), (1, .int x1), (2, .int x2), (3, .int x3), (4, .int x4), (5, .int v7)] _ _ _
    refine wp_iload 5 dX10_served_70 rfl rfl ?_
    refine wp_iload_n 3 dX10_served_72 rfl rfl rfl ?_
    refine wp_icmp_le 111 dX10_served_73 (by decide) rfl (fun h8 => ?_) (fun h8 => ?_)
    · rw [if_pos h8] at K
      refine wp_iinc (v := x4 + 1) 4 [1, 2, 3, 4, 0, 5] dX10_served_111 rfl (by decide) rfl rfl rfl ?_
      show WP _ _ _ _ _ _ _ 114 [(0, .ref 0), (1, .int x1), (2, .int x2), (3, .int x3), (4, .int (x4 + 1)), (5, .int v7)] _ _ _
      refine wp_goto 56 dX10_served_114 (by decide) ?_
      refine wp_lv [0, 1, 2, 3, 4] rfl ?_
      exact K
    · rw [if_neg h8] at K
      refine wp_iload 5 dX10_served_76 rfl rfl ?_
      refine wp_istore_n [1, 2, 3, 0, 4, 5] dX10_served_78 rfl rfl (by decide) rfl ?_
      show WP _ _ _ _ _ _ _ 79 [(0, .ref 0), (1, .int x1), (2, .int x2), (3, .int v7), (4, .int x4), (5, .int v7)] _ _ _
      refine wp_iconst (v := 0) dX10_served_79 rfl (by decide) ?_
      refine wp_istore [1, 2, 3, 4, 5, 6, 0] dX10_served_80 rfl (by decide) rfl ?_
      show WP _ _ _ _ _ _ _ 82 [(0, .ref 0), (1, .int x1), (2, .int x2), (3, .int v7), (4, .int x4), (5, .int v7), (6, .int 0)] _ _ _
      refine wp_lv [0, 1, 2, 3, 4, 6] rfl ?_
      exact K
theorem bX10_served_82 {E : tp_E} {d : Nat} {Q : Int32 → tp_M → Prop} {σ : tp_M}   (x1 : Int32) (x2 : Int32) (x3 : Int32) (x4 : Int32) (x6 : Int32) (K : if (σ 0 12) ≤ x6 then (Wi E TM iX10_served (d + 1) Q 56 [(0, .ref 0), (1, .int x1), (2, .int x2), (3, .int x3), (4, .int (x4 + 1))] [] σ) else (vp_in x6 4 ∧ (vp_in x6 4 ∧ (Wi E TM iX10_served (d + 1) Q 82 [(0, .ref 0), (1, .int x1), (2, .int x2), (3, .int x3), (4, .int x4), (6, .int (x6 + 1))] [] (tp_u σ 20 (Int32.toNatClampNeg x6) (σ 19 (Int32.toNatClampNeg x6))))))) : Wi E TM iX10_served (d + 1) Q 82 [(0, .ref 0), (1, .int x1), (2, .int x2), (3, .int x3), (4, .int x4), (6, .int x6)] [] σ := by
  refine wp_iload 5 dX10_served_82 rfl rfl ?_
  refine wp_aload_n 0 dX10_served_84 rfl rfl rfl ?_
  refine wp_getI 10 12 kcX10 kfX10_197 rfl lM_0 (congrArg Prod.fst gM_0) dX10_served_85 rfl ?_
  refine wp_icmp_ge 111 dX10_served_88 (by decide) rfl (fun h1 => ?_) (fun h1 => ?_)
  · rw [if_pos h1] at K
    refine wp_iinc (v := x4 + 1) 4 [1, 2, 3, 4, 0, 5] dX10_served_111 rfl (by decide) rfl rfl rfl ?_
    show WP _ _ _ _ _ _ _ 114 [(0, .ref 0), (1, .int x1), (2, .int x2), (3, .int x3), (4, .int (x4 + 1)), (6, .int x6)] _ _ _
    refine wp_goto 56 dX10_served_114 (by decide) ?_
    refine wp_lv [0, 1, 2, 3, 4] rfl ?_
    exact K
  · rw [if_neg h1] at K
    refine wp_aload_n 0 dX10_served_91 rfl rfl rfl ?_
    refine wp_getR 10 38 kcX10 kfX10_72 rfl lM_0 (congrArg Prod.fst gM_0) rM_0_38 dX10_served_92 rfl ?_
    refine wp_iload 5 dX10_served_95 rfl rfl ?_
    refine wp_aload_n 0 dX10_served_97 rfl rfl rfl ?_
    refine wp_getR 10 37 kcX10 kfX10_69 rfl lM_0 (congrArg Prod.fst gM_0) rM_0_37 dX10_served_98 rfl ?_
    refine wp_iload 5 dX10_served_101 rfl rfl ?_
    obtain ⟨k2, K⟩ := K
    refine wn_iald lM_19 gM_19 k2 dX10_served_103 rfl ?_
    obtain ⟨k3, K⟩ := K
    refine wn_iast lM_20 gM_20 k3 dX10_served_104 rfl ?_
    refine wp_iinc (v := x6 + 1) 5 [1, 2, 3, 4, 5, 0] dX10_served_105 rfl (by decide) rfl rfl rfl ?_
    show WP _ _ _ _ _ _ _ 108 [(0, .ref 0), (1, .int x1), (2, .int x2), (3, .int x3), (4, .int x4), (6, .int (x6 + 1))] _ _ _
    refine wp_goto 82 dX10_served_108 (by decide) ?_
    exact K
theorem bX10_servedBy_0 {E : tp_E} {d : Nat} {Q : Int32 → tp_M → Prop} {σ : tp_M}   (x1 : Int32) (K : Wi E TM iX10_servedBy (d + 1) Q 9 [(0, .ref 0), (2, .int x1), (3, .int ((σ 0 12) - 1))] [] σ) : Wi E TM iX10_servedBy (d + 1) Q 0 [(0, .ref 0), (1, .int x1)] [] σ := by
  refine wp_iload_n 1 dX10_servedBy_0 rfl rfl rfl ?_
  refine wp_istore_n [1, 2, 0] dX10_servedBy_1 rfl rfl (by decide) rfl ?_
  show WP _ _ _ _ _ _ _ 2 [(0, .ref 0), (1, .int x1), (2, .int x1)] _ _ _
  refine wp_aload_n 0 dX10_servedBy_2 rfl rfl rfl ?_
  refine wp_getI 10 12 kcX10 kfX10_197 rfl lM_0 (congrArg Prod.fst gM_0) dX10_servedBy_3 rfl ?_
  refine wp_iconst (v := 1) dX10_servedBy_6 rfl (by decide) ?_
  refine wp_isub dX10_servedBy_7 rfl ?_
  refine wp_istore_n [1, 2, 3, 0] dX10_servedBy_8 rfl rfl (by decide) rfl ?_
  show WP _ _ _ _ _ _ _ 9 [(0, .ref 0), (1, .int x1), (2, .int x1), (3, .int ((σ 0 12) - 1))] _ _ _
  refine wp_lv [0, 2, 3] rfl ?_
  exact K
theorem eX10_servedBy {E : tp_E} {d : Nat} {Q : Int32 → tp_M → Prop} {σ : tp_M}   (x1 : Int32) (K : Wi E TM iX10_servedBy (d + 1) Q 9 [(0, .ref 0), (2, .int x1), (3, .int ((σ 0 12) - 1))] [] σ) : Ci E TM yX10_servedBy iX10_servedBy (d + 1) [.ref 0, .int x1] σ Q := Ci.of ⟨by decide +kernel, rfl, rfl⟩ (Nat.le_of_ble_eq_true rfl) (bX10_servedBy_0  x1 K)
theorem bX10_servedBy_9 {E : tp_E} {d : Nat} {Q : Int32 → tp_M → Prop} {σ : tp_M}   (x2 : Int32) (x3 : Int32) (K : if x3 < 0 then (Wi E TM iX10_servedBy (d + 1) Q 50 [(0, .ref 0), (3, .int 0), (4, .int 0), (5, .int 0)] [] σ) else ((¬ ((σ 0 7) + 1) = 0) ∧ (vp_in x3 4 ∧ ((¬ (((tp_u σ 19 (Int32.toNatClampNeg x3) (x2 - x2 / ((σ 0 7) + 1) * ((σ 0 7) + 1))) 0 7) + 1) = 0) ∧ (Wi E TM iX10_servedBy (d + 1) Q 9 [(0, .ref 0), (2, .int (x2 / (((tp_u σ 19 (Int32.toNatClampNeg x3) (x2 - x2 / ((σ 0 7) + 1) * ((σ 0 7) + 1))) 0 7) + 1))), (3, .int (x3 + (-1)))] [] (tp_u σ 19 (Int32.toNatClampNeg x3) (x2 - x2 / ((σ 0 7) + 1) * ((σ 0 7) + 1)))))))) : Wi E TM iX10_servedBy (d + 1) Q 9 [(0, .ref 0), (2, .int x2), (3, .int x3)] [] σ := by
  refine wp_iload_n 2 dX10_servedBy_9 rfl rfl rfl ?_
  refine wp_if_lt 42 dX10_servedBy_10 (by decide) rfl (fun h1 => ?_) (fun h1 => ?_)
  · rw [if_pos h1] at K
    refine wp_iconst (v := 0) dX10_servedBy_42 rfl (by decide) ?_
    refine wp_istore_n [1, 2, 0] dX10_servedBy_43 rfl rfl (by decide) rfl ?_
    show WP _ _ _ _ _ _ _ 44 [(0, .ref 0), (2, .int x2), (3, .int 0)] _ _ _
    refine wp_iconst (v := 0) dX10_servedBy_44 rfl (by decide) ?_
    refine wp_istore [1, 2, 3, 0] dX10_servedBy_45 rfl (by decide) rfl ?_
    show WP _ _ _ _ _ _ _ 47 [(0, .ref 0), (2, .int x2), (3, .int 0), (4, .int 0)] _ _ _
    refine wp_iconst (v := 0) dX10_servedBy_47 rfl (by decide) ?_
    refine wp_istore [1, 2, 3, 4, 0] dX10_servedBy_48 rfl (by decide) rfl ?_
    show WP _ _ _ _ _ _ _ 50 [(0, .ref 0), (2, .int x2), (3, .int 0), (4, .int 0), (5, .int 0)] _ _ _
    refine wp_lv [0, 2, 3, 4] rfl ?_
    exact K
  · rw [if_neg h1] at K
    refine wp_aload_n 0 dX10_servedBy_13 rfl rfl rfl ?_
    refine wp_getR 10 37 kcX10 kfX10_69 rfl lM_0 (congrArg Prod.fst gM_0) rM_0_37 dX10_servedBy_14 rfl ?_
    refine wp_iload_n 2 dX10_servedBy_17 rfl rfl rfl ?_
    refine wp_iload_n 1 dX10_servedBy_18 rfl rfl rfl ?_
    refine wp_aload_n 0 dX10_servedBy_19 rfl rfl rfl ?_
    refine wp_getI 10 7 kcX10 kfX10_97 rfl lM_0 (congrArg Prod.fst gM_0) dX10_servedBy_20 rfl ?_
    refine wp_iconst (v := 1) dX10_servedBy_23 rfl (by decide) ?_
    refine wp_iadd dX10_servedBy_24 rfl ?_
    obtain ⟨k2, K⟩ := K
    refine wp_irem dX10_servedBy_25 rfl k2 ?_
    obtain ⟨k3, K⟩ := K
    refine wn_iast lM_19 gM_19 k3 dX10_servedBy_26 rfl ?_
    refine wp_iload_n 1 dX10_servedBy_27 rfl rfl rfl ?_
    refine wp_aload_n 0 dX10_servedBy_28 rfl rfl rfl ?_
    refine wp_getI 10 7 kcX10 kfX10_97 rfl lM_0 (congrArg Prod.fst gM_0) dX10_servedBy_29 rfl ?_
    refine wp_iconst (v := 1) dX10_servedBy_32 rfl (by decide) ?_
    refine wp_iadd dX10_servedBy_33 rfl ?_
    obtain ⟨k4, K⟩ := K
    refine wp_idiv dX10_servedBy_34 rfl k4 ?_
    refine wp_istore_n [1, 0, 2] dX10_servedBy_35 rfl rfl (by decide) rfl ?_
    show WP _ _ _ _ _ _ _ 36 [(0, .ref 0), (2, .int (x2 / (((tp_u σ 19 (Int32.toNatClampNeg x3) (x2 - x2 / ((σ 0 7) + 1) * ((σ 0 7) + 1))) 0 7) + 1))), (3, .int x3)] _ _ _
    refine wp_iinc (v := x3 + (-1)) 2 [1, 2, 0] dX10_servedBy_36 rfl (by decide) rfl rfl rfl ?_
    show WP _ _ _ _ _ _ _ 39 [(0, .ref 0), (2, .int (x2 / (((tp_u σ 19 (Int32.toNatClampNeg x3) (x2 - x2 / ((σ 0 7) + 1) * ((σ 0 7) + 1))) 0 7) + 1))), (3, .int (x3 + (-1)))] _ _ _
    refine wp_goto 9 dX10_servedBy_39 (by decide) ?_
    exact K
theorem bX10_servedBy_50 {E : tp_E} {d : Nat} {Q : Int32 → tp_M → Prop} {σ : tp_M}   (x3 : Int32) (x4 : Int32) (x5 : Int32) (K : if (σ 0 12) ≤ x5 then (Q x3 σ) else (vp_in x5 4 ∧ (if (σ 0 7) ≤ (σ 19 (Int32.toNatClampNeg x5)) then (Wi E TM iX10_servedBy (d + 1) Q 50 [(0, .ref 0), (3, .int x3), (4, .int x4), (5, .int (x5 + 1))] [] σ) else (Ci E TM yX10_has iX10_has d [.int x4, .int (σ 19 (Int32.toNatClampNeg x5))] σ (fun v5 σ4 => if v5 = 0 then (vp_in 0 1416 ∧ (vp_in (2 + (σ 19 (Int32.toNatClampNeg x5))) 1416 ∧ (vp_in x5 4 ∧ (Ci E TM yX10_wayOf iX10_wayOf d [.ref 0, .int (σ4 1 (Int32.toNatClampNeg (2 + (σ 19 (Int32.toNatClampNeg x5))))), .int (σ4 7 (Int32.toNatClampNeg x5))] σ4 (fun v11 σ10 => vp_in x5 4 ∧ (if ((σ4 1 (Int32.toNatClampNeg 0)) + v11) ≤ (σ10 8 (Int32.toNatClampNeg x5)) then (Wi E TM iX10_servedBy (d + 1) Q 50 [(0, .ref 0), (3, .int (x3 + 1)), (4, .int (x4 ||| (1 <<< ((σ 19 (Int32.toNatClampNeg x5)) &&& 31)))), (5, .int (x5 + 1))] [] σ10) else (Q (-1) σ10))))))) else (Q (-1) σ4)))))) : Wi E TM iX10_servedBy (d + 1) Q 50 [(0, .ref 0), (3, .int x3), (4, .int x4), (5, .int x5)] [] σ := by
  refine wp_iload 3 dX10_servedBy_50 rfl rfl ?_
  refine wp_aload_n 0 dX10_servedBy_52 rfl rfl rfl ?_
  refine wp_getI 10 12 kcX10 kfX10_197 rfl lM_0 (congrArg Prod.fst gM_0) dX10_servedBy_53 rfl ?_
  refine wp_icmp_ge 144 dX10_servedBy_56 (by decide) rfl (fun h1 => ?_) (fun h1 => ?_)
  · rw [if_pos h1] at K
    refine wp_iload_n 1 dX10_servedBy_144 rfl rfl rfl ?_
    exact wp_ret .int rfl rfl (Nat.le_refl 0) (Nat.le_refl 0) dX10_servedBy_145 ⟨rfl, _, rfl, K⟩
  · rw [if_neg h1] at K
    refine wp_aload_n 0 dX10_servedBy_59 rfl rfl rfl ?_
    refine wp_getR 10 37 kcX10 kfX10_69 rfl lM_0 (congrArg Prod.fst gM_0) rM_0_37 dX10_servedBy_60 rfl ?_
    refine wp_iload 3 dX10_servedBy_63 rfl rfl ?_
    obtain ⟨k2, K⟩ := K
    refine wn_iald lM_19 gM_19 k2 dX10_servedBy_65 rfl ?_
    refine wp_istore [1, 2, 3, 4, 0] dX10_servedBy_66 rfl (by decide) rfl ?_
    show WP _ _ _ _ _ _ _ 68 [(0, .ref 0), (3, .int x3), (4, .int x4), (5, .int x5), (6, .int (σ 19 (Int32.toNatClampNeg x5)))] _ _ _
    refine wp_iload 4 dX10_servedBy_68 rfl rfl ?_
    refine wp_aload_n 0 dX10_servedBy_70 rfl rfl rfl ?_
    refine wp_getI 10 7 kcX10 kfX10_97 rfl lM_0 (congrArg Prod.fst gM_0) dX10_servedBy_71 rfl ?_
    refine wp_icmp_ge 138 dX10_servedBy_74 (by decide) rfl (fun h3 => ?_) (fun h3 => ?_)
    · rw [if_pos h3] at K
      refine wp_iinc (v := x5 + 1) 3 [1, 2, 3, 0, 4] dX10_servedBy_138 rfl (by decide) rfl rfl rfl ?_
      show WP _ _ _ _ _ _ _ 141 [(0, .ref 0), (3, .int x3), (4, .int x4), (5, .int (x5 + 1)), (6, .int (σ 19 (Int32.toNatClampNeg x5)))] _ _ _
      refine wp_goto 50 dX10_servedBy_141 (by decide) ?_
      refine wp_lv [0, 1, 2, 3] rfl ?_
      exact K
    · rw [if_neg h3] at K
      refine wp_iload 2 dX10_servedBy_77 rfl rfl ?_
      refine wp_iload 4 dX10_servedBy_79 rfl rfl ?_
      refine wn_callSi (As := [.int x4, .int (σ 19 (Int32.toNatClampNeg x5))]) (rest := []) kmX10_151 (by decide) rfl rfl (Nat.le_of_ble_eq_true rfl) dX10_servedBy_81 rfl ?_
      refine Ci.mono K (fun v5 σ4 K => ?_)
      refine wp_if_ne 124 dX10_servedBy_84 (by decide) rfl (fun h6 => ?_) (fun h6 => ?_)
      · rw [if_neg h6] at K
        refine wp_iconst (v := (-1)) dX10_servedBy_124 rfl (by decide) ?_
        exact wp_ret .int rfl rfl (Nat.le_refl 0) (Nat.le_refl 0) dX10_servedBy_125 ⟨rfl, _, rfl, K⟩
      · rw [if_pos h6] at K
        refine wp_aload_n 0 dX10_servedBy_87 rfl rfl rfl ?_
        refine wp_getR 10 0 kcX10 kfX10_7 rfl lM_0 (congrArg Prod.fst gM_0) rM_0_0 dX10_servedBy_88 rfl ?_
        refine wp_iconst (v := 0) dX10_servedBy_91 rfl (by decide) ?_
        obtain ⟨k7, K⟩ := K
        refine wn_iald lM_1 gM_1 k7 dX10_servedBy_92 rfl ?_
        refine wp_aload_n 0 dX10_servedBy_93 rfl rfl rfl ?_
        refine wp_aload_n 0 dX10_servedBy_94 rfl rfl rfl ?_
        refine wp_getR 10 0 kcX10 kfX10_7 rfl lM_0 (congrArg Prod.fst gM_0) rM_0_0 dX10_servedBy_95 rfl ?_
        refine wp_iconst (v := 2) dX10_servedBy_98 rfl (by decide) ?_
        refine wp_iload 4 dX10_servedBy_99 rfl rfl ?_
        refine wp_iadd dX10_servedBy_101 rfl ?_
        obtain ⟨k8, K⟩ := K
        refine wn_iald lM_1 gM_1 k8 dX10_servedBy_102 rfl ?_
        refine wp_aload_n 0 dX10_servedBy_103 rfl rfl rfl ?_
        refine wp_getR 10 13 kcX10 kfX10_29 rfl lM_0 (congrArg Prod.fst gM_0) rM_0_13 dX10_servedBy_104 rfl ?_
        refine wp_iload 3 dX10_servedBy_107 rfl rfl ?_
        obtain ⟨k9, K⟩ := K
        refine wn_iald lM_7 gM_7 k9 dX10_servedBy_109 rfl ?_
        refine wn_callVi (As := [.int (σ4 1 (Int32.toNatClampNeg (2 + (σ 19 (Int32.toNatClampNeg x5))))), .int (σ4 7 (Int32.toNatClampNeg x5))]) (rest := [.int (σ4 1 (Int32.toNatClampNeg 0))]) 10 kmX10_289 (by decide) rfl rfl (Nat.le_of_ble_eq_true rfl) lM_0 (congrArg Prod.fst gM_0) dX10_servedBy_110 rfl ?_
        refine Ci.mono K (fun v11 σ10 K => ?_)
        refine wp_iadd dX10_servedBy_113 rfl ?_
        refine wp_aload_n 0 dX10_servedBy_114 rfl rfl rfl ?_
        refine wp_getR 10 14 kcX10 kfX10_32 rfl lM_0 (congrArg Prod.fst gM_0) rM_0_14 dX10_servedBy_115 rfl ?_
        refine wp_iload 3 dX10_servedBy_118 rfl rfl ?_
        obtain ⟨k12, K⟩ := K
        refine wn_iald lM_8 gM_8 k12 dX10_servedBy_120 rfl ?_
        refine wp_icmp_le 126 dX10_servedBy_121 (by decide) rfl (fun h13 => ?_) (fun h13 => ?_)
        · rw [if_pos h13] at K
          refine wp_iload 2 dX10_servedBy_126 rfl rfl ?_
          refine wp_iconst (v := 1) dX10_servedBy_128 rfl (by decide) ?_
          refine wp_iload 4 dX10_servedBy_129 rfl rfl ?_
          refine wp_ishl dX10_servedBy_131 rfl ?_
          refine wp_ior dX10_servedBy_132 rfl ?_
          refine wp_istore [1, 2, 0, 3, 4] dX10_servedBy_133 rfl (by decide) rfl ?_
          show WP _ _ _ _ _ _ _ 135 [(0, .ref 0), (3, .int x3), (4, .int (x4 ||| (1 <<< ((σ 19 (Int32.toNatClampNeg x5)) &&& 31)))), (5, .int x5), (6, .int (σ 19 (Int32.toNatClampNeg x5)))] _ _ _
          refine wp_iinc (v := x3 + 1) 1 [1, 0, 2, 3, 4] dX10_servedBy_135 rfl (by decide) rfl rfl rfl ?_
          show WP _ _ _ _ _ _ _ 138 [(0, .ref 0), (3, .int (x3 + 1)), (4, .int (x4 ||| (1 <<< ((σ 19 (Int32.toNatClampNeg x5)) &&& 31)))), (5, .int x5), (6, .int (σ 19 (Int32.toNatClampNeg x5)))] _ _ _
          refine wp_iinc (v := x5 + 1) 3 [1, 2, 3, 0, 4] dX10_servedBy_138 rfl (by decide) rfl rfl rfl ?_
          show WP _ _ _ _ _ _ _ 141 [(0, .ref 0), (3, .int (x3 + 1)), (4, .int (x4 ||| (1 <<< ((σ 19 (Int32.toNatClampNeg x5)) &&& 31)))), (5, .int (x5 + 1)), (6, .int (σ 19 (Int32.toNatClampNeg x5)))] _ _ _
          refine wp_goto 50 dX10_servedBy_141 (by decide) ?_
          refine wp_lv [0, 1, 2, 3] rfl ?_
          exact K
        · rw [if_neg h13] at K
          refine wp_iconst (v := (-1)) dX10_servedBy_124 rfl (by decide) ?_
          exact wp_ret .int rfl rfl (Nat.le_refl 0) (Nat.le_refl 0) dX10_servedBy_125 ⟨rfl, _, rfl, K⟩
theorem bX10_evened_0 {E : tp_E} {d : Nat} {Q : Int32 → tp_M → Prop} {σ : tp_M}   (x1 : Int32) (x2 : Int32) (K : Ci E TM yX10_isWaiter iX10_isWaiter d [.ref 0, .int x1] σ (fun v2 σ1 => if v2 = 0 then (Q (-1000000001) σ1) else (Ci E TM yX10_in iX10_in d [.long (Int32.toInt64 x2), .long 0, .long 1] σ1 (fun v5 σ4 => if v5 = 0 then (Q (-1000000002) σ4) else (Ci E TM yX10_onTray iX10_onTray d [.ref 0, .int 0, .int x1] σ4 (fun v8 σ7 => Wi E TM iX10_evened (d + 1) Q 42 [(0, .ref 0), (2, .int x2), (3, .int v8), (4, .int 0), (5, .int 1000000), (6, .int 0)] [] σ7)))))) : Wi E TM iX10_evened (d + 1) Q 0 [(0, .ref 0), (1, .int x1), (2, .int x2)] [] σ := by
  refine wp_aload_n 0 dX10_evened_0 rfl rfl rfl ?_
  refine wp_iload_n 1 dX10_evened_1 rfl rfl rfl ?_
  refine wn_callVi (As := [.int x1]) (rest := []) 10 kmX10_100 (by decide) rfl rfl (Nat.le_of_ble_eq_true rfl) lM_0 (congrArg Prod.fst gM_0) dX10_evened_2 rfl ?_
  refine Ci.mono K (fun v2 σ1 K => ?_)
  refine wp_if_ne 11 dX10_evened_5 (by decide) rfl (fun h3 => ?_) (fun h3 => ?_)
  · rw [if_neg h3] at K
    refine wp_iload_n 2 dX10_evened_11 rfl rfl rfl ?_
    refine wp_i2l dX10_evened_12 rfl ?_
    refine wp_lconst (v := 0) dX10_evened_13 rfl (by decide) ?_
    refine wp_lconst (v := 1) dX10_evened_14 rfl (by decide) ?_
    refine wn_callSi (As := [.long (Int32.toInt64 x2), .long 0, .long 1]) (rest := []) kmX10_93 (by decide) rfl rfl (Nat.le_of_ble_eq_true rfl) dX10_evened_15 rfl ?_
    refine Ci.mono K (fun v5 σ4 K => ?_)
    refine wp_if_ne 24 dX10_evened_18 (by decide) rfl (fun h6 => ?_) (fun h6 => ?_)
    · rw [if_neg h6] at K
      refine wp_aload_n 0 dX10_evened_24 rfl rfl rfl ?_
      refine wp_iconst (v := 0) dX10_evened_25 rfl (by decide) ?_
      refine wp_iload_n 1 dX10_evened_26 rfl rfl rfl ?_
      refine wn_callVi (As := [.int 0, .int x1]) (rest := []) 10 kmX10_223 (by decide) rfl rfl (Nat.le_of_ble_eq_true rfl) lM_0 (congrArg Prod.fst gM_0) dX10_evened_27 rfl ?_
      refine Ci.mono K (fun v8 σ7 K => ?_)
      refine wp_istore_n [1, 2, 3, 0] dX10_evened_30 rfl rfl (by decide) rfl ?_
      show WP _ _ _ _ _ _ _ 31 [(0, .ref 0), (1, .int x1), (2, .int x2), (3, .int v8)] _ _ _
      refine wp_iconst (v := 0) dX10_evened_31 rfl (by decide) ?_
      refine wp_istore [1, 2, 3, 4, 0] dX10_evened_32 rfl (by decide) rfl ?_
      show WP _ _ _ _ _ _ _ 34 [(0, .ref 0), (1, .int x1), (2, .int x2), (3, .int v8), (4, .int 0)] _ _ _
      refine wp_ldcw dX10_evened_34 rfl tw_1322 ?_
      refine wp_istore [1, 2, 3, 4, 5, 0] dX10_evened_37 rfl (by decide) rfl ?_
      show WP _ _ _ _ _ _ _ 39 [(0, .ref 0), (1, .int x1), (2, .int x2), (3, .int v8), (4, .int 0), (5, .int 1000000)] _ _ _
      refine wp_iconst (v := 0) dX10_evened_39 rfl (by decide) ?_
      refine wp_istore [1, 2, 3, 4, 5, 6, 0] dX10_evened_40 rfl (by decide) rfl ?_
      show WP _ _ _ _ _ _ _ 42 [(0, .ref 0), (1, .int x1), (2, .int x2), (3, .int v8), (4, .int 0), (5, .int 1000000), (6, .int 0)] _ _ _
      refine wp_lv [0, 2, 3, 4, 5, 6] rfl ?_
      exact K
    · rw [if_pos h6] at K
      refine wp_ldc dX10_evened_21 rfl tw_1108 ?_
      exact wp_ret .int rfl rfl (Nat.le_refl 0) (Nat.le_refl 0) dX10_evened_23 ⟨rfl, _, rfl, K⟩
  · rw [if_pos h3] at K
    refine wp_ldc dX10_evened_8 rfl tw_1191 ?_
    exact wp_ret .int rfl rfl (Nat.le_refl 0) (Nat.le_refl 0) dX10_evened_10 ⟨rfl, _, rfl, K⟩
theorem eX10_evened {E : tp_E} {d : Nat} {Q : Int32 → tp_M → Prop} {σ : tp_M}   (x1 : Int32) (x2 : Int32) (K : Ci E TM yX10_isWaiter iX10_isWaiter d [.ref 0, .int x1] σ (fun v2 σ1 => if v2 = 0 then (Q (-1000000001) σ1) else (Ci E TM yX10_in iX10_in d [.long (Int32.toInt64 x2), .long 0, .long 1] σ1 (fun v5 σ4 => if v5 = 0 then (Q (-1000000002) σ4) else (Ci E TM yX10_onTray iX10_onTray d [.ref 0, .int 0, .int x1] σ4 (fun v8 σ7 => Wi E TM iX10_evened (d + 1) Q 42 [(0, .ref 0), (2, .int x2), (3, .int v8), (4, .int 0), (5, .int 1000000), (6, .int 0)] [] σ7)))))) : Ci E TM yX10_evened iX10_evened (d + 1) [.ref 0, .int x1, .int x2] σ Q := Ci.of ⟨by decide +kernel, rfl, rfl⟩ (Nat.le_of_ble_eq_true rfl) (bX10_evened_0  x1 x2 K)
theorem bX10_evened_42 {E : tp_E} {d : Nat} {Q : Int32 → tp_M → Prop} {σ : tp_M}   (x2 : Int32) (x3 : Int32) (x4 : Int32) (x5 : Int32) (x6 : Int32) (K : if 256 ≤ x6 then (if x2 = 0 then (Q x4 σ) else (Q x5 σ)) else (if (x6 &&& (x3 ^^^ (-1))) = 0 then (Ci E TM yX10_weightOf iX10_weightOf d [.ref 0, .int x6] σ (fun v5 σ4 => Ci E TM yX10_weightOf iX10_weightOf d [.ref 0, .int (x3 &&& (x6 ^^^ (-1)))] σ4 (fun v7 σ6 => if 0 ≤ (v5 - v7) then (if x5 ≤ (v5 - v7) then (Wi E TM iX10_evened (d + 1) Q 107 [(0, .ref 0), (2, .int x2), (3, .int x3), (5, .int x5), (6, .int x6), (7, .int (v5 - v7))] [.int x4] σ6) else (Wi E TM iX10_evened (d + 1) Q 107 [(0, .ref 0), (2, .int x2), (3, .int x3), (5, .int x5), (6, .int x6), (7, .int (v5 - v7))] [.int x6] σ6)) else (if x5 ≤ (0 - (v5 - v7)) then (Wi E TM iX10_evened (d + 1) Q 107 [(0, .ref 0), (2, .int x2), (3, .int x3), (5, .int x5), (6, .int x6), (7, .int (0 - (v5 - v7)))] [.int x4] σ6) else (Wi E TM iX10_evened (d + 1) Q 107 [(0, .ref 0), (2, .int x2), (3, .int x3), (5, .int x5), (6, .int x6), (7, .int (0 - (v5 - v7)))] [.int x6] σ6))))) else (Wi E TM iX10_evened (d + 1) Q 42 [(0, .ref 0), (2, .int x2), (3, .int x3), (4, .int x4), (5, .int x5), (6, .int (x6 + 1))] [] σ))) : Wi E TM iX10_evened (d + 1) Q 42 [(0, .ref 0), (2, .int x2), (3, .int x3), (4, .int x4), (5, .int x5), (6, .int x6)] [] σ := by
  refine wp_iload 5 dX10_evened_42 rfl rfl ?_
  refine wp_sipush (v := 256) dX10_evened_44 rfl (by decide) ?_
  refine wp_icmp_ge 131 dX10_evened_47 (by decide) rfl (fun h1 => ?_) (fun h1 => ?_)
  · rw [if_pos h1] at K
    refine wp_iload_n 1 dX10_evened_131 rfl rfl rfl ?_
    refine wp_if_ne 140 dX10_evened_132 (by decide) rfl (fun h2 => ?_) (fun h2 => ?_)
    · rw [if_neg h2] at K
      refine wp_iload 4 dX10_evened_140 rfl rfl ?_
      exact wp_ret .int rfl rfl (Nat.le_refl 0) (Nat.le_refl 0) dX10_evened_142 ⟨rfl, _, rfl, K⟩
    · rw [if_pos h2] at K
      refine wp_iload 3 dX10_evened_135 rfl rfl ?_
      refine wp_goto 142 dX10_evened_137 (by decide) ?_
      exact wp_ret .int rfl rfl (Nat.le_refl 0) (Nat.le_refl 0) dX10_evened_142 ⟨rfl, _, rfl, K⟩
  · rw [if_neg h1] at K
    refine wp_iload 5 dX10_evened_50 rfl rfl ?_
    refine wp_iload_n 2 dX10_evened_52 rfl rfl rfl ?_
    refine wp_iconst (v := (-1)) dX10_evened_53 rfl (by decide) ?_
    refine wp_ixor dX10_evened_54 rfl ?_
    refine wp_iand dX10_evened_55 rfl ?_
    refine wp_if_ne 125 dX10_evened_56 (by decide) rfl (fun h3 => ?_) (fun h3 => ?_)
    · rw [if_neg h3] at K
      refine wp_iinc (v := x6 + 1) 5 [1, 2, 3, 4, 5, 0] dX10_evened_125 rfl (by decide) rfl rfl rfl ?_
      show WP _ _ _ _ _ _ _ 128 [(0, .ref 0), (2, .int x2), (3, .int x3), (4, .int x4), (5, .int x5), (6, .int (x6 + 1))] _ _ _
      refine wp_goto 42 dX10_evened_128 (by decide) ?_
      exact K
    · rw [if_pos h3] at K
      refine wp_aload_n 0 dX10_evened_59 rfl rfl rfl ?_
      refine wp_iload 5 dX10_evened_60 rfl rfl ?_
      refine wn_callVi (As := [.int x6]) (rest := []) 10 kmX10_220 (by decide) rfl rfl (Nat.le_of_ble_eq_true rfl) lM_0 (congrArg Prod.fst gM_0) dX10_evened_62 rfl ?_
      refine Ci.mono K (fun v5 σ4 K => ?_)
      refine wp_aload_n 0 dX10_evened_65 rfl rfl rfl ?_
      refine wp_iload_n 2 dX10_evened_66 rfl rfl rfl ?_
      refine wp_iload 5 dX10_evened_67 rfl rfl ?_
      refine wp_iconst (v := (-1)) dX10_evened_69 rfl (by decide) ?_
      refine wp_ixor dX10_evened_70 rfl ?_
      refine wp_iand dX10_evened_71 rfl ?_
      refine wn_callVi (As := [.int (x3 &&& (x6 ^^^ (-1)))]) (rest := [.int v5]) 10 kmX10_220 (by decide) rfl rfl (Nat.le_of_ble_eq_true rfl) lM_0 (congrArg Prod.fst gM_0) dX10_evened_72 rfl ?_
      refine Ci.mono K (fun v7 σ6 K => ?_)
      refine wp_isub dX10_evened_75 rfl ?_
      refine wp_istore [1, 2, 3, 4, 5, 6, 0] dX10_evened_76 rfl (by decide) rfl ?_
      show WP _ _ _ _ _ _ _ 78 [(0, .ref 0), (2, .int x2), (3, .int x3), (4, .int x4), (5, .int x5), (6, .int x6), (7, .int (v5 - v7))] _ _ _
      refine wp_iload 6 dX10_evened_78 rfl rfl ?_
      refine wp_if_ge 89 dX10_evened_80 (by decide) rfl (fun h8 => ?_) (fun h8 => ?_)
      · rw [if_pos h8] at K
        refine wp_iload 6 dX10_evened_89 rfl rfl ?_
        refine wp_istore [1, 2, 3, 4, 5, 6, 0] dX10_evened_91 rfl (by decide) rfl ?_
        show WP _ _ _ _ _ _ _ 93 [(0, .ref 0), (2, .int x2), (3, .int x3), (4, .int x4), (5, .int x5), (6, .int x6), (7, .int (v5 - v7))] _ _ _
        refine wp_iload 6 dX10_evened_93 rfl rfl ?_
        refine wp_iload 4 dX10_evened_95 rfl rfl ?_
        refine wp_icmp_ge 105 dX10_evened_97 (by decide) rfl (fun h9 => ?_) (fun h9 => ?_)
        · rw [if_pos h9] at K
          refine wp_iload 3 dX10_evened_105 rfl rfl ?_
          refine wp_lv [0, 1, 2, 4, 5, 6] rfl ?_
          exact K
        · rw [if_neg h9] at K
          refine wp_iload 5 dX10_evened_100 rfl rfl ?_
          refine wp_goto 107 dX10_evened_102 (by decide) ?_
          refine wp_lv [0, 1, 2, 4, 5, 6] rfl ?_
          exact K
      · rw [if_neg h8] at K
        refine wp_iload 6 dX10_evened_83 rfl rfl ?_
        refine wp_ineg dX10_evened_85 rfl ?_
        refine wp_goto 91 dX10_evened_86 (by decide) ?_
        refine wp_istore [1, 2, 3, 4, 5, 6, 0] dX10_evened_91 rfl (by decide) rfl ?_
        show WP _ _ _ _ _ _ _ 93 [(0, .ref 0), (2, .int x2), (3, .int x3), (4, .int x4), (5, .int x5), (6, .int x6), (7, .int (0 - (v5 - v7)))] _ _ _
        refine wp_iload 6 dX10_evened_93 rfl rfl ?_
        refine wp_iload 4 dX10_evened_95 rfl rfl ?_
        refine wp_icmp_ge 105 dX10_evened_97 (by decide) rfl (fun h10 => ?_) (fun h10 => ?_)
        · rw [if_pos h10] at K
          refine wp_iload 3 dX10_evened_105 rfl rfl ?_
          refine wp_lv [0, 1, 2, 4, 5, 6] rfl ?_
          exact K
        · rw [if_neg h10] at K
          refine wp_iload 5 dX10_evened_100 rfl rfl ?_
          refine wp_goto 107 dX10_evened_102 (by decide) ?_
          refine wp_lv [0, 1, 2, 4, 5, 6] rfl ?_
          exact K
theorem bX10_evened_107 {E : tp_E} {d : Nat} {Q : Int32 → tp_M → Prop} {σ : tp_M}   (x2 : Int32) (x3 : Int32) (x5 : Int32) (x6 : Int32) (x7 : Int32) (s0 : Int32) (K : if x5 ≤ x7 then (Wi E TM iX10_evened (d + 1) Q 42 [(0, .ref 0), (2, .int x2), (3, .int x3), (4, .int s0), (5, .int x5), (6, .int (x6 + 1))] [] σ) else (Wi E TM iX10_evened (d + 1) Q 42 [(0, .ref 0), (2, .int x2), (3, .int x3), (4, .int s0), (5, .int x7), (6, .int (x6 + 1))] [] σ)) : Wi E TM iX10_evened (d + 1) Q 107 [(0, .ref 0), (2, .int x2), (3, .int x3), (5, .int x5), (6, .int x6), (7, .int x7)] [.int s0] σ := by
  refine wp_istore [1, 2, 3, 0, 4, 5, 6] dX10_evened_107 rfl (by decide) rfl ?_
  show WP _ _ _ _ _ _ _ 109 [(0, .ref 0), (2, .int x2), (3, .int x3), (4, .int s0), (5, .int x5), (6, .int x6), (7, .int x7)] _ _ _
  refine wp_iload 6 dX10_evened_109 rfl rfl ?_
  refine wp_iload 4 dX10_evened_111 rfl rfl ?_
  refine wp_icmp_ge 121 dX10_evened_113 (by decide) rfl (fun h1 => ?_) (fun h1 => ?_)
  · rw [if_pos h1] at K
    refine wp_iload 4 dX10_evened_121 rfl rfl ?_
    refine wp_istore [1, 2, 3, 4, 0, 5, 6] dX10_evened_123 rfl (by decide) rfl ?_
    show WP _ _ _ _ _ _ _ 125 [(0, .ref 0), (2, .int x2), (3, .int x3), (4, .int s0), (5, .int x5), (6, .int x6), (7, .int x7)] _ _ _
    refine wp_iinc (v := x6 + 1) 5 [1, 2, 3, 4, 5, 0, 6] dX10_evened_125 rfl (by decide) rfl rfl rfl ?_
    show WP _ _ _ _ _ _ _ 128 [(0, .ref 0), (2, .int x2), (3, .int x3), (4, .int s0), (5, .int x5), (6, .int (x6 + 1)), (7, .int x7)] _ _ _
    refine wp_goto 42 dX10_evened_128 (by decide) ?_
    refine wp_lv [0, 1, 2, 3, 4, 5] rfl ?_
    exact K
  · rw [if_neg h1] at K
    refine wp_iload 6 dX10_evened_116 rfl rfl ?_
    refine wp_goto 123 dX10_evened_118 (by decide) ?_
    refine wp_istore [1, 2, 3, 4, 0, 5, 6] dX10_evened_123 rfl (by decide) rfl ?_
    show WP _ _ _ _ _ _ _ 125 [(0, .ref 0), (2, .int x2), (3, .int x3), (4, .int s0), (5, .int x7), (6, .int x6), (7, .int x7)] _ _ _
    refine wp_iinc (v := x6 + 1) 5 [1, 2, 3, 4, 5, 0, 6] dX10_evened_125 rfl (by decide) rfl rfl rfl ?_
    show WP _ _ _ _ _ _ _ 128 [(0, .ref 0), (2, .int x2), (3, .int x3), (4, .int s0), (5, .int x7), (6, .int (x6 + 1)), (7, .int x7)] _ _ _
    refine wp_goto 42 dX10_evened_128 (by decide) ?_
    refine wp_lv [0, 1, 2, 3, 4, 5] rfl ?_
    exact K
theorem bX10_packed_0 {E : tp_E} {d : Nat} {Q : Int32 → tp_M → Prop} {σ : tp_M}   (x1 : Int32) (x2 : Int32) (K : Ci E TM yX10_isWaiter iX10_isWaiter d [.ref 0, .int x1] σ (fun v2 σ1 => if v2 = 0 then (Q (-1000000001) σ1) else (Ci E TM yX10_in iX10_in d [.long (Int32.toInt64 x2), .long 0, .long 1] σ1 (fun v5 σ4 => if v5 = 0 then (Q (-1000000002) σ4) else (Ci E TM yX10_thingsAt iX10_thingsAt d [.ref 0, .int 0, .int (-1)] σ4 (fun v8 σ7 => vp_in x1 4 ∧ (Ci E TM yX10_onTray iX10_onTray d [.ref 0, .int 0, .int x1] σ7 (fun v11 σ10 => Ci E TM yX10_weightOf iX10_weightOf d [.ref 0, .int v11] σ10 (fun v13 σ12 => Wi E TM iX10_packed (d + 1) Q 56 [(0, .ref 0), (2, .int x2), (3, .int v8), (4, .int ((σ7 4 (Int32.toNatClampNeg x1)) - v13)), (5, .int 0), (6, .int 0)] [] σ12))))))))) : Wi E TM iX10_packed (d + 1) Q 0 [(0, .ref 0), (1, .int x1), (2, .int x2)] [] σ := by
  refine wp_aload_n 0 dX10_packed_0 rfl rfl rfl ?_
  refine wp_iload_n 1 dX10_packed_1 rfl rfl rfl ?_
  refine wn_callVi (As := [.int x1]) (rest := []) 10 kmX10_100 (by decide) rfl rfl (Nat.le_of_ble_eq_true rfl) lM_0 (congrArg Prod.fst gM_0) dX10_packed_2 rfl ?_
  refine Ci.mono K (fun v2 σ1 K => ?_)
  refine wp_if_ne 11 dX10_packed_5 (by decide) rfl (fun h3 => ?_) (fun h3 => ?_)
  · rw [if_neg h3] at K
    refine wp_iload_n 2 dX10_packed_11 rfl rfl rfl ?_
    refine wp_i2l dX10_packed_12 rfl ?_
    refine wp_lconst (v := 0) dX10_packed_13 rfl (by decide) ?_
    refine wp_lconst (v := 1) dX10_packed_14 rfl (by decide) ?_
    refine wn_callSi (As := [.long (Int32.toInt64 x2), .long 0, .long 1]) (rest := []) kmX10_93 (by decide) rfl rfl (Nat.le_of_ble_eq_true rfl) dX10_packed_15 rfl ?_
    refine Ci.mono K (fun v5 σ4 K => ?_)
    refine wp_if_ne 24 dX10_packed_18 (by decide) rfl (fun h6 => ?_) (fun h6 => ?_)
    · rw [if_neg h6] at K
      refine wp_aload_n 0 dX10_packed_24 rfl rfl rfl ?_
      refine wp_iconst (v := 0) dX10_packed_25 rfl (by decide) ?_
      refine wp_iconst (v := (-1)) dX10_packed_26 rfl (by decide) ?_
      refine wn_callVi (As := [.int 0, .int (-1)]) (rest := []) 10 kmX10_209 (by decide) rfl rfl (Nat.le_of_ble_eq_true rfl) lM_0 (congrArg Prod.fst gM_0) dX10_packed_27 rfl ?_
      refine Ci.mono K (fun v8 σ7 K => ?_)
      refine wp_istore_n [1, 2, 3, 0] dX10_packed_30 rfl rfl (by decide) rfl ?_
      show WP _ _ _ _ _ _ _ 31 [(0, .ref 0), (1, .int x1), (2, .int x2), (3, .int v8)] _ _ _
      refine wp_aload_n 0 dX10_packed_31 rfl rfl rfl ?_
      refine wp_getR 10 8 kcX10 kfX10_20 rfl lM_0 (congrArg Prod.fst gM_0) rM_0_8 dX10_packed_32 rfl ?_
      refine wp_iload_n 1 dX10_packed_35 rfl rfl rfl ?_
      obtain ⟨k9, K⟩ := K
      refine wn_iald lM_4 gM_4 k9 dX10_packed_36 rfl ?_
      refine wp_aload_n 0 dX10_packed_37 rfl rfl rfl ?_
      refine wp_aload_n 0 dX10_packed_38 rfl rfl rfl ?_
      refine wp_iconst (v := 0) dX10_packed_39 rfl (by decide) ?_
      refine wp_iload_n 1 dX10_packed_40 rfl rfl rfl ?_
      refine wn_callVi (As := [.int 0, .int x1]) (rest := [.ref 0, .int (σ7 4 (Int32.toNatClampNeg x1))]) 10 kmX10_223 (by decide) rfl rfl (Nat.le_of_ble_eq_true rfl) lM_0 (congrArg Prod.fst gM_0) dX10_packed_41 rfl ?_
      refine Ci.mono K (fun v11 σ10 K => ?_)
      refine wn_callVi (As := [.int v11]) (rest := [.int (σ7 4 (Int32.toNatClampNeg x1))]) 10 kmX10_220 (by decide) rfl rfl (Nat.le_of_ble_eq_true rfl) lM_0 (congrArg Prod.fst gM_0) dX10_packed_44 rfl ?_
      refine Ci.mono K (fun v13 σ12 K => ?_)
      refine wp_isub dX10_packed_47 rfl ?_
      refine wp_istore [1, 2, 3, 4, 0] dX10_packed_48 rfl (by decide) rfl ?_
      show WP _ _ _ _ _ _ _ 50 [(0, .ref 0), (1, .int x1), (2, .int x2), (3, .int v8), (4, .int ((σ7 4 (Int32.toNatClampNeg x1)) - v13))] _ _ _
      refine wp_iconst (v := 0) dX10_packed_50 rfl (by decide) ?_
      refine wp_istore [1, 2, 3, 4, 5, 0] dX10_packed_51 rfl (by decide) rfl ?_
      show WP _ _ _ _ _ _ _ 53 [(0, .ref 0), (1, .int x1), (2, .int x2), (3, .int v8), (4, .int ((σ7 4 (Int32.toNatClampNeg x1)) - v13)), (5, .int 0)] _ _ _
      refine wp_iconst (v := 0) dX10_packed_53 rfl (by decide) ?_
      refine wp_istore [1, 2, 3, 4, 5, 6, 0] dX10_packed_54 rfl (by decide) rfl ?_
      show WP _ _ _ _ _ _ _ 56 [(0, .ref 0), (1, .int x1), (2, .int x2), (3, .int v8), (4, .int ((σ7 4 (Int32.toNatClampNeg x1)) - v13)), (5, .int 0), (6, .int 0)] _ _ _
      refine wp_lv [0, 2, 3, 4, 5, 6] rfl ?_
      exact K
    · rw [if_pos h6] at K
      refine wp_ldc dX10_packed_21 rfl tw_1108 ?_
      exact wp_ret .int rfl rfl (Nat.le_refl 0) (Nat.le_refl 0) dX10_packed_23 ⟨rfl, _, rfl, K⟩
  · rw [if_pos h3] at K
    refine wp_ldc dX10_packed_8 rfl tw_1191 ?_
    exact wp_ret .int rfl rfl (Nat.le_refl 0) (Nat.le_refl 0) dX10_packed_10 ⟨rfl, _, rfl, K⟩
theorem eX10_packed {E : tp_E} {d : Nat} {Q : Int32 → tp_M → Prop} {σ : tp_M}   (x1 : Int32) (x2 : Int32) (K : Ci E TM yX10_isWaiter iX10_isWaiter d [.ref 0, .int x1] σ (fun v2 σ1 => if v2 = 0 then (Q (-1000000001) σ1) else (Ci E TM yX10_in iX10_in d [.long (Int32.toInt64 x2), .long 0, .long 1] σ1 (fun v5 σ4 => if v5 = 0 then (Q (-1000000002) σ4) else (Ci E TM yX10_thingsAt iX10_thingsAt d [.ref 0, .int 0, .int (-1)] σ4 (fun v8 σ7 => vp_in x1 4 ∧ (Ci E TM yX10_onTray iX10_onTray d [.ref 0, .int 0, .int x1] σ7 (fun v11 σ10 => Ci E TM yX10_weightOf iX10_weightOf d [.ref 0, .int v11] σ10 (fun v13 σ12 => Wi E TM iX10_packed (d + 1) Q 56 [(0, .ref 0), (2, .int x2), (3, .int v8), (4, .int ((σ7 4 (Int32.toNatClampNeg x1)) - v13)), (5, .int 0), (6, .int 0)] [] σ12))))))))) : Ci E TM yX10_packed iX10_packed (d + 1) [.ref 0, .int x1, .int x2] σ Q := Ci.of ⟨by decide +kernel, rfl, rfl⟩ (Nat.le_of_ble_eq_true rfl) (bX10_packed_0  x1 x2 K)
theorem bX10_packed_56 {E : tp_E} {d : Nat} {Q : Int32 → tp_M → Prop} {σ : tp_M}   (x2 : Int32) (x3 : Int32) (x4 : Int32) (x5 : Int32) (x6 : Int32) (K : if 256 ≤ x6 then (if x2 = 0 then (Q x5 σ) else (Ci E TM yX10_worthOf iX10_worthOf d [.ref 0, .int x5] σ (fun v4 σ3 => Q v4 σ3))) else (if (x6 &&& (x3 ^^^ (-1))) = 0 then (Ci E TM yX10_weightOf iX10_weightOf d [.ref 0, .int x6] σ (fun v7 σ6 => if x4 < v7 then (Wi E TM iX10_packed (d + 1) Q 89 [(0, .ref 0), (2, .int x2), (3, .int x3), (4, .int x4), (5, .int x5), (6, .int x6)] [.int 0] σ6) else (Wi E TM iX10_packed (d + 1) Q 89 [(0, .ref 0), (2, .int x2), (3, .int x3), (4, .int x4), (5, .int x5), (6, .int x6)] [.int 1] σ6))) else (Wi E TM iX10_packed (d + 1) Q 89 [(0, .ref 0), (2, .int x2), (3, .int x3), (4, .int x4), (5, .int x5), (6, .int x6)] [.int 0] σ))) : Wi E TM iX10_packed (d + 1) Q 56 [(0, .ref 0), (2, .int x2), (3, .int x3), (4, .int x4), (5, .int x5), (6, .int x6)] [] σ := by
  refine wp_iload 5 dX10_packed_56 rfl rfl ?_
  refine wp_sipush (v := 256) dX10_packed_58 rfl (by decide) ?_
  refine wp_icmp_ge 126 dX10_packed_61 (by decide) rfl (fun h1 => ?_) (fun h1 => ?_)
  · rw [if_pos h1] at K
    refine wp_iload_n 1 dX10_packed_126 rfl rfl rfl ?_
    refine wp_if_ne 135 dX10_packed_127 (by decide) rfl (fun h2 => ?_) (fun h2 => ?_)
    · rw [if_neg h2] at K
      refine wp_aload_n 0 dX10_packed_135 rfl rfl rfl ?_
      refine wp_iload 4 dX10_packed_136 rfl rfl ?_
      refine wn_callVi (As := [.int x5]) (rest := []) 10 kmX10_213 (by decide) rfl rfl (Nat.le_of_ble_eq_true rfl) lM_0 (congrArg Prod.fst gM_0) dX10_packed_138 rfl ?_
      refine Ci.mono K (fun v4 σ3 K => ?_)
      exact wp_ret .int rfl rfl (Nat.le_refl 0) (Nat.le_refl 0) dX10_packed_141 ⟨rfl, _, rfl, K⟩
    · rw [if_pos h2] at K
      refine wp_iload 4 dX10_packed_130 rfl rfl ?_
      refine wp_goto 141 dX10_packed_132 (by decide) ?_
      exact wp_ret .int rfl rfl (Nat.le_refl 0) (Nat.le_refl 0) dX10_packed_141 ⟨rfl, _, rfl, K⟩
  · rw [if_neg h1] at K
    refine wp_iload 5 dX10_packed_64 rfl rfl ?_
    refine wp_iload_n 2 dX10_packed_66 rfl rfl rfl ?_
    refine wp_iconst (v := (-1)) dX10_packed_67 rfl (by decide) ?_
    refine wp_ixor dX10_packed_68 rfl ?_
    refine wp_iand dX10_packed_69 rfl ?_
    refine wp_if_ne 88 dX10_packed_70 (by decide) rfl (fun h5 => ?_) (fun h5 => ?_)
    · rw [if_neg h5] at K
      refine wp_iconst (v := 0) dX10_packed_88 rfl (by decide) ?_
      exact K
    · rw [if_pos h5] at K
      refine wp_aload_n 0 dX10_packed_73 rfl rfl rfl ?_
      refine wp_iload 5 dX10_packed_74 rfl rfl ?_
      refine wn_callVi (As := [.int x6]) (rest := []) 10 kmX10_220 (by decide) rfl rfl (Nat.le_of_ble_eq_true rfl) lM_0 (congrArg Prod.fst gM_0) dX10_packed_76 rfl ?_
      refine Ci.mono K (fun v7 σ6 K => ?_)
      refine wp_iload 3 dX10_packed_79 rfl rfl ?_
      refine wp_icmp_gt 88 dX10_packed_81 (by decide) rfl (fun h8 => ?_) (fun h8 => ?_)
      · rw [if_pos h8] at K
        refine wp_iconst (v := 0) dX10_packed_88 rfl (by decide) ?_
        exact K
      · rw [if_neg h8] at K
        refine wp_iconst (v := 1) dX10_packed_84 rfl (by decide) ?_
        refine wp_goto 89 dX10_packed_85 (by decide) ?_
        exact K
theorem bX10_packed_89 {E : tp_E} {d : Nat} {Q : Int32 → tp_M → Prop} {σ : tp_M}   (x2 : Int32) (x3 : Int32) (x4 : Int32) (x5 : Int32) (x6 : Int32) (s0 : Int32) (K : if s0 = 0 then (Wi E TM iX10_packed (d + 1) Q 56 [(0, .ref 0), (2, .int x2), (3, .int x3), (4, .int x4), (5, .int x5), (6, .int (x6 + 1))] [] σ) else (Ci E TM yX10_worthOf iX10_worthOf d [.ref 0, .int x6] σ (fun v3 σ2 => Ci E TM yX10_worthOf iX10_worthOf d [.ref 0, .int x5] σ2 (fun v5 σ4 => if v3 ≤ v5 then (Wi E TM iX10_packed (d + 1) Q 56 [(0, .ref 0), (2, .int x2), (3, .int x3), (4, .int x4), (5, .int x5), (6, .int (x6 + 1))] [] σ4) else (Wi E TM iX10_packed (d + 1) Q 56 [(0, .ref 0), (2, .int x2), (3, .int x3), (4, .int x4), (5, .int x6), (6, .int (x6 + 1))] [] σ4))))) : Wi E TM iX10_packed (d + 1) Q 89 [(0, .ref 0), (2, .int x2), (3, .int x3), (4, .int x4), (5, .int x5), (6, .int x6)] [.int s0] σ := by
  refine wp_istore [1, 2, 3, 4, 5, 6, 0] dX10_packed_89 rfl (by decide) rfl ?_
  show WP _ _ _ _ _ _ _ 91 [(0, .ref 0), (2, .int x2), (3, .int x3), (4, .int x4), (5, .int x5), (6, .int x6), (7, .int s0)] _ _ _
  refine wp_iload 6 dX10_packed_91 rfl rfl ?_
  refine wp_if_eq 116 dX10_packed_93 (by decide) rfl (fun h1 => ?_) (fun h1 => ?_)
  · rw [if_pos h1] at K
    refine wp_iload 4 dX10_packed_116 rfl rfl ?_
    refine wp_istore [1, 2, 3, 4, 0, 5, 6] dX10_packed_118 rfl (by decide) rfl ?_
    show WP _ _ _ _ _ _ _ 120 [(0, .ref 0), (2, .int x2), (3, .int x3), (4, .int x4), (5, .int x5), (6, .int x6), (7, .int s0)] _ _ _
    refine wp_iinc (v := x6 + 1) 5 [1, 2, 3, 4, 5, 0, 6] dX10_packed_120 rfl (by decide) rfl rfl rfl ?_
    show WP _ _ _ _ _ _ _ 123 [(0, .ref 0), (2, .int x2), (3, .int x3), (4, .int x4), (5, .int x5), (6, .int (x6 + 1)), (7, .int s0)] _ _ _
    refine wp_goto 56 dX10_packed_123 (by decide) ?_
    refine wp_lv [0, 1, 2, 3, 4, 5] rfl ?_
    exact K
  · rw [if_neg h1] at K
    refine wp_aload_n 0 dX10_packed_96 rfl rfl rfl ?_
    refine wp_iload 5 dX10_packed_97 rfl rfl ?_
    refine wn_callVi (As := [.int x6]) (rest := []) 10 kmX10_213 (by decide) rfl rfl (Nat.le_of_ble_eq_true rfl) lM_0 (congrArg Prod.fst gM_0) dX10_packed_99 rfl ?_
    refine Ci.mono K (fun v3 σ2 K => ?_)
    refine wp_aload_n 0 dX10_packed_102 rfl rfl rfl ?_
    refine wp_iload 4 dX10_packed_103 rfl rfl ?_
    refine wn_callVi (As := [.int x5]) (rest := [.int v3]) 10 kmX10_213 (by decide) rfl rfl (Nat.le_of_ble_eq_true rfl) lM_0 (congrArg Prod.fst gM_0) dX10_packed_105 rfl ?_
    refine Ci.mono K (fun v5 σ4 K => ?_)
    refine wp_icmp_le 116 dX10_packed_108 (by decide) rfl (fun h6 => ?_) (fun h6 => ?_)
    · rw [if_pos h6] at K
      refine wp_iload 4 dX10_packed_116 rfl rfl ?_
      refine wp_istore [1, 2, 3, 4, 0, 5, 6] dX10_packed_118 rfl (by decide) rfl ?_
      show WP _ _ _ _ _ _ _ 120 [(0, .ref 0), (2, .int x2), (3, .int x3), (4, .int x4), (5, .int x5), (6, .int x6), (7, .int s0)] _ _ _
      refine wp_iinc (v := x6 + 1) 5 [1, 2, 3, 4, 5, 0, 6] dX10_packed_120 rfl (by decide) rfl rfl rfl ?_
      show WP _ _ _ _ _ _ _ 123 [(0, .ref 0), (2, .int x2), (3, .int x3), (4, .int x4), (5, .int x5), (6, .int (x6 + 1)), (7, .int s0)] _ _ _
      refine wp_goto 56 dX10_packed_123 (by decide) ?_
      refine wp_lv [0, 1, 2, 3, 4, 5] rfl ?_
      exact K
    · rw [if_neg h6] at K
      refine wp_iload 5 dX10_packed_111 rfl rfl ?_
      refine wp_goto 118 dX10_packed_113 (by decide) ?_
      refine wp_istore [1, 2, 3, 4, 0, 5, 6] dX10_packed_118 rfl (by decide) rfl ?_
      show WP _ _ _ _ _ _ _ 120 [(0, .ref 0), (2, .int x2), (3, .int x3), (4, .int x4), (5, .int x6), (6, .int x6), (7, .int s0)] _ _ _
      refine wp_iinc (v := x6 + 1) 5 [1, 2, 3, 4, 5, 0, 6] dX10_packed_120 rfl (by decide) rfl rfl rfl ?_
      show WP _ _ _ _ _ _ _ 123 [(0, .ref 0), (2, .int x2), (3, .int x3), (4, .int x4), (5, .int x6), (6, .int (x6 + 1)), (7, .int s0)] _ _ _
      refine wp_goto 56 dX10_packed_123 (by decide) ?_
      refine wp_lv [0, 1, 2, 3, 4, 5] rfl ?_
      exact K
theorem bX10_covered_0 {E : tp_E} {d : Nat} {Q : Int32 → tp_M → Prop} {σ : tp_M}   (x1 : Int32) (x2 : Int32) (K : Ci E TM yX10_isRoom iX10_isRoom d [.ref 0, .int x1] σ (fun v2 σ1 => if v2 = 0 then (Q (-1000000001) σ1) else (Ci E TM yX10_in iX10_in d [.long (Int32.toInt64 x2), .long 0, .long 20] σ1 (fun v5 σ4 => if v5 = 0 then (Q (-1000000002) σ4) else (Wi E TM iX10_covered (d + 1) Q 33 [(0, .ref 0), (2, .int x2), (3, .int (1 <<< (x1 &&& 31))), (4, .int 0)] [] σ4))))) : Wi E TM iX10_covered (d + 1) Q 0 [(0, .ref 0), (1, .int x1), (2, .int x2)] [] σ := by
  refine wp_aload_n 0 dX10_covered_0 rfl rfl rfl ?_
  refine wp_iload_n 1 dX10_covered_1 rfl rfl rfl ?_
  refine wn_callVi (As := [.int x1]) (rest := []) 10 kmX10_216 (by decide) rfl rfl (Nat.le_of_ble_eq_true rfl) lM_0 (congrArg Prod.fst gM_0) dX10_covered_2 rfl ?_
  refine Ci.mono K (fun v2 σ1 K => ?_)
  refine wp_if_ne 11 dX10_covered_5 (by decide) rfl (fun h3 => ?_) (fun h3 => ?_)
  · rw [if_neg h3] at K
    refine wp_iload_n 2 dX10_covered_11 rfl rfl rfl ?_
    refine wp_i2l dX10_covered_12 rfl ?_
    refine wp_lconst (v := 0) dX10_covered_13 rfl (by decide) ?_
    refine wp_ldc2 dX10_covered_14 rfl tw_1301 ?_
    refine wn_callSi (As := [.long (Int32.toInt64 x2), .long 0, .long 20]) (rest := []) kmX10_93 (by decide) rfl rfl (Nat.le_of_ble_eq_true rfl) dX10_covered_17 rfl ?_
    refine Ci.mono K (fun v5 σ4 K => ?_)
    refine wp_if_ne 26 dX10_covered_20 (by decide) rfl (fun h6 => ?_) (fun h6 => ?_)
    · rw [if_neg h6] at K
      refine wp_iconst (v := 1) dX10_covered_26 rfl (by decide) ?_
      refine wp_iload_n 1 dX10_covered_27 rfl rfl rfl ?_
      refine wp_ishl dX10_covered_28 rfl ?_
      refine wp_istore_n [1, 2, 3, 0] dX10_covered_29 rfl rfl (by decide) rfl ?_
      show WP _ _ _ _ _ _ _ 30 [(0, .ref 0), (1, .int x1), (2, .int x2), (3, .int (1 <<< (x1 &&& 31)))] _ _ _
      refine wp_iconst (v := 0) dX10_covered_30 rfl (by decide) ?_
      refine wp_istore [1, 2, 3, 4, 0] dX10_covered_31 rfl (by decide) rfl ?_
      show WP _ _ _ _ _ _ _ 33 [(0, .ref 0), (1, .int x1), (2, .int x2), (3, .int (1 <<< (x1 &&& 31))), (4, .int 0)] _ _ _
      refine wp_lv [0, 2, 3, 4] rfl ?_
      exact K
    · rw [if_pos h6] at K
      refine wp_ldc dX10_covered_23 rfl tw_1108 ?_
      exact wp_ret .int rfl rfl (Nat.le_refl 0) (Nat.le_refl 0) dX10_covered_25 ⟨rfl, _, rfl, K⟩
  · rw [if_pos h3] at K
    refine wp_ldc dX10_covered_8 rfl tw_1191 ?_
    exact wp_ret .int rfl rfl (Nat.le_refl 0) (Nat.le_refl 0) dX10_covered_10 ⟨rfl, _, rfl, K⟩
theorem eX10_covered {E : tp_E} {d : Nat} {Q : Int32 → tp_M → Prop} {σ : tp_M}   (x1 : Int32) (x2 : Int32) (K : Ci E TM yX10_isRoom iX10_isRoom d [.ref 0, .int x1] σ (fun v2 σ1 => if v2 = 0 then (Q (-1000000001) σ1) else (Ci E TM yX10_in iX10_in d [.long (Int32.toInt64 x2), .long 0, .long 20] σ1 (fun v5 σ4 => if v5 = 0 then (Q (-1000000002) σ4) else (Wi E TM iX10_covered (d + 1) Q 33 [(0, .ref 0), (2, .int x2), (3, .int (1 <<< (x1 &&& 31))), (4, .int 0)] [] σ4))))) : Ci E TM yX10_covered iX10_covered (d + 1) [.ref 0, .int x1, .int x2] σ Q := Ci.of ⟨by decide +kernel, rfl, rfl⟩ (Nat.le_of_ble_eq_true rfl) (bX10_covered_0  x1 x2 K)
theorem bX10_covered_33 {E : tp_E} {d : Nat} {Q : Int32 → tp_M → Prop} {σ : tp_M}   (x2 : Int32) (x3 : Int32) (x4 : Int32) (K : if x2 ≤ x4 then (Q x3 σ) else (Wi E TM iX10_covered (d + 1) Q 45 [(0, .ref 0), (2, .int x2), (3, .int x3), (4, .int x4), (5, .int 0), (6, .int 0)] [] σ)) : Wi E TM iX10_covered (d + 1) Q 33 [(0, .ref 0), (2, .int x2), (3, .int x3), (4, .int x4)] [] σ := by
  refine wp_iload 3 dX10_covered_33 rfl rfl ?_
  refine wp_iload_n 1 dX10_covered_35 rfl rfl rfl ?_
  refine wp_icmp_ge 94 dX10_covered_36 (by decide) rfl (fun h1 => ?_) (fun h1 => ?_)
  · rw [if_pos h1] at K
    refine wp_iload_n 2 dX10_covered_94 rfl rfl rfl ?_
    exact wp_ret .int rfl rfl (Nat.le_refl 0) (Nat.le_refl 0) dX10_covered_95 ⟨rfl, _, rfl, K⟩
  · rw [if_neg h1] at K
    refine wp_iconst (v := 0) dX10_covered_39 rfl (by decide) ?_
    refine wp_istore [1, 2, 3, 4, 0] dX10_covered_40 rfl (by decide) rfl ?_
    show WP _ _ _ _ _ _ _ 42 [(0, .ref 0), (2, .int x2), (3, .int x3), (4, .int x4), (5, .int 0)] _ _ _
    refine wp_iconst (v := 0) dX10_covered_42 rfl (by decide) ?_
    refine wp_istore [1, 2, 3, 4, 5, 0] dX10_covered_43 rfl (by decide) rfl ?_
    show WP _ _ _ _ _ _ _ 45 [(0, .ref 0), (2, .int x2), (3, .int x3), (4, .int x4), (5, .int 0), (6, .int 0)] _ _ _
    exact K
theorem bX10_covered_45 {E : tp_E} {d : Nat} {Q : Int32 → tp_M → Prop} {σ : tp_M}   (x2 : Int32) (x3 : Int32) (x4 : Int32) (x5 : Int32) (x6 : Int32) (K : if (σ 0 3) ≤ x6 then (Wi E TM iX10_covered (d + 1) Q 33 [(0, .ref 0), (2, .int x2), (3, .int x5), (4, .int (x4 + 1))] [] σ) else (Ci E TM yX10_has iX10_has d [.int x3, .int x6] σ (fun v3 σ2 => if v3 = 0 then (Wi E TM iX10_covered (d + 1) Q 45 [(0, .ref 0), (2, .int x2), (3, .int x3), (4, .int x4), (5, .int (x5 ||| 0)), (6, .int (x6 + 1))] [] σ2) else (vp_in x6 8 ∧ (Wi E TM iX10_covered (d + 1) Q 45 [(0, .ref 0), (2, .int x2), (3, .int x3), (4, .int x4), (5, .int (x5 ||| (σ2 3 (Int32.toNatClampNeg x6)))), (6, .int (x6 + 1))] [] σ2))))) : Wi E TM iX10_covered (d + 1) Q 45 [(0, .ref 0), (2, .int x2), (3, .int x3), (4, .int x4), (5, .int x5), (6, .int x6)] [] σ := by
  refine wp_iload 5 dX10_covered_45 rfl rfl ?_
  refine wp_aload_n 0 dX10_covered_47 rfl rfl rfl ?_
  refine wp_getI 10 3 kcX10 kfX10_90 rfl lM_0 (congrArg Prod.fst gM_0) dX10_covered_48 rfl ?_
  refine wp_icmp_ge 85 dX10_covered_51 (by decide) rfl (fun h1 => ?_) (fun h1 => ?_)
  · rw [if_pos h1] at K
    refine wp_iload 4 dX10_covered_85 rfl rfl ?_
    refine wp_istore_n [1, 2, 0, 3, 4, 5] dX10_covered_87 rfl rfl (by decide) rfl ?_
    show WP _ _ _ _ _ _ _ 88 [(0, .ref 0), (2, .int x2), (3, .int x5), (4, .int x4), (5, .int x5), (6, .int x6)] _ _ _
    refine wp_iinc (v := x4 + 1) 3 [1, 2, 3, 0, 4, 5] dX10_covered_88 rfl (by decide) rfl rfl rfl ?_
    show WP _ _ _ _ _ _ _ 91 [(0, .ref 0), (2, .int x2), (3, .int x5), (4, .int (x4 + 1)), (5, .int x5), (6, .int x6)] _ _ _
    refine wp_goto 33 dX10_covered_91 (by decide) ?_
    refine wp_lv [0, 1, 2, 3] rfl ?_
    exact K
  · rw [if_neg h1] at K
    refine wp_iload 4 dX10_covered_54 rfl rfl ?_
    refine wp_iload_n 2 dX10_covered_56 rfl rfl rfl ?_
    refine wp_iload 5 dX10_covered_57 rfl rfl ?_
    refine wn_callSi (As := [.int x3, .int x6]) (rest := [.int x5]) kmX10_151 (by decide) rfl rfl (Nat.le_of_ble_eq_true rfl) dX10_covered_59 rfl ?_
    refine Ci.mono K (fun v3 σ2 K => ?_)
    refine wp_if_eq 75 dX10_covered_62 (by decide) rfl (fun h4 => ?_) (fun h4 => ?_)
    · rw [if_pos h4] at K
      refine wp_iconst (v := 0) dX10_covered_75 rfl (by decide) ?_
      refine wp_ior dX10_covered_76 rfl ?_
      refine wp_istore [1, 2, 3, 4, 0, 5] dX10_covered_77 rfl (by decide) rfl ?_
      show WP _ _ _ _ _ _ _ 79 [(0, .ref 0), (2, .int x2), (3, .int x3), (4, .int x4), (5, .int (x5 ||| 0)), (6, .int x6)] _ _ _
      refine wp_iinc (v := x6 + 1) 5 [1, 2, 3, 4, 5, 0] dX10_covered_79 rfl (by decide) rfl rfl rfl ?_
      show WP _ _ _ _ _ _ _ 82 [(0, .ref 0), (2, .int x2), (3, .int x3), (4, .int x4), (5, .int (x5 ||| 0)), (6, .int (x6 + 1))] _ _ _
      refine wp_goto 45 dX10_covered_82 (by decide) ?_
      exact K
    · rw [if_neg h4] at K
      refine wp_aload_n 0 dX10_covered_65 rfl rfl rfl ?_
      refine wp_getR 10 6 kcX10 kfX10_17 rfl lM_0 (congrArg Prod.fst gM_0) rM_0_6 dX10_covered_66 rfl ?_
      refine wp_iload 5 dX10_covered_69 rfl rfl ?_
      obtain ⟨k5, K⟩ := K
      refine wn_iald lM_3 gM_3 k5 dX10_covered_71 rfl ?_
      refine wp_goto 76 dX10_covered_72 (by decide) ?_
      refine wp_ior dX10_covered_76 rfl ?_
      refine wp_istore [1, 2, 3, 4, 0, 5] dX10_covered_77 rfl (by decide) rfl ?_
      show WP _ _ _ _ _ _ _ 79 [(0, .ref 0), (2, .int x2), (3, .int x3), (4, .int x4), (5, .int (x5 ||| (σ2 3 (Int32.toNatClampNeg x6)))), (6, .int x6)] _ _ _
      refine wp_iinc (v := x6 + 1) 5 [1, 2, 3, 4, 5, 0] dX10_covered_79 rfl (by decide) rfl rfl rfl ?_
      show WP _ _ _ _ _ _ _ 82 [(0, .ref 0), (2, .int x2), (3, .int x3), (4, .int x4), (5, .int (x5 ||| (σ2 3 (Int32.toNatClampNeg x6)))), (6, .int (x6 + 1))] _ _ _
      refine wp_goto 45 dX10_covered_82 (by decide) ?_
      exact K
theorem bX10_calm_0 {E : tp_E} {d : Nat} {Q : Int32 → tp_M → Prop} {σ : tp_M}   (x1 : Int32) (x2 : Int32) (K : Ci E TM yX10_in iX10_in d [.long (Int32.toInt64 x1), .long 0, .long 60] σ (fun v2 σ1 => if v2 = 0 then (Q (-1000000002) σ1) else (Ci E TM yX10_in iX10_in d [.long (Int32.toInt64 x2), .long 0, .long 100] σ1 (fun v5 σ4 => if v5 = 0 then (Q (-1000000002) σ4) else (Wi E TM iX10_calm (d + 1) Q 34 [(1, .int x1), (2, .int x2), (3, .long 1000000000), (5, .int 0)] [] σ4))))) : Wi E TM iX10_calm (d + 1) Q 0 [(0, .ref 0), (1, .int x1), (2, .int x2)] [] σ := by
  refine wp_iload_n 1 dX10_calm_0 rfl rfl rfl ?_
  refine wp_i2l dX10_calm_1 rfl ?_
  refine wp_lconst (v := 0) dX10_calm_2 rfl (by decide) ?_
  refine wp_ldc2 dX10_calm_3 rfl tw_1237 ?_
  refine wn_callSi (As := [.long (Int32.toInt64 x1), .long 0, .long 60]) (rest := []) kmX10_93 (by decide) rfl rfl (Nat.le_of_ble_eq_true rfl) dX10_calm_6 rfl ?_
  refine Ci.mono K (fun v2 σ1 K => ?_)
  refine wp_if_eq 24 dX10_calm_9 (by decide) rfl (fun h3 => ?_) (fun h3 => ?_)
  · rw [if_pos h3] at K
    refine wp_ldc dX10_calm_24 rfl tw_1108 ?_
    exact wp_ret .int rfl rfl (Nat.le_refl 0) (Nat.le_refl 0) dX10_calm_26 ⟨rfl, _, rfl, K⟩
  · rw [if_neg h3] at K
    refine wp_iload_n 2 dX10_calm_12 rfl rfl rfl ?_
    refine wp_i2l dX10_calm_13 rfl ?_
    refine wp_lconst (v := 0) dX10_calm_14 rfl (by decide) ?_
    refine wp_ldc2 dX10_calm_15 rfl tw_1359 ?_
    refine wn_callSi (As := [.long (Int32.toInt64 x2), .long 0, .long 100]) (rest := []) kmX10_93 (by decide) rfl rfl (Nat.le_of_ble_eq_true rfl) dX10_calm_18 rfl ?_
    refine Ci.mono K (fun v5 σ4 K => ?_)
    refine wp_if_ne 27 dX10_calm_21 (by decide) rfl (fun h6 => ?_) (fun h6 => ?_)
    · rw [if_neg h6] at K
      refine wp_ldc2 dX10_calm_27 rfl tw_1360 ?_
      refine wp_lstore_n [1, 2, 3, 0] dX10_calm_30 rfl rfl (by decide) rfl ?_
      show WP _ _ _ _ _ _ _ 31 [(0, .ref 0), (1, .int x1), (2, .int x2), (3, .long 1000000000)] _ _ _
      refine wp_iconst (v := 0) dX10_calm_31 rfl (by decide) ?_
      refine wp_istore [1, 2, 3, 4, 0] dX10_calm_32 rfl (by decide) rfl ?_
      show WP _ _ _ _ _ _ _ 34 [(0, .ref 0), (1, .int x1), (2, .int x2), (3, .long 1000000000), (5, .int 0)] _ _ _
      refine wp_lv [1, 2, 3, 4] rfl ?_
      exact K
    · rw [if_pos h6] at K
      refine wp_ldc dX10_calm_24 rfl tw_1108 ?_
      exact wp_ret .int rfl rfl (Nat.le_refl 0) (Nat.le_refl 0) dX10_calm_26 ⟨rfl, _, rfl, K⟩
theorem eX10_calm {E : tp_E} {d : Nat} {Q : Int32 → tp_M → Prop} {σ : tp_M}   (x1 : Int32) (x2 : Int32) (K : Ci E TM yX10_in iX10_in d [.long (Int32.toInt64 x1), .long 0, .long 60] σ (fun v2 σ1 => if v2 = 0 then (Q (-1000000002) σ1) else (Ci E TM yX10_in iX10_in d [.long (Int32.toInt64 x2), .long 0, .long 100] σ1 (fun v5 σ4 => if v5 = 0 then (Q (-1000000002) σ4) else (Wi E TM iX10_calm (d + 1) Q 34 [(1, .int x1), (2, .int x2), (3, .long 1000000000), (5, .int 0)] [] σ4))))) : Ci E TM yX10_calm iX10_calm (d + 1) [.ref 0, .int x1, .int x2] σ Q := Ci.of ⟨by decide +kernel, rfl, rfl⟩ (Nat.le_of_ble_eq_true rfl) (bX10_calm_0  x1 x2 K)
theorem bX10_calm_34 {E : tp_E} {d : Nat} {Q : Int32 → tp_M → Prop} {σ : tp_M}   (x1 : Int32) (x2 : Int32) (x3 : Int64) (x5 : Int32) (K : if x1 ≤ x5 then (Q (Int64.toInt32 x3) σ) else (Wi E TM iX10_calm (d + 1) Q 34 [(1, .int x1), (2, .int x2), (3, .long ((x3 * (Int32.toInt64 (100 - x2))) / 100)), (5, .int (x5 + 1))] [] σ)) : Wi E TM iX10_calm (d + 1) Q 34 [(1, .int x1), (2, .int x2), (3, .long x3), (5, .int x5)] [] σ := by
  refine wp_iload 3 dX10_calm_34 rfl rfl ?_
  refine wp_iload_n 0 dX10_calm_36 rfl rfl rfl ?_
  refine wp_icmp_ge 58 dX10_calm_37 (by decide) rfl (fun h1 => ?_) (fun h1 => ?_)
  · rw [if_pos h1] at K
    refine wp_lload_n 2 dX10_calm_58 rfl rfl rfl ?_
    refine wp_l2i dX10_calm_59 rfl ?_
    exact wp_ret .int rfl rfl (Nat.le_refl 0) (Nat.le_refl 0) dX10_calm_60 ⟨rfl, _, rfl, K⟩
  · rw [if_neg h1] at K
    refine wp_lload_n 2 dX10_calm_40 rfl rfl rfl ?_
    refine wp_bipush (v := 100) dX10_calm_41 rfl (by decide) ?_
    refine wp_iload_n 1 dX10_calm_43 rfl rfl rfl ?_
    refine wp_isub dX10_calm_44 rfl ?_
    refine wp_i2l dX10_calm_45 rfl ?_
    refine wp_lmul dX10_calm_46 rfl ?_
    refine wp_ldc2 dX10_calm_47 rfl tw_1359 ?_
    refine wp_ldiv dX10_calm_50 rfl (by decide) ?_
    refine wp_lstore_n [1, 2, 0, 3] dX10_calm_51 rfl rfl (by decide) rfl ?_
    show WP _ _ _ _ _ _ _ 52 [(1, .int x1), (2, .int x2), (3, .long ((x3 * (Int32.toInt64 (100 - x2))) / 100)), (5, .int x5)] _ _ _
    refine wp_iinc (v := x5 + 1) 3 [1, 2, 3, 0] dX10_calm_52 rfl (by decide) rfl rfl rfl ?_
    show WP _ _ _ _ _ _ _ 55 [(1, .int x1), (2, .int x2), (3, .long ((x3 * (Int32.toInt64 (100 - x2))) / 100)), (5, .int (x5 + 1))] _ _ _
    refine wp_goto 34 dX10_calm_55 (by decide) ?_
    exact K
theorem bX10_see_0 {E : tp_E} {d : Nat} {Q : Int32 → tp_M → Prop} {σ : tp_M}   (x1 : Int32) (x2 : Int32) (x3 : Int32) (K : Ci E TM yX10_isRoom iX10_isRoom d [.ref 0, .int x1] σ (fun v2 σ1 => if v2 = 0 then (Q (-1000000001) σ1) else (Ci E TM yX10_in iX10_in d [.long (Int32.toInt64 x2), .long 1, .long 20] σ1 (fun v5 σ4 => if v5 = 0 then (Q (-1000000002) σ4) else (if (σ4 0 39) = 6 then (Q (-1000000004) σ4) else (vp_in (σ4 0 39) 6 ∧ (vp_in ((tp_u σ4 21 (Int32.toNatClampNeg (σ4 0 39)) x1) 0 39) 6 ∧ (vp_in ((tp_u (tp_u σ4 21 (Int32.toNatClampNeg (σ4 0 39)) x1) 22 (Int32.toNatClampNeg ((tp_u σ4 21 (Int32.toNatClampNeg (σ4 0 39)) x1) 0 39)) x2) 0 39) 6 ∧ ((x3 = 0 ∨ x3 = 1) ∧ (Q ((tp_u (tp_u (tp_u (tp_u σ4 21 (Int32.toNatClampNeg (σ4 0 39)) x1) 22 (Int32.toNatClampNeg ((tp_u σ4 21 (Int32.toNatClampNeg (σ4 0 39)) x1) 0 39)) x2) 23 (Int32.toNatClampNeg ((tp_u (tp_u σ4 21 (Int32.toNatClampNeg (σ4 0 39)) x1) 22 (Int32.toNatClampNeg ((tp_u σ4 21 (Int32.toNatClampNeg (σ4 0 39)) x1) 0 39)) x2) 0 39)) x3) 0 39 (((tp_u (tp_u (tp_u σ4 21 (Int32.toNatClampNeg (σ4 0 39)) x1) 22 (Int32.toNatClampNeg ((tp_u σ4 21 (Int32.toNatClampNeg (σ4 0 39)) x1) 0 39)) x2) 23 (Int32.toNatClampNeg ((tp_u (tp_u σ4 21 (Int32.toNatClampNeg (σ4 0 39)) x1) 22 (Int32.toNatClampNeg ((tp_u σ4 21 (Int32.toNatClampNeg (σ4 0 39)) x1) 0 39)) x2) 0 39)) x3) 0 39) + 1)) 0 39) (tp_u (tp_u (tp_u (tp_u σ4 21 (Int32.toNatClampNeg (σ4 0 39)) x1) 22 (Int32.toNatClampNeg ((tp_u σ4 21 (Int32.toNatClampNeg (σ4 0 39)) x1) 0 39)) x2) 23 (Int32.toNatClampNeg ((tp_u (tp_u σ4 21 (Int32.toNatClampNeg (σ4 0 39)) x1) 22 (Int32.toNatClampNeg ((tp_u σ4 21 (Int32.toNatClampNeg (σ4 0 39)) x1) 0 39)) x2) 0 39)) x3) 0 39 (((tp_u (tp_u (tp_u σ4 21 (Int32.toNatClampNeg (σ4 0 39)) x1) 22 (Int32.toNatClampNeg ((tp_u σ4 21 (Int32.toNatClampNeg (σ4 0 39)) x1) 0 39)) x2) 23 (Int32.toNatClampNeg ((tp_u (tp_u σ4 21 (Int32.toNatClampNeg (σ4 0 39)) x1) 22 (Int32.toNatClampNeg ((tp_u σ4 21 (Int32.toNatClampNeg (σ4 0 39)) x1) 0 39)) x2) 0 39)) x3) 0 39) + 1)))))))))))) : Wi E TM iX10_see (d + 1) Q 0 [(0, .ref 0), (1, .int x1), (2, .int x2), (3, .int x3)] [] σ := by
  refine wp_aload_n 0 dX10_see_0 rfl rfl rfl ?_
  refine wp_iload_n 1 dX10_see_1 rfl rfl rfl ?_
  refine wn_callVi (As := [.int x1]) (rest := []) 10 kmX10_216 (by decide) rfl rfl (Nat.le_of_ble_eq_true rfl) lM_0 (congrArg Prod.fst gM_0) dX10_see_2 rfl ?_
  refine Ci.mono K (fun v2 σ1 K => ?_)
  refine wp_if_ne 11 dX10_see_5 (by decide) rfl (fun h3 => ?_) (fun h3 => ?_)
  · rw [if_neg h3] at K
    refine wp_iload_n 2 dX10_see_11 rfl rfl rfl ?_
    refine wp_i2l dX10_see_12 rfl ?_
    refine wp_lconst (v := 1) dX10_see_13 rfl (by decide) ?_
    refine wp_ldc2 dX10_see_14 rfl tw_1301 ?_
    refine wn_callSi (As := [.long (Int32.toInt64 x2), .long 1, .long 20]) (rest := []) kmX10_93 (by decide) rfl rfl (Nat.le_of_ble_eq_true rfl) dX10_see_17 rfl ?_
    refine Ci.mono K (fun v5 σ4 K => ?_)
    refine wp_if_ne 26 dX10_see_20 (by decide) rfl (fun h6 => ?_) (fun h6 => ?_)
    · rw [if_neg h6] at K
      refine wp_aload_n 0 dX10_see_26 rfl rfl rfl ?_
      refine wp_getI 10 39 kcX10 kfX10_200 rfl lM_0 (congrArg Prod.fst gM_0) dX10_see_27 rfl ?_
      refine wp_bipush (v := 6) dX10_see_30 rfl (by decide) ?_
      refine wp_icmp_ne 38 dX10_see_32 (by decide) rfl (fun h7 => ?_) (fun h7 => ?_)
      · rw [if_neg h7] at K
        refine wp_aload_n 0 dX10_see_38 rfl rfl rfl ?_
        refine wp_getR 10 40 kcX10 kfX10_75 rfl lM_0 (congrArg Prod.fst gM_0) rM_0_40 dX10_see_39 rfl ?_
        refine wp_aload_n 0 dX10_see_42 rfl rfl rfl ?_
        refine wp_getI 10 39 kcX10 kfX10_200 rfl lM_0 (congrArg Prod.fst gM_0) dX10_see_43 rfl ?_
        refine wp_iload_n 1 dX10_see_46 rfl rfl rfl ?_
        obtain ⟨k8, K⟩ := K
        refine wn_iast lM_21 gM_21 k8 dX10_see_47 rfl ?_
        refine wp_aload_n 0 dX10_see_48 rfl rfl rfl ?_
        refine wp_getR 10 41 kcX10 kfX10_78 rfl lM_0 (congrArg Prod.fst gM_0) rM_0_41 dX10_see_49 rfl ?_
        refine wp_aload_n 0 dX10_see_52 rfl rfl rfl ?_
        refine wp_getI 10 39 kcX10 kfX10_200 rfl lM_0 (congrArg Prod.fst gM_0) dX10_see_53 rfl ?_
        refine wp_iload_n 2 dX10_see_56 rfl rfl rfl ?_
        obtain ⟨k9, K⟩ := K
        refine wn_iast lM_22 gM_22 k9 dX10_see_57 rfl ?_
        refine wp_aload_n 0 dX10_see_58 rfl rfl rfl ?_
        refine wp_getR 10 42 kcX10 kfX10_81 rfl lM_0 (congrArg Prod.fst gM_0) rM_0_42 dX10_see_59 rfl ?_
        refine wp_aload_n 0 dX10_see_62 rfl rfl rfl ?_
        refine wp_getI 10 39 kcX10 kfX10_200 rfl lM_0 (congrArg Prod.fst gM_0) dX10_see_63 rfl ?_
        refine wp_iload_n 3 dX10_see_66 rfl rfl rfl ?_
        obtain ⟨k10, K⟩ := K
        obtain ⟨k11, K⟩ := K
        refine wn_zast lM_23 gM_23 k10 k11 dX10_see_67 rfl ?_
        refine wp_aload_n 0 dX10_see_68 rfl rfl rfl ?_
        refine wp_dup dX10_see_69 rfl rfl ?_
        refine wp_getI 10 39 kcX10 kfX10_200 rfl lM_0 (congrArg Prod.fst gM_0) dX10_see_70 rfl ?_
        refine wp_iconst (v := 1) dX10_see_73 rfl (by decide) ?_
        refine wp_iadd dX10_see_74 rfl ?_
        refine wp_putI 10 39 kcX10 kfX10_200 rfl rfl rfl rfl lM_0 (congrArg Prod.fst gM_0) dX10_see_75 rfl ?_
        refine wp_aload_n 0 dX10_see_78 rfl rfl rfl ?_
        refine wp_getI 10 39 kcX10 kfX10_200 rfl lM_0 (congrArg Prod.fst gM_0) dX10_see_79 rfl ?_
        exact wp_ret .int rfl rfl (Nat.le_refl 0) (Nat.le_refl 0) dX10_see_82 ⟨rfl, _, rfl, K⟩
      · rw [if_pos h7] at K
        refine wp_ldc dX10_see_35 rfl tw_1109 ?_
        exact wp_ret .int rfl rfl (Nat.le_refl 0) (Nat.le_refl 0) dX10_see_37 ⟨rfl, _, rfl, K⟩
    · rw [if_pos h6] at K
      refine wp_ldc dX10_see_23 rfl tw_1108 ?_
      exact wp_ret .int rfl rfl (Nat.le_refl 0) (Nat.le_refl 0) dX10_see_25 ⟨rfl, _, rfl, K⟩
  · rw [if_pos h3] at K
    refine wp_ldc dX10_see_8 rfl tw_1191 ?_
    exact wp_ret .int rfl rfl (Nat.le_refl 0) (Nat.le_refl 0) dX10_see_10 ⟨rfl, _, rfl, K⟩
theorem eX10_see {E : tp_E} {d : Nat} {Q : Int32 → tp_M → Prop} {σ : tp_M}   (x1 : Int32) (x2 : Int32) (x3 : Int32) (K : Ci E TM yX10_isRoom iX10_isRoom d [.ref 0, .int x1] σ (fun v2 σ1 => if v2 = 0 then (Q (-1000000001) σ1) else (Ci E TM yX10_in iX10_in d [.long (Int32.toInt64 x2), .long 1, .long 20] σ1 (fun v5 σ4 => if v5 = 0 then (Q (-1000000002) σ4) else (if (σ4 0 39) = 6 then (Q (-1000000004) σ4) else (vp_in (σ4 0 39) 6 ∧ (vp_in ((tp_u σ4 21 (Int32.toNatClampNeg (σ4 0 39)) x1) 0 39) 6 ∧ (vp_in ((tp_u (tp_u σ4 21 (Int32.toNatClampNeg (σ4 0 39)) x1) 22 (Int32.toNatClampNeg ((tp_u σ4 21 (Int32.toNatClampNeg (σ4 0 39)) x1) 0 39)) x2) 0 39) 6 ∧ ((x3 = 0 ∨ x3 = 1) ∧ (Q ((tp_u (tp_u (tp_u (tp_u σ4 21 (Int32.toNatClampNeg (σ4 0 39)) x1) 22 (Int32.toNatClampNeg ((tp_u σ4 21 (Int32.toNatClampNeg (σ4 0 39)) x1) 0 39)) x2) 23 (Int32.toNatClampNeg ((tp_u (tp_u σ4 21 (Int32.toNatClampNeg (σ4 0 39)) x1) 22 (Int32.toNatClampNeg ((tp_u σ4 21 (Int32.toNatClampNeg (σ4 0 39)) x1) 0 39)) x2) 0 39)) x3) 0 39 (((tp_u (tp_u (tp_u σ4 21 (Int32.toNatClampNeg (σ4 0 39)) x1) 22 (Int32.toNatClampNeg ((tp_u σ4 21 (Int32.toNatClampNeg (σ4 0 39)) x1) 0 39)) x2) 23 (Int32.toNatClampNeg ((tp_u (tp_u σ4 21 (Int32.toNatClampNeg (σ4 0 39)) x1) 22 (Int32.toNatClampNeg ((tp_u σ4 21 (Int32.toNatClampNeg (σ4 0 39)) x1) 0 39)) x2) 0 39)) x3) 0 39) + 1)) 0 39) (tp_u (tp_u (tp_u (tp_u σ4 21 (Int32.toNatClampNeg (σ4 0 39)) x1) 22 (Int32.toNatClampNeg ((tp_u σ4 21 (Int32.toNatClampNeg (σ4 0 39)) x1) 0 39)) x2) 23 (Int32.toNatClampNeg ((tp_u (tp_u σ4 21 (Int32.toNatClampNeg (σ4 0 39)) x1) 22 (Int32.toNatClampNeg ((tp_u σ4 21 (Int32.toNatClampNeg (σ4 0 39)) x1) 0 39)) x2) 0 39)) x3) 0 39 (((tp_u (tp_u (tp_u σ4 21 (Int32.toNatClampNeg (σ4 0 39)) x1) 22 (Int32.toNatClampNeg ((tp_u σ4 21 (Int32.toNatClampNeg (σ4 0 39)) x1) 0 39)) x2) 23 (Int32.toNatClampNeg ((tp_u (tp_u σ4 21 (Int32.toNatClampNeg (σ4 0 39)) x1) 22 (Int32.toNatClampNeg ((tp_u σ4 21 (Int32.toNatClampNeg (σ4 0 39)) x1) 0 39)) x2) 0 39)) x3) 0 39) + 1)))))))))))) : Ci E TM yX10_see iX10_see (d + 1) [.ref 0, .int x1, .int x2, .int x3] σ Q := Ci.of ⟨by decide +kernel, rfl, rfl⟩ (Nat.le_of_ble_eq_true rfl) (bX10_see_0  x1 x2 x3 K)
theorem bX10_spiller_0 {E : tp_E} {d : Nat} {Q : Int32 → tp_M → Prop} {σ : tp_M}    (K : Ci E TM yX10_spillers iX10_spillers d [.ref 0] σ (fun v2 σ1 => Q v2 σ1)) : Wi E TM iX10_spiller (d + 1) Q 0 [(0, .ref 0)] [] σ := by
  refine wp_aload_n 0 dX10_spiller_0 rfl rfl rfl ?_
  refine wn_callVi (As := []) (rest := []) 10 kmX10_308 (by decide) rfl rfl (Nat.le_of_ble_eq_true rfl) lM_0 (congrArg Prod.fst gM_0) dX10_spiller_1 rfl ?_
  refine Ci.mono K (fun v2 σ1 K => ?_)
  exact wp_ret .int rfl rfl (Nat.le_refl 0) (Nat.le_refl 0) dX10_spiller_4 ⟨rfl, _, rfl, K⟩
theorem eX10_spiller {E : tp_E} {d : Nat} {Q : Int32 → tp_M → Prop} {σ : tp_M}    (K : Ci E TM yX10_spillers iX10_spillers d [.ref 0] σ (fun v2 σ1 => Q v2 σ1)) : Ci E TM yX10_spiller iX10_spiller (d + 1) [.ref 0] σ Q := Ci.of ⟨by decide +kernel, rfl, rfl⟩ (Nat.le_of_ble_eq_true rfl) (bX10_spiller_0   K)
theorem bX10_spillers_0 {E : tp_E} {d : Nat} {Q : Int32 → tp_M → Prop} {σ : tp_M}    (K : Wi E TM iX10_spillers (d + 1) Q 4 [(0, .ref 0), (1, .int 0), (2, .int 0)] [] σ) : Wi E TM iX10_spillers (d + 1) Q 0 [(0, .ref 0)] [] σ := by
  refine wp_iconst (v := 0) dX10_spillers_0 rfl (by decide) ?_
  refine wp_istore_n [1, 0] dX10_spillers_1 rfl rfl (by decide) rfl ?_
  show WP _ _ _ _ _ _ _ 2 [(0, .ref 0), (1, .int 0)] _ _ _
  refine wp_iconst (v := 0) dX10_spillers_2 rfl (by decide) ?_
  refine wp_istore_n [1, 2, 0] dX10_spillers_3 rfl rfl (by decide) rfl ?_
  show WP _ _ _ _ _ _ _ 4 [(0, .ref 0), (1, .int 0), (2, .int 0)] _ _ _
  exact K
theorem eX10_spillers {E : tp_E} {d : Nat} {Q : Int32 → tp_M → Prop} {σ : tp_M}    (K : Wi E TM iX10_spillers (d + 1) Q 4 [(0, .ref 0), (1, .int 0), (2, .int 0)] [] σ) : Ci E TM yX10_spillers iX10_spillers (d + 1) [.ref 0] σ Q := Ci.of ⟨by decide +kernel, rfl, rfl⟩ (Nat.le_of_ble_eq_true rfl) (bX10_spillers_0   K)
theorem bX10_spillers_4 {E : tp_E} {d : Nat} {Q : Int32 → tp_M → Prop} {σ : tp_M}   (x1 : Int32) (x2 : Int32) (K : if (σ 0 7) ≤ x2 then (Q x1 σ) else (Wi E TM iX10_spillers (d + 1) Q 17 [(0, .ref 0), (1, .int x1), (2, .int x2), (3, .int 1), (4, .int 0)] [] σ)) : Wi E TM iX10_spillers (d + 1) Q 4 [(0, .ref 0), (1, .int x1), (2, .int x2)] [] σ := by
  refine wp_iload_n 2 dX10_spillers_4 rfl rfl rfl ?_
  refine wp_aload_n 0 dX10_spillers_5 rfl rfl rfl ?_
  refine wp_getI 10 7 kcX10 kfX10_97 rfl lM_0 (congrArg Prod.fst gM_0) dX10_spillers_6 rfl ?_
  refine wp_icmp_ge 94 dX10_spillers_9 (by decide) rfl (fun h1 => ?_) (fun h1 => ?_)
  · rw [if_pos h1] at K
    refine wp_iload_n 1 dX10_spillers_94 rfl rfl rfl ?_
    exact wp_ret .int rfl rfl (Nat.le_refl 0) (Nat.le_refl 0) dX10_spillers_95 ⟨rfl, _, rfl, K⟩
  · rw [if_neg h1] at K
    refine wp_iconst (v := 1) dX10_spillers_12 rfl (by decide) ?_
    refine wp_istore_n [1, 2, 3, 0] dX10_spillers_13 rfl rfl (by decide) rfl ?_
    show WP _ _ _ _ _ _ _ 14 [(0, .ref 0), (1, .int x1), (2, .int x2), (3, .int 1)] _ _ _
    refine wp_iconst (v := 0) dX10_spillers_14 rfl (by decide) ?_
    refine wp_istore [1, 2, 3, 4, 0] dX10_spillers_15 rfl (by decide) rfl ?_
    show WP _ _ _ _ _ _ _ 17 [(0, .ref 0), (1, .int x1), (2, .int x2), (3, .int 1), (4, .int 0)] _ _ _
    exact K
theorem bX10_spillers_17 {E : tp_E} {d : Nat} {Q : Int32 → tp_M → Prop} {σ : tp_M}   (x1 : Int32) (x2 : Int32) (x3 : Int32) (x4 : Int32) (K : if (σ 0 39) ≤ x4 then (if x3 = 0 then (Wi E TM iX10_spillers (d + 1) Q 4 [(0, .ref 0), (1, .int (x1 ||| 0)), (2, .int (x2 + 1))] [] σ) else (Wi E TM iX10_spillers (d + 1) Q 4 [(0, .ref 0), (1, .int (x1 ||| (1 <<< (x2 &&& 31)))), (2, .int (x2 + 1))] [] σ)) else (if x3 = 0 then (Wi E TM iX10_spillers (d + 1) Q 17 [(0, .ref 0), (1, .int x1), (2, .int x2), (3, .int 0), (4, .int (x4 + 1))] [] σ) else (vp_in x4 6 ∧ (Ci E TM yX10_comesTo iX10_comesTo d [.ref 0, .int x2, .int (σ 22 (Int32.toNatClampNeg x4))] σ (fun v6 σ5 => vp_in x4 6 ∧ (Ci E TM yX10_has iX10_has d [.int v6, .int (σ5 21 (Int32.toNatClampNeg x4))] σ5 (fun v9 σ8 => vp_in x4 6 ∧ (if v9 = (σ8 23 (Int32.toNatClampNeg x4)) then (Wi E TM iX10_spillers (d + 1) Q 17 [(0, .ref 0), (1, .int x1), (2, .int x2), (3, .int 1), (4, .int (x4 + 1))] [] σ8) else (Wi E TM iX10_spillers (d + 1) Q 17 [(0, .ref 0), (1, .int x1), (2, .int x2), (3, .int 0), (4, .int (x4 + 1))] [] σ8))))))))) : Wi E TM iX10_spillers (d + 1) Q 17 [(0, .ref 0), (1, .int x1), (2, .int x2), (3, .int x3), (4, .int x4)] [] σ := by
  refine wp_iload 4 dX10_spillers_17 rfl rfl ?_
  refine wp_aload_n 0 dX10_spillers_19 rfl rfl rfl ?_
  refine wp_getI 10 39 kcX10 kfX10_200 rfl lM_0 (congrArg Prod.fst gM_0) dX10_spillers_20 rfl ?_
  refine wp_icmp_ge 74 dX10_spillers_23 (by decide) rfl (fun h1 => ?_) (fun h1 => ?_)
  · rw [if_pos h1] at K
    refine wp_iload_n 1 dX10_spillers_74 rfl rfl rfl ?_
    refine wp_iload_n 3 dX10_spillers_75 rfl rfl rfl ?_
    refine wp_if_eq 85 dX10_spillers_76 (by decide) rfl (fun h2 => ?_) (fun h2 => ?_)
    · rw [if_pos h2] at K
      refine wp_iconst (v := 0) dX10_spillers_85 rfl (by decide) ?_
      refine wp_ior dX10_spillers_86 rfl ?_
      refine wp_istore_n [1, 0, 2, 3, 4] dX10_spillers_87 rfl rfl (by decide) rfl ?_
      show WP _ _ _ _ _ _ _ 88 [(0, .ref 0), (1, .int (x1 ||| 0)), (2, .int x2), (3, .int x3), (4, .int x4)] _ _ _
      refine wp_iinc (v := x2 + 1) 2 [1, 2, 0, 3, 4] dX10_spillers_88 rfl (by decide) rfl rfl rfl ?_
      show WP _ _ _ _ _ _ _ 91 [(0, .ref 0), (1, .int (x1 ||| 0)), (2, .int (x2 + 1)), (3, .int x3), (4, .int x4)] _ _ _
      refine wp_goto 4 dX10_spillers_91 (by decide) ?_
      refine wp_lv [0, 1, 2] rfl ?_
      exact K
    · rw [if_neg h2] at K
      refine wp_iconst (v := 1) dX10_spillers_79 rfl (by decide) ?_
      refine wp_iload_n 2 dX10_spillers_80 rfl rfl rfl ?_
      refine wp_ishl dX10_spillers_81 rfl ?_
      refine wp_goto 86 dX10_spillers_82 (by decide) ?_
      refine wp_ior dX10_spillers_86 rfl ?_
      refine wp_istore_n [1, 0, 2, 3, 4] dX10_spillers_87 rfl rfl (by decide) rfl ?_
      show WP _ _ _ _ _ _ _ 88 [(0, .ref 0), (1, .int (x1 ||| (1 <<< (x2 &&& 31)))), (2, .int x2), (3, .int x3), (4, .int x4)] _ _ _
      refine wp_iinc (v := x2 + 1) 2 [1, 2, 0, 3, 4] dX10_spillers_88 rfl (by decide) rfl rfl rfl ?_
      show WP _ _ _ _ _ _ _ 91 [(0, .ref 0), (1, .int (x1 ||| (1 <<< (x2 &&& 31)))), (2, .int (x2 + 1)), (3, .int x3), (4, .int x4)] _ _ _
      refine wp_goto 4 dX10_spillers_91 (by decide) ?_
      refine wp_lv [0, 1, 2] rfl ?_
      exact K
  · rw [if_neg h1] at K
    refine wp_iload_n 3 dX10_spillers_26 rfl rfl rfl ?_
    refine wp_if_eq 66 dX10_spillers_27 (by decide) rfl (fun h3 => ?_) (fun h3 => ?_)
    · rw [if_pos h3] at K
      refine wp_iconst (v := 0) dX10_spillers_66 rfl (by decide) ?_
      refine wp_istore_n [1, 2, 3, 0, 4] dX10_spillers_67 rfl rfl (by decide) rfl ?_
      show WP _ _ _ _ _ _ _ 68 [(0, .ref 0), (1, .int x1), (2, .int x2), (3, .int 0), (4, .int x4)] _ _ _
      refine wp_iinc (v := x4 + 1) 4 [1, 2, 3, 4, 0] dX10_spillers_68 rfl (by decide) rfl rfl rfl ?_
      show WP _ _ _ _ _ _ _ 71 [(0, .ref 0), (1, .int x1), (2, .int x2), (3, .int 0), (4, .int (x4 + 1))] _ _ _
      refine wp_goto 17 dX10_spillers_71 (by decide) ?_
      exact K
    · rw [if_neg h3] at K
      refine wp_aload_n 0 dX10_spillers_30 rfl rfl rfl ?_
      refine wp_iload_n 2 dX10_spillers_31 rfl rfl rfl ?_
      refine wp_aload_n 0 dX10_spillers_32 rfl rfl rfl ?_
      refine wp_getR 10 41 kcX10 kfX10_78 rfl lM_0 (congrArg Prod.fst gM_0) rM_0_41 dX10_spillers_33 rfl ?_
      refine wp_iload 4 dX10_spillers_36 rfl rfl ?_
      obtain ⟨k4, K⟩ := K
      refine wn_iald lM_22 gM_22 k4 dX10_spillers_38 rfl ?_
      refine wn_callVi (As := [.int x2, .int (σ 22 (Int32.toNatClampNeg x4))]) (rest := []) 10 kmX10_305 (by decide) rfl rfl (Nat.le_of_ble_eq_true rfl) lM_0 (congrArg Prod.fst gM_0) dX10_spillers_39 rfl ?_
      refine Ci.mono K (fun v6 σ5 K => ?_)
      refine wp_aload_n 0 dX10_spillers_42 rfl rfl rfl ?_
      refine wp_getR 10 40 kcX10 kfX10_75 rfl lM_0 (congrArg Prod.fst gM_0) rM_0_40 dX10_spillers_43 rfl ?_
      refine wp_iload 4 dX10_spillers_46 rfl rfl ?_
      obtain ⟨k7, K⟩ := K
      refine wn_iald lM_21 gM_21 k7 dX10_spillers_48 rfl ?_
      refine wn_callSi (As := [.int v6, .int (σ5 21 (Int32.toNatClampNeg x4))]) (rest := []) kmX10_151 (by decide) rfl rfl (Nat.le_of_ble_eq_true rfl) dX10_spillers_49 rfl ?_
      refine Ci.mono K (fun v9 σ8 K => ?_)
      refine wp_aload_n 0 dX10_spillers_52 rfl rfl rfl ?_
      refine wp_getR 10 42 kcX10 kfX10_81 rfl lM_0 (congrArg Prod.fst gM_0) rM_0_42 dX10_spillers_53 rfl ?_
      refine wp_iload 4 dX10_spillers_56 rfl rfl ?_
      obtain ⟨k10, K⟩ := K
      refine wn_zald lM_23 gM_23 k10 dX10_spillers_58 rfl ?_
      refine wp_icmp_ne 66 dX10_spillers_59 (by decide) rfl (fun h11 => ?_) (fun h11 => ?_)
      · rw [if_neg h11] at K
        refine wp_iconst (v := 0) dX10_spillers_66 rfl (by decide) ?_
        refine wp_istore_n [1, 2, 3, 0, 4] dX10_spillers_67 rfl rfl (by decide) rfl ?_
        show WP _ _ _ _ _ _ _ 68 [(0, .ref 0), (1, .int x1), (2, .int x2), (3, .int 0), (4, .int x4)] _ _ _
        refine wp_iinc (v := x4 + 1) 4 [1, 2, 3, 4, 0] dX10_spillers_68 rfl (by decide) rfl rfl rfl ?_
        show WP _ _ _ _ _ _ _ 71 [(0, .ref 0), (1, .int x1), (2, .int x2), (3, .int 0), (4, .int (x4 + 1))] _ _ _
        refine wp_goto 17 dX10_spillers_71 (by decide) ?_
        exact K
      · rw [if_pos h11] at K
        refine wp_iconst (v := 1) dX10_spillers_62 rfl (by decide) ?_
        refine wp_goto 67 dX10_spillers_63 (by decide) ?_
        refine wp_istore_n [1, 2, 3, 0, 4] dX10_spillers_67 rfl rfl (by decide) rfl ?_
        show WP _ _ _ _ _ _ _ 68 [(0, .ref 0), (1, .int x1), (2, .int x2), (3, .int 1), (4, .int x4)] _ _ _
        refine wp_iinc (v := x4 + 1) 4 [1, 2, 3, 4, 0] dX10_spillers_68 rfl (by decide) rfl rfl rfl ?_
        show WP _ _ _ _ _ _ _ 71 [(0, .ref 0), (1, .int x1), (2, .int x2), (3, .int 1), (4, .int (x4 + 1))] _ _ _
        refine wp_goto 17 dX10_spillers_71 (by decide) ?_
        exact K
theorem bX10_comesTo_0 {E : tp_E} {d : Nat} {Q : Int32 → tp_M → Prop} {σ : tp_M}   (x1 : Int32) (x2 : Int32) (K : Wi E TM iX10_comesTo d Q 5 [(0, .ref 0), (1, .int x1), (2, .int x2), (3, .int 0), (4, .int 0)] [] σ) : Wi E TM iX10_comesTo d Q 0 [(0, .ref 0), (1, .int x1), (2, .int x2)] [] σ := by
  refine wp_iconst (v := 0) dX10_comesTo_0 rfl (by decide) ?_
  refine wp_istore_n [1, 2, 3, 0] dX10_comesTo_1 rfl rfl (by decide) rfl ?_
  show WP _ _ _ _ _ _ _ 2 [(0, .ref 0), (1, .int x1), (2, .int x2), (3, .int 0)] _ _ _
  refine wp_iconst (v := 0) dX10_comesTo_2 rfl (by decide) ?_
  refine wp_istore [1, 2, 3, 4, 0] dX10_comesTo_3 rfl (by decide) rfl ?_
  show WP _ _ _ _ _ _ _ 5 [(0, .ref 0), (1, .int x1), (2, .int x2), (3, .int 0), (4, .int 0)] _ _ _
  exact K
theorem eX10_comesTo {E : tp_E} {d : Nat} {Q : Int32 → tp_M → Prop} {σ : tp_M}   (x1 : Int32) (x2 : Int32) (K : Wi E TM iX10_comesTo d Q 5 [(0, .ref 0), (1, .int x1), (2, .int x2), (3, .int 0), (4, .int 0)] [] σ) : Ci E TM yX10_comesTo iX10_comesTo d [.ref 0, .int x1, .int x2] σ Q := Ci.of ⟨by decide +kernel, rfl, rfl⟩ (Nat.le_of_ble_eq_true rfl) (bX10_comesTo_0  x1 x2 K)
theorem bX10_comesTo_5 {E : tp_E} {d : Nat} {Q : Int32 → tp_M → Prop} {σ : tp_M}   (x1 : Int32) (x2 : Int32) (x3 : Int32) (x4 : Int32) (K : if x2 ≤ x4 then (Q x3 σ) else (vp_in (6 + x1) 1416 ∧ (if (σ 1 (Int32.toNatClampNeg (6 + x1))) ≤ x4 then (Q x3 σ) else (vp_in ((10 + (9 * x1)) + x4) 1416 ∧ (Wi E TM iX10_comesTo d Q 5 [(0, .ref 0), (1, .int x1), (2, .int x2), (3, .int (x3 ||| (1 <<< ((σ 1 (Int32.toNatClampNeg ((10 + (9 * x1)) + x4))) &&& 31)))), (4, .int (x4 + 1))] [] σ))))) : Wi E TM iX10_comesTo d Q 5 [(0, .ref 0), (1, .int x1), (2, .int x2), (3, .int x3), (4, .int x4)] [] σ := by
  refine wp_iload 4 dX10_comesTo_5 rfl rfl ?_
  refine wp_iload_n 2 dX10_comesTo_7 rfl rfl rfl ?_
  refine wp_icmp_ge 51 dX10_comesTo_8 (by decide) rfl (fun h1 => ?_) (fun h1 => ?_)
  · rw [if_pos h1] at K
    refine wp_iload_n 3 dX10_comesTo_51 rfl rfl rfl ?_
    exact wp_ret .int rfl rfl (Nat.le_refl 0) (Nat.le_refl 0) dX10_comesTo_52 ⟨rfl, _, rfl, K⟩
  · rw [if_neg h1] at K
    refine wp_iload 4 dX10_comesTo_11 rfl rfl ?_
    refine wp_aload_n 0 dX10_comesTo_13 rfl rfl rfl ?_
    refine wp_getR 10 0 kcX10 kfX10_7 rfl lM_0 (congrArg Prod.fst gM_0) rM_0_0 dX10_comesTo_14 rfl ?_
    refine wp_bipush (v := 6) dX10_comesTo_17 rfl (by decide) ?_
    refine wp_iload_n 1 dX10_comesTo_19 rfl rfl rfl ?_
    refine wp_iadd dX10_comesTo_20 rfl ?_
    obtain ⟨k2, K⟩ := K
    refine wn_iald lM_1 gM_1 k2 dX10_comesTo_21 rfl ?_
    refine wp_icmp_ge 51 dX10_comesTo_22 (by decide) rfl (fun h3 => ?_) (fun h3 => ?_)
    · rw [if_pos h3] at K
      refine wp_iload_n 3 dX10_comesTo_51 rfl rfl rfl ?_
      exact wp_ret .int rfl rfl (Nat.le_refl 0) (Nat.le_refl 0) dX10_comesTo_52 ⟨rfl, _, rfl, K⟩
    · rw [if_neg h3] at K
      refine wp_iload_n 3 dX10_comesTo_25 rfl rfl rfl ?_
      refine wp_iconst (v := 1) dX10_comesTo_26 rfl (by decide) ?_
      refine wp_aload_n 0 dX10_comesTo_27 rfl rfl rfl ?_
      refine wp_getR 10 0 kcX10 kfX10_7 rfl lM_0 (congrArg Prod.fst gM_0) rM_0_0 dX10_comesTo_28 rfl ?_
      refine wp_bipush (v := 10) dX10_comesTo_31 rfl (by decide) ?_
      refine wp_bipush (v := 9) dX10_comesTo_33 rfl (by decide) ?_
      refine wp_iload_n 1 dX10_comesTo_35 rfl rfl rfl ?_
      refine wp_imul dX10_comesTo_36 rfl ?_
      refine wp_iadd dX10_comesTo_37 rfl ?_
      refine wp_iload 4 dX10_comesTo_38 rfl rfl ?_
      refine wp_iadd dX10_comesTo_40 rfl ?_
      obtain ⟨k4, K⟩ := K
      refine wn_iald lM_1 gM_1 k4 dX10_comesTo_41 rfl ?_
      refine wp_ishl dX10_comesTo_42 rfl ?_
      refine wp_ior dX10_comesTo_43 rfl ?_
      refine wp_istore_n [1, 2, 3, 0, 4] dX10_comesTo_44 rfl rfl (by decide) rfl ?_
      show WP _ _ _ _ _ _ _ 45 [(0, .ref 0), (1, .int x1), (2, .int x2), (3, .int (x3 ||| (1 <<< ((σ 1 (Int32.toNatClampNeg ((10 + (9 * x1)) + x4))) &&& 31)))), (4, .int x4)] _ _ _
      refine wp_iinc (v := x4 + 1) 4 [1, 2, 3, 4, 0] dX10_comesTo_45 rfl (by decide) rfl rfl rfl ?_
      show WP _ _ _ _ _ _ _ 48 [(0, .ref 0), (1, .int x1), (2, .int x2), (3, .int (x3 ||| (1 <<< ((σ 1 (Int32.toNatClampNeg ((10 + (9 * x1)) + x4))) &&& 31)))), (4, .int (x4 + 1))] _ _ _
      refine wp_goto 5 dX10_comesTo_48 (by decide) ?_
      exact K
theorem bX10_look_0 {E : tp_E} {d : Nat} {Q : Int32 → tp_M → Prop} {σ : tp_M}    (K : Ci E TM yX10_spillers iX10_spillers d [.ref 0] σ (fun v2 σ1 => Ci E TM yX10_ones iX10_ones d [.int v2] σ1 (fun v4 σ3 => Wi E TM iX10_look (d + 1) Q 15 [(0, .ref 0), (1, .int v2), (2, .int (-1)), (3, .int v4), (4, .int 0)] [] σ3))) : Wi E TM iX10_look (d + 1) Q 0 [(0, .ref 0)] [] σ := by
  refine wp_aload_n 0 dX10_look_0 rfl rfl rfl ?_
  refine wn_callVi (As := []) (rest := []) 10 kmX10_308 (by decide) rfl rfl (Nat.le_of_ble_eq_true rfl) lM_0 (congrArg Prod.fst gM_0) dX10_look_1 rfl ?_
  refine Ci.mono K (fun v2 σ1 K => ?_)
  refine wp_istore_n [1, 0] dX10_look_4 rfl rfl (by decide) rfl ?_
  show WP _ _ _ _ _ _ _ 5 [(0, .ref 0), (1, .int v2)] _ _ _
  refine wp_iconst (v := (-1)) dX10_look_5 rfl (by decide) ?_
  refine wp_istore_n [1, 2, 0] dX10_look_6 rfl rfl (by decide) rfl ?_
  show WP _ _ _ _ _ _ _ 7 [(0, .ref 0), (1, .int v2), (2, .int (-1))] _ _ _
  refine wp_iload_n 1 dX10_look_7 rfl rfl rfl ?_
  refine wn_callSi (As := [.int v2]) (rest := []) kmX10_274 (by decide) rfl rfl (Nat.le_of_ble_eq_true rfl) dX10_look_8 rfl ?_
  refine Ci.mono K (fun v4 σ3 K => ?_)
  refine wp_istore_n [1, 2, 3, 0] dX10_look_11 rfl rfl (by decide) rfl ?_
  show WP _ _ _ _ _ _ _ 12 [(0, .ref 0), (1, .int v2), (2, .int (-1)), (3, .int v4)] _ _ _
  refine wp_iconst (v := 0) dX10_look_12 rfl (by decide) ?_
  refine wp_istore [1, 2, 3, 4, 0] dX10_look_13 rfl (by decide) rfl ?_
  show WP _ _ _ _ _ _ _ 15 [(0, .ref 0), (1, .int v2), (2, .int (-1)), (3, .int v4), (4, .int 0)] _ _ _
  exact K
theorem eX10_look {E : tp_E} {d : Nat} {Q : Int32 → tp_M → Prop} {σ : tp_M}    (K : Ci E TM yX10_spillers iX10_spillers d [.ref 0] σ (fun v2 σ1 => Ci E TM yX10_ones iX10_ones d [.int v2] σ1 (fun v4 σ3 => Wi E TM iX10_look (d + 1) Q 15 [(0, .ref 0), (1, .int v2), (2, .int (-1)), (3, .int v4), (4, .int 0)] [] σ3))) : Ci E TM yX10_look iX10_look (d + 1) [.ref 0] σ Q := Ci.of ⟨by decide +kernel, rfl, rfl⟩ (Nat.le_of_ble_eq_true rfl) (bX10_look_0   K)
theorem bX10_look_15 {E : tp_E} {d : Nat} {Q : Int32 → tp_M → Prop} {σ : tp_M}   (x1 : Int32) (x2 : Int32) (x3 : Int32) (x4 : Int32) (K : if (σ 0 3) ≤ x4 then (Q x2 σ) else (Wi E TM iX10_look (d + 1) Q 30 [(0, .ref 0), (1, .int x1), (2, .int x2), (3, .int x3), (4, .int x4), (5, .int 0), (6, .int 0)] [] σ)) : Wi E TM iX10_look (d + 1) Q 15 [(0, .ref 0), (1, .int x1), (2, .int x2), (3, .int x3), (4, .int x4)] [] σ := by
  refine wp_iload 4 dX10_look_15 rfl rfl ?_
  refine wp_aload_n 0 dX10_look_17 rfl rfl rfl ?_
  refine wp_getI 10 3 kcX10 kfX10_90 rfl lM_0 (congrArg Prod.fst gM_0) dX10_look_18 rfl ?_
  refine wp_icmp_ge 138 dX10_look_21 (by decide) rfl (fun h1 => ?_) (fun h1 => ?_)
  · rw [if_pos h1] at K
    refine wp_iload_n 2 dX10_look_138 rfl rfl rfl ?_
    exact wp_ret .int rfl rfl (Nat.le_refl 0) (Nat.le_refl 0) dX10_look_139 ⟨rfl, _, rfl, K⟩
  · rw [if_neg h1] at K
    refine wp_iconst (v := 0) dX10_look_24 rfl (by decide) ?_
    refine wp_istore [1, 2, 3, 4, 5, 0] dX10_look_25 rfl (by decide) rfl ?_
    show WP _ _ _ _ _ _ _ 27 [(0, .ref 0), (1, .int x1), (2, .int x2), (3, .int x3), (4, .int x4), (5, .int 0)] _ _ _
    refine wp_iconst (v := 0) dX10_look_27 rfl (by decide) ?_
    refine wp_istore [1, 2, 3, 4, 5, 6, 0] dX10_look_28 rfl (by decide) rfl ?_
    show WP _ _ _ _ _ _ _ 30 [(0, .ref 0), (1, .int x1), (2, .int x2), (3, .int x3), (4, .int x4), (5, .int 0), (6, .int 0)] _ _ _
    exact K
theorem bX10_look_30 {E : tp_E} {d : Nat} {Q : Int32 → tp_M → Prop} {σ : tp_M}   (x1 : Int32) (x2 : Int32) (x3 : Int32) (x4 : Int32) (x5 : Int32) (x6 : Int32) (K : if (σ 0 7) ≤ x6 then (Ci E TM yX10_ones iX10_ones d [.int x1] σ (fun v3 σ2 => if x5 ≤ (v3 - x5) then (Ci E TM yX10_ones iX10_ones d [.int x1] σ2 (fun v6 σ5 => if x3 ≤ (v6 - x5) then (Wi E TM iX10_look (d + 1) Q 118 [(0, .ref 0), (1, .int x1), (3, .int x3), (4, .int x4), (6, .int (v6 - x5))] [.int x2] σ5) else (Wi E TM iX10_look (d + 1) Q 118 [(0, .ref 0), (1, .int x1), (3, .int x3), (4, .int x4), (6, .int (v6 - x5))] [.int x4] σ5))) else (if x3 ≤ x5 then (Wi E TM iX10_look (d + 1) Q 118 [(0, .ref 0), (1, .int x1), (3, .int x3), (4, .int x4), (6, .int x5)] [.int x2] σ2) else (Wi E TM iX10_look (d + 1) Q 118 [(0, .ref 0), (1, .int x1), (3, .int x3), (4, .int x4), (6, .int x5)] [.int x4] σ2)))) else (Ci E TM yX10_has iX10_has d [.int x1, .int x6] σ (fun v10 σ9 => if v10 = 0 then (Wi E TM iX10_look (d + 1) Q 30 [(0, .ref 0), (1, .int x1), (2, .int x2), (3, .int x3), (4, .int x4), (5, .int (x5 + 0)), (6, .int (x6 + 1))] [] σ9) else (Ci E TM yX10_comesTo iX10_comesTo d [.ref 0, .int x6, .int 20] σ9 (fun v13 σ12 => Ci E TM yX10_has iX10_has d [.int v13, .int x4] σ12 (fun v15 σ14 => if v15 = 0 then (Wi E TM iX10_look (d + 1) Q 30 [(0, .ref 0), (1, .int x1), (2, .int x2), (3, .int x3), (4, .int x4), (5, .int (x5 + 0)), (6, .int (x6 + 1))] [] σ14) else (Wi E TM iX10_look (d + 1) Q 30 [(0, .ref 0), (1, .int x1), (2, .int x2), (3, .int x3), (4, .int x4), (5, .int (x5 + 1)), (6, .int (x6 + 1))] [] σ14))))))) : Wi E TM iX10_look (d + 1) Q 30 [(0, .ref 0), (1, .int x1), (2, .int x2), (3, .int x3), (4, .int x4), (5, .int x5), (6, .int x6)] [] σ := by
  refine wp_iload 6 dX10_look_30 rfl rfl ?_
  refine wp_aload_n 0 dX10_look_32 rfl rfl rfl ?_
  refine wp_getI 10 7 kcX10 kfX10_97 rfl lM_0 (congrArg Prod.fst gM_0) dX10_look_33 rfl ?_
  refine wp_icmp_ge 80 dX10_look_36 (by decide) rfl (fun h1 => ?_) (fun h1 => ?_)
  · rw [if_pos h1] at K
    refine wp_iload 5 dX10_look_80 rfl rfl ?_
    refine wp_iload_n 1 dX10_look_82 rfl rfl rfl ?_
    refine wn_callSi (As := [.int x1]) (rest := [.int x5]) kmX10_274 (by decide) rfl rfl (Nat.le_of_ble_eq_true rfl) dX10_look_83 rfl ?_
    refine Ci.mono K (fun v3 σ2 K => ?_)
    refine wp_iload 5 dX10_look_86 rfl rfl ?_
    refine wp_isub dX10_look_88 rfl ?_
    refine wp_icmp_le 97 dX10_look_89 (by decide) rfl (fun h4 => ?_) (fun h4 => ?_)
    · rw [if_pos h4] at K
      refine wp_iload_n 1 dX10_look_97 rfl rfl rfl ?_
      refine wn_callSi (As := [.int x1]) (rest := []) kmX10_274 (by decide) rfl rfl (Nat.le_of_ble_eq_true rfl) dX10_look_98 rfl ?_
      refine Ci.mono K (fun v6 σ5 K => ?_)
      refine wp_iload 5 dX10_look_101 rfl rfl ?_
      refine wp_isub dX10_look_103 rfl ?_
      refine wp_istore [1, 2, 3, 4, 5, 6, 0] dX10_look_104 rfl (by decide) rfl ?_
      show WP _ _ _ _ _ _ _ 106 [(0, .ref 0), (1, .int x1), (2, .int x2), (3, .int x3), (4, .int x4), (5, .int x5), (6, .int (v6 - x5))] _ _ _
      refine wp_iload 6 dX10_look_106 rfl rfl ?_
      refine wp_iload_n 3 dX10_look_108 rfl rfl rfl ?_
      refine wp_icmp_ge 117 dX10_look_109 (by decide) rfl (fun h7 => ?_) (fun h7 => ?_)
      · rw [if_pos h7] at K
        refine wp_iload_n 2 dX10_look_117 rfl rfl rfl ?_
        refine wp_lv [0, 1, 3, 4, 6] rfl ?_
        exact K
      · rw [if_neg h7] at K
        refine wp_iload 4 dX10_look_112 rfl rfl ?_
        refine wp_goto 118 dX10_look_114 (by decide) ?_
        refine wp_lv [0, 1, 3, 4, 6] rfl ?_
        exact K
    · rw [if_neg h4] at K
      refine wp_iload 5 dX10_look_92 rfl rfl ?_
      refine wp_goto 104 dX10_look_94 (by decide) ?_
      refine wp_istore [1, 2, 3, 4, 5, 6, 0] dX10_look_104 rfl (by decide) rfl ?_
      show WP _ _ _ _ _ _ _ 106 [(0, .ref 0), (1, .int x1), (2, .int x2), (3, .int x3), (4, .int x4), (5, .int x5), (6, .int x5)] _ _ _
      refine wp_iload 6 dX10_look_106 rfl rfl ?_
      refine wp_iload_n 3 dX10_look_108 rfl rfl rfl ?_
      refine wp_icmp_ge 117 dX10_look_109 (by decide) rfl (fun h8 => ?_) (fun h8 => ?_)
      · rw [if_pos h8] at K
        refine wp_iload_n 2 dX10_look_117 rfl rfl rfl ?_
        refine wp_lv [0, 1, 3, 4, 6] rfl ?_
        exact K
      · rw [if_neg h8] at K
        refine wp_iload 4 dX10_look_112 rfl rfl ?_
        refine wp_goto 118 dX10_look_114 (by decide) ?_
        refine wp_lv [0, 1, 3, 4, 6] rfl ?_
        exact K
  · rw [if_neg h1] at K
    refine wp_iload 5 dX10_look_39 rfl rfl ?_
    refine wp_iload_n 1 dX10_look_41 rfl rfl rfl ?_
    refine wp_iload 6 dX10_look_42 rfl rfl ?_
    refine wn_callSi (As := [.int x1, .int x6]) (rest := [.int x5]) kmX10_151 (by decide) rfl rfl (Nat.le_of_ble_eq_true rfl) dX10_look_44 rfl ?_
    refine Ci.mono K (fun v10 σ9 K => ?_)
    refine wp_if_eq 70 dX10_look_47 (by decide) rfl (fun h11 => ?_) (fun h11 => ?_)
    · rw [if_pos h11] at K
      refine wp_iconst (v := 0) dX10_look_70 rfl (by decide) ?_
      refine wp_iadd dX10_look_71 rfl ?_
      refine wp_istore [1, 2, 3, 4, 5, 0, 6] dX10_look_72 rfl (by decide) rfl ?_
      show WP _ _ _ _ _ _ _ 74 [(0, .ref 0), (1, .int x1), (2, .int x2), (3, .int x3), (4, .int x4), (5, .int (x5 + 0)), (6, .int x6)] _ _ _
      refine wp_iinc (v := x6 + 1) 6 [1, 2, 3, 4, 5, 6, 0] dX10_look_74 rfl (by decide) rfl rfl rfl ?_
      show WP _ _ _ _ _ _ _ 77 [(0, .ref 0), (1, .int x1), (2, .int x2), (3, .int x3), (4, .int x4), (5, .int (x5 + 0)), (6, .int (x6 + 1))] _ _ _
      refine wp_goto 30 dX10_look_77 (by decide) ?_
      exact K
    · rw [if_neg h11] at K
      refine wp_aload_n 0 dX10_look_50 rfl rfl rfl ?_
      refine wp_iload 6 dX10_look_51 rfl rfl ?_
      refine wp_bipush (v := 20) dX10_look_53 rfl (by decide) ?_
      refine wn_callVi (As := [.int x6, .int 20]) (rest := [.int x5]) 10 kmX10_305 (by decide) rfl rfl (Nat.le_of_ble_eq_true rfl) lM_0 (congrArg Prod.fst gM_0) dX10_look_55 rfl ?_
      refine Ci.mono K (fun v13 σ12 K => ?_)
      refine wp_iload 4 dX10_look_58 rfl rfl ?_
      refine wn_callSi (As := [.int v13, .int x4]) (rest := [.int x5]) kmX10_151 (by decide) rfl rfl (Nat.le_of_ble_eq_true rfl) dX10_look_60 rfl ?_
      refine Ci.mono K (fun v15 σ14 K => ?_)
      refine wp_if_eq 70 dX10_look_63 (by decide) rfl (fun h16 => ?_) (fun h16 => ?_)
      · rw [if_pos h16] at K
        refine wp_iconst (v := 0) dX10_look_70 rfl (by decide) ?_
        refine wp_iadd dX10_look_71 rfl ?_
        refine wp_istore [1, 2, 3, 4, 5, 0, 6] dX10_look_72 rfl (by decide) rfl ?_
        show WP _ _ _ _ _ _ _ 74 [(0, .ref 0), (1, .int x1), (2, .int x2), (3, .int x3), (4, .int x4), (5, .int (x5 + 0)), (6, .int x6)] _ _ _
        refine wp_iinc (v := x6 + 1) 6 [1, 2, 3, 4, 5, 6, 0] dX10_look_74 rfl (by decide) rfl rfl rfl ?_
        show WP _ _ _ _ _ _ _ 77 [(0, .ref 0), (1, .int x1), (2, .int x2), (3, .int x3), (4, .int x4), (5, .int (x5 + 0)), (6, .int (x6 + 1))] _ _ _
        refine wp_goto 30 dX10_look_77 (by decide) ?_
        exact K
      · rw [if_neg h16] at K
        refine wp_iconst (v := 1) dX10_look_66 rfl (by decide) ?_
        refine wp_goto 71 dX10_look_67 (by decide) ?_
        refine wp_iadd dX10_look_71 rfl ?_
        refine wp_istore [1, 2, 3, 4, 5, 0, 6] dX10_look_72 rfl (by decide) rfl ?_
        show WP _ _ _ _ _ _ _ 74 [(0, .ref 0), (1, .int x1), (2, .int x2), (3, .int x3), (4, .int x4), (5, .int (x5 + 1)), (6, .int x6)] _ _ _
        refine wp_iinc (v := x6 + 1) 6 [1, 2, 3, 4, 5, 6, 0] dX10_look_74 rfl (by decide) rfl rfl rfl ?_
        show WP _ _ _ _ _ _ _ 77 [(0, .ref 0), (1, .int x1), (2, .int x2), (3, .int x3), (4, .int x4), (5, .int (x5 + 1)), (6, .int (x6 + 1))] _ _ _
        refine wp_goto 30 dX10_look_77 (by decide) ?_
        exact K
theorem bX10_look_118 {E : tp_E} {d : Nat} {Q : Int32 → tp_M → Prop} {σ : tp_M}   (x1 : Int32) (x3 : Int32) (x4 : Int32) (x6 : Int32) (s0 : Int32) (K : if x3 ≤ x6 then (Wi E TM iX10_look (d + 1) Q 15 [(0, .ref 0), (1, .int x1), (2, .int s0), (3, .int x3), (4, .int (x4 + 1))] [] σ) else (Wi E TM iX10_look (d + 1) Q 15 [(0, .ref 0), (1, .int x1), (2, .int s0), (3, .int x6), (4, .int (x4 + 1))] [] σ)) : Wi E TM iX10_look (d + 1) Q 118 [(0, .ref 0), (1, .int x1), (3, .int x3), (4, .int x4), (6, .int x6)] [.int s0] σ := by
  refine wp_istore_n [1, 2, 0, 3, 4, 5] dX10_look_118 rfl rfl (by decide) rfl ?_
  show WP _ _ _ _ _ _ _ 119 [(0, .ref 0), (1, .int x1), (2, .int s0), (3, .int x3), (4, .int x4), (6, .int x6)] _ _ _
  refine wp_iload 5 dX10_look_119 rfl rfl ?_
  refine wp_iload_n 3 dX10_look_121 rfl rfl rfl ?_
  refine wp_icmp_ge 130 dX10_look_122 (by decide) rfl (fun h1 => ?_) (fun h1 => ?_)
  · rw [if_pos h1] at K
    refine wp_iload_n 3 dX10_look_130 rfl rfl rfl ?_
    refine wp_istore_n [1, 2, 3, 0, 4, 5] dX10_look_131 rfl rfl (by decide) rfl ?_
    show WP _ _ _ _ _ _ _ 132 [(0, .ref 0), (1, .int x1), (2, .int s0), (3, .int x3), (4, .int x4), (6, .int x6)] _ _ _
    refine wp_iinc (v := x4 + 1) 4 [1, 2, 3, 4, 0, 5] dX10_look_132 rfl (by decide) rfl rfl rfl ?_
    show WP _ _ _ _ _ _ _ 135 [(0, .ref 0), (1, .int x1), (2, .int s0), (3, .int x3), (4, .int (x4 + 1)), (6, .int x6)] _ _ _
    refine wp_goto 15 dX10_look_135 (by decide) ?_
    refine wp_lv [0, 1, 2, 3, 4] rfl ?_
    exact K
  · rw [if_neg h1] at K
    refine wp_iload 5 dX10_look_125 rfl rfl ?_
    refine wp_goto 131 dX10_look_127 (by decide) ?_
    refine wp_istore_n [1, 2, 3, 0, 4, 5] dX10_look_131 rfl rfl (by decide) rfl ?_
    show WP _ _ _ _ _ _ _ 132 [(0, .ref 0), (1, .int x1), (2, .int s0), (3, .int x6), (4, .int x4), (6, .int x6)] _ _ _
    refine wp_iinc (v := x4 + 1) 4 [1, 2, 3, 4, 0, 5] dX10_look_132 rfl (by decide) rfl rfl rfl ?_
    show WP _ _ _ _ _ _ _ 135 [(0, .ref 0), (1, .int x1), (2, .int s0), (3, .int x6), (4, .int (x4 + 1)), (6, .int x6)] _ _ _
    refine wp_goto 15 dX10_look_135 (by decide) ?_
    refine wp_lv [0, 1, 2, 3, 4] rfl ?_
    exact K
theorem bX10_write_0 {E : tp_E} {d : Nat} {Q : Int32 → tp_M → Prop} {σ : tp_M}   (x1 : Int32) (x2 : Int32) (K : Ci E TM yX10_isWaiter iX10_isWaiter d [.ref 0, .int x1] σ (fun v2 σ1 => if v2 = 0 then (Q (-1000000001) σ1) else (Ci E TM yX10_isRoom iX10_isRoom d [.ref 0, .int x2] σ1 (fun v5 σ4 => if v5 = 0 then (Q (-1000000001) σ4) else (if (σ4 0 43) = 15 then (Q (-1000000004) σ4) else (vp_in (σ4 0 43) 15 ∧ (vp_in ((tp_u σ4 24 (Int32.toNatClampNeg (σ4 0 43)) x1) 0 43) 15 ∧ (Q ((tp_u (tp_u (tp_u σ4 24 (Int32.toNatClampNeg (σ4 0 43)) x1) 25 (Int32.toNatClampNeg ((tp_u σ4 24 (Int32.toNatClampNeg (σ4 0 43)) x1) 0 43)) x2) 0 43 (((tp_u (tp_u σ4 24 (Int32.toNatClampNeg (σ4 0 43)) x1) 25 (Int32.toNatClampNeg ((tp_u σ4 24 (Int32.toNatClampNeg (σ4 0 43)) x1) 0 43)) x2) 0 43) + 1)) 0 43) (tp_u (tp_u (tp_u σ4 24 (Int32.toNatClampNeg (σ4 0 43)) x1) 25 (Int32.toNatClampNeg ((tp_u σ4 24 (Int32.toNatClampNeg (σ4 0 43)) x1) 0 43)) x2) 0 43 (((tp_u (tp_u σ4 24 (Int32.toNatClampNeg (σ4 0 43)) x1) 25 (Int32.toNatClampNeg ((tp_u σ4 24 (Int32.toNatClampNeg (σ4 0 43)) x1) 0 43)) x2) 0 43) + 1)))))))))) : Wi E TM iX10_write (d + 1) Q 0 [(0, .ref 0), (1, .int x1), (2, .int x2)] [] σ := by
  refine wp_aload_n 0 dX10_write_0 rfl rfl rfl ?_
  refine wp_iload_n 1 dX10_write_1 rfl rfl rfl ?_
  refine wn_callVi (As := [.int x1]) (rest := []) 10 kmX10_100 (by decide) rfl rfl (Nat.le_of_ble_eq_true rfl) lM_0 (congrArg Prod.fst gM_0) dX10_write_2 rfl ?_
  refine Ci.mono K (fun v2 σ1 K => ?_)
  refine wp_if_eq 16 dX10_write_5 (by decide) rfl (fun h3 => ?_) (fun h3 => ?_)
  · rw [if_pos h3] at K
    refine wp_ldc dX10_write_16 rfl tw_1191 ?_
    exact wp_ret .int rfl rfl (Nat.le_refl 0) (Nat.le_refl 0) dX10_write_18 ⟨rfl, _, rfl, K⟩
  · rw [if_neg h3] at K
    refine wp_aload_n 0 dX10_write_8 rfl rfl rfl ?_
    refine wp_iload_n 2 dX10_write_9 rfl rfl rfl ?_
    refine wn_callVi (As := [.int x2]) (rest := []) 10 kmX10_216 (by decide) rfl rfl (Nat.le_of_ble_eq_true rfl) lM_0 (congrArg Prod.fst gM_0) dX10_write_10 rfl ?_
    refine Ci.mono K (fun v5 σ4 K => ?_)
    refine wp_if_ne 19 dX10_write_13 (by decide) rfl (fun h6 => ?_) (fun h6 => ?_)
    · rw [if_neg h6] at K
      refine wp_aload_n 0 dX10_write_19 rfl rfl rfl ?_
      refine wp_getI 10 43 kcX10 kfX10_203 rfl lM_0 (congrArg Prod.fst gM_0) dX10_write_20 rfl ?_
      refine wp_bipush (v := 15) dX10_write_23 rfl (by decide) ?_
      refine wp_icmp_ne 31 dX10_write_25 (by decide) rfl (fun h7 => ?_) (fun h7 => ?_)
      · rw [if_neg h7] at K
        refine wp_aload_n 0 dX10_write_31 rfl rfl rfl ?_
        refine wp_getR 10 44 kcX10 kfX10_84 rfl lM_0 (congrArg Prod.fst gM_0) rM_0_44 dX10_write_32 rfl ?_
        refine wp_aload_n 0 dX10_write_35 rfl rfl rfl ?_
        refine wp_getI 10 43 kcX10 kfX10_203 rfl lM_0 (congrArg Prod.fst gM_0) dX10_write_36 rfl ?_
        refine wp_iload_n 1 dX10_write_39 rfl rfl rfl ?_
        obtain ⟨k8, K⟩ := K
        refine wn_iast lM_24 gM_24 k8 dX10_write_40 rfl ?_
        refine wp_aload_n 0 dX10_write_41 rfl rfl rfl ?_
        refine wp_getR 10 45 kcX10 kfX10_87 rfl lM_0 (congrArg Prod.fst gM_0) rM_0_45 dX10_write_42 rfl ?_
        refine wp_aload_n 0 dX10_write_45 rfl rfl rfl ?_
        refine wp_getI 10 43 kcX10 kfX10_203 rfl lM_0 (congrArg Prod.fst gM_0) dX10_write_46 rfl ?_
        refine wp_iload_n 2 dX10_write_49 rfl rfl rfl ?_
        obtain ⟨k9, K⟩ := K
        refine wn_iast lM_25 gM_25 k9 dX10_write_50 rfl ?_
        refine wp_aload_n 0 dX10_write_51 rfl rfl rfl ?_
        refine wp_dup dX10_write_52 rfl rfl ?_
        refine wp_getI 10 43 kcX10 kfX10_203 rfl lM_0 (congrArg Prod.fst gM_0) dX10_write_53 rfl ?_
        refine wp_iconst (v := 1) dX10_write_56 rfl (by decide) ?_
        refine wp_iadd dX10_write_57 rfl ?_
        refine wp_putI 10 43 kcX10 kfX10_203 rfl rfl rfl rfl lM_0 (congrArg Prod.fst gM_0) dX10_write_58 rfl ?_
        refine wp_aload_n 0 dX10_write_61 rfl rfl rfl ?_
        refine wp_getI 10 43 kcX10 kfX10_203 rfl lM_0 (congrArg Prod.fst gM_0) dX10_write_62 rfl ?_
        exact wp_ret .int rfl rfl (Nat.le_refl 0) (Nat.le_refl 0) dX10_write_65 ⟨rfl, _, rfl, K⟩
      · rw [if_pos h7] at K
        refine wp_ldc dX10_write_28 rfl tw_1109 ?_
        exact wp_ret .int rfl rfl (Nat.le_refl 0) (Nat.le_refl 0) dX10_write_30 ⟨rfl, _, rfl, K⟩
    · rw [if_pos h6] at K
      refine wp_ldc dX10_write_16 rfl tw_1191 ?_
      exact wp_ret .int rfl rfl (Nat.le_refl 0) (Nat.le_refl 0) dX10_write_18 ⟨rfl, _, rfl, K⟩
theorem eX10_write {E : tp_E} {d : Nat} {Q : Int32 → tp_M → Prop} {σ : tp_M}   (x1 : Int32) (x2 : Int32) (K : Ci E TM yX10_isWaiter iX10_isWaiter d [.ref 0, .int x1] σ (fun v2 σ1 => if v2 = 0 then (Q (-1000000001) σ1) else (Ci E TM yX10_isRoom iX10_isRoom d [.ref 0, .int x2] σ1 (fun v5 σ4 => if v5 = 0 then (Q (-1000000001) σ4) else (if (σ4 0 43) = 15 then (Q (-1000000004) σ4) else (vp_in (σ4 0 43) 15 ∧ (vp_in ((tp_u σ4 24 (Int32.toNatClampNeg (σ4 0 43)) x1) 0 43) 15 ∧ (Q ((tp_u (tp_u (tp_u σ4 24 (Int32.toNatClampNeg (σ4 0 43)) x1) 25 (Int32.toNatClampNeg ((tp_u σ4 24 (Int32.toNatClampNeg (σ4 0 43)) x1) 0 43)) x2) 0 43 (((tp_u (tp_u σ4 24 (Int32.toNatClampNeg (σ4 0 43)) x1) 25 (Int32.toNatClampNeg ((tp_u σ4 24 (Int32.toNatClampNeg (σ4 0 43)) x1) 0 43)) x2) 0 43) + 1)) 0 43) (tp_u (tp_u (tp_u σ4 24 (Int32.toNatClampNeg (σ4 0 43)) x1) 25 (Int32.toNatClampNeg ((tp_u σ4 24 (Int32.toNatClampNeg (σ4 0 43)) x1) 0 43)) x2) 0 43 (((tp_u (tp_u σ4 24 (Int32.toNatClampNeg (σ4 0 43)) x1) 25 (Int32.toNatClampNeg ((tp_u σ4 24 (Int32.toNatClampNeg (σ4 0 43)) x1) 0 43)) x2) 0 43) + 1)))))))))) : Ci E TM yX10_write iX10_write (d + 1) [.ref 0, .int x1, .int x2] σ Q := Ci.of ⟨by decide +kernel, rfl, rfl⟩ (Nat.le_of_ble_eq_true rfl) (bX10_write_0  x1 x2 K)
theorem bX10_tear_0 {E : tp_E} {d : Nat} {Q : Int32 → tp_M → Prop} {σ : tp_M}    (K : Q ((σ 0 39) + (σ 0 43)) (tp_u (tp_u σ 0 39 0) 0 43 0)) : Wi E TM iX10_tear d Q 0 [(0, .ref 0)] [] σ := by
  refine wp_aload_n 0 dX10_tear_0 rfl rfl rfl ?_
  refine wp_getI 10 39 kcX10 kfX10_200 rfl lM_0 (congrArg Prod.fst gM_0) dX10_tear_1 rfl ?_
  refine wp_aload_n 0 dX10_tear_4 rfl rfl rfl ?_
  refine wp_getI 10 43 kcX10 kfX10_203 rfl lM_0 (congrArg Prod.fst gM_0) dX10_tear_5 rfl ?_
  refine wp_iadd dX10_tear_8 rfl ?_
  refine wp_istore_n [1, 0] dX10_tear_9 rfl rfl (by decide) rfl ?_
  show WP _ _ _ _ _ _ _ 10 [(0, .ref 0), (1, .int ((σ 0 39) + (σ 0 43)))] _ _ _
  refine wp_aload_n 0 dX10_tear_10 rfl rfl rfl ?_
  refine wp_iconst (v := 0) dX10_tear_11 rfl (by decide) ?_
  refine wp_putI 10 39 kcX10 kfX10_200 rfl rfl rfl rfl lM_0 (congrArg Prod.fst gM_0) dX10_tear_12 rfl ?_
  refine wp_aload_n 0 dX10_tear_15 rfl rfl rfl ?_
  refine wp_iconst (v := 0) dX10_tear_16 rfl (by decide) ?_
  refine wp_putI 10 43 kcX10 kfX10_203 rfl rfl rfl rfl lM_0 (congrArg Prod.fst gM_0) dX10_tear_17 rfl ?_
  refine wp_iload_n 1 dX10_tear_20 rfl rfl rfl ?_
  exact wp_ret .int rfl rfl (Nat.le_refl 0) (Nat.le_refl 0) dX10_tear_21 ⟨rfl, _, rfl, K⟩
theorem eX10_tear {E : tp_E} {d : Nat} {Q : Int32 → tp_M → Prop} {σ : tp_M}    (K : Q ((σ 0 39) + (σ 0 43)) (tp_u (tp_u σ 0 39 0) 0 43 0)) : Ci E TM yX10_tear iX10_tear d [.ref 0] σ Q := Ci.of ⟨by decide +kernel, rfl, rfl⟩ (Nat.le_of_ble_eq_true rfl) (bX10_tear_0   K)
theorem bX10_judge_0 {E : tp_E} {d : Nat} {Q : Int32 → tp_M → Prop} {σ : tp_M}    (K : Wi E TM iX10_judge d Q 2 [(0, .ref 0), (1, .int 0)] [] σ) : Wi E TM iX10_judge d Q 0 [(0, .ref 0)] [] σ := by
  refine wp_iconst (v := 0) dX10_judge_0 rfl (by decide) ?_
  refine wp_istore_n [1, 0] dX10_judge_1 rfl rfl (by decide) rfl ?_
  show WP _ _ _ _ _ _ _ 2 [(0, .ref 0), (1, .int 0)] _ _ _
  exact K
theorem eX10_judge {E : tp_E} {d : Nat} {Q : Int32 → tp_M → Prop} {σ : tp_M}    (K : Wi E TM iX10_judge d Q 2 [(0, .ref 0), (1, .int 0)] [] σ) : Ci E TM yX10_judge iX10_judge d [.ref 0] σ Q := Ci.of ⟨by decide +kernel, rfl, rfl⟩ (Nat.le_of_ble_eq_true rfl) (bX10_judge_0   K)
theorem bX10_judge_2 {E : tp_E} {d : Nat} {Q : Int32 → tp_M → Prop} {σ : tp_M}   (x1 : Int32) (K : if (σ 0 43) ≤ x1 then (Q (-1) σ) else (vp_in x1 15 ∧ (vp_in (2 + (σ 24 (Int32.toNatClampNeg x1))) 1416 ∧ (vp_in x1 15 ∧ (if (σ 1 (Int32.toNatClampNeg (2 + (σ 24 (Int32.toNatClampNeg x1))))) = (σ 25 (Int32.toNatClampNeg x1)) then (Wi E TM iX10_judge d Q 2 [(0, .ref 0), (1, .int (x1 + 1))] [] σ) else (Q x1 σ)))))) : Wi E TM iX10_judge d Q 2 [(0, .ref 0), (1, .int x1)] [] σ := by
  refine wp_iload_n 1 dX10_judge_2 rfl rfl rfl ?_
  refine wp_aload_n 0 dX10_judge_3 rfl rfl rfl ?_
  refine wp_getI 10 43 kcX10 kfX10_203 rfl lM_0 (congrArg Prod.fst gM_0) dX10_judge_4 rfl ?_
  refine wp_icmp_ge 40 dX10_judge_7 (by decide) rfl (fun h1 => ?_) (fun h1 => ?_)
  · rw [if_pos h1] at K
    refine wp_iconst (v := (-1)) dX10_judge_40 rfl (by decide) ?_
    exact wp_ret .int rfl rfl (Nat.le_refl 0) (Nat.le_refl 0) dX10_judge_41 ⟨rfl, _, rfl, K⟩
  · rw [if_neg h1] at K
    refine wp_aload_n 0 dX10_judge_10 rfl rfl rfl ?_
    refine wp_getR 10 0 kcX10 kfX10_7 rfl lM_0 (congrArg Prod.fst gM_0) rM_0_0 dX10_judge_11 rfl ?_
    refine wp_iconst (v := 2) dX10_judge_14 rfl (by decide) ?_
    refine wp_aload_n 0 dX10_judge_15 rfl rfl rfl ?_
    refine wp_getR 10 44 kcX10 kfX10_84 rfl lM_0 (congrArg Prod.fst gM_0) rM_0_44 dX10_judge_16 rfl ?_
    refine wp_iload_n 1 dX10_judge_19 rfl rfl rfl ?_
    obtain ⟨k2, K⟩ := K
    refine wn_iald lM_24 gM_24 k2 dX10_judge_20 rfl ?_
    refine wp_iadd dX10_judge_21 rfl ?_
    obtain ⟨k3, K⟩ := K
    refine wn_iald lM_1 gM_1 k3 dX10_judge_22 rfl ?_
    refine wp_aload_n 0 dX10_judge_23 rfl rfl rfl ?_
    refine wp_getR 10 45 kcX10 kfX10_87 rfl lM_0 (congrArg Prod.fst gM_0) rM_0_45 dX10_judge_24 rfl ?_
    refine wp_iload_n 1 dX10_judge_27 rfl rfl rfl ?_
    obtain ⟨k4, K⟩ := K
    refine wn_iald lM_25 gM_25 k4 dX10_judge_28 rfl ?_
    refine wp_icmp_eq 34 dX10_judge_29 (by decide) rfl (fun h5 => ?_) (fun h5 => ?_)
    · rw [if_pos h5] at K
      refine wp_iinc (v := x1 + 1) 1 [1, 0] dX10_judge_34 rfl (by decide) rfl rfl rfl ?_
      show WP _ _ _ _ _ _ _ 37 [(0, .ref 0), (1, .int (x1 + 1))] _ _ _
      refine wp_goto 2 dX10_judge_37 (by decide) ?_
      exact K
    · rw [if_neg h5] at K
      refine wp_iload_n 1 dX10_judge_32 rfl rfl rfl ?_
      exact wp_ret .int rfl rfl (Nat.le_refl 0) (Nat.le_refl 0) dX10_judge_33 ⟨rfl, _, rfl, K⟩
theorem bX10_seed_0 {E : tp_E} {d : Nat} {Q : Int32 → tp_M → Prop} {σ : tp_M}   (x1 : Int32) (K : if 0 ≤ x1 then (vp_in 58 1416 ∧ (vp_in 58 1416 ∧ (Q (σ 1 (Int32.toNatClampNeg 58)) (tp_u σ 1 (Int32.toNatClampNeg 58) x1)))) else (Q (-1000000002) σ)) : Wi E TM iX10_seed d Q 0 [(0, .ref 0), (1, .int x1)] [] σ := by
  refine wp_iload_n 1 dX10_seed_0 rfl rfl rfl ?_
  refine wp_if_ge 7 dX10_seed_1 (by decide) rfl (fun h1 => ?_) (fun h1 => ?_)
  · rw [if_pos h1] at K
    refine wp_aload_n 0 dX10_seed_7 rfl rfl rfl ?_
    refine wp_getR 10 0 kcX10 kfX10_7 rfl lM_0 (congrArg Prod.fst gM_0) rM_0_0 dX10_seed_8 rfl ?_
    refine wp_bipush (v := 58) dX10_seed_11 rfl (by decide) ?_
    obtain ⟨k2, K⟩ := K
    refine wn_iald lM_1 gM_1 k2 dX10_seed_13 rfl ?_
    refine wp_istore_n [1, 2, 0] dX10_seed_14 rfl rfl (by decide) rfl ?_
    show WP _ _ _ _ _ _ _ 15 [(0, .ref 0), (1, .int x1), (2, .int (σ 1 (Int32.toNatClampNeg 58)))] _ _ _
    refine wp_aload_n 0 dX10_seed_15 rfl rfl rfl ?_
    refine wp_getR 10 0 kcX10 kfX10_7 rfl lM_0 (congrArg Prod.fst gM_0) rM_0_0 dX10_seed_16 rfl ?_
    refine wp_bipush (v := 58) dX10_seed_19 rfl (by decide) ?_
    refine wp_iload_n 1 dX10_seed_21 rfl rfl rfl ?_
    obtain ⟨k3, K⟩ := K
    refine wn_iast lM_1 gM_1 k3 dX10_seed_22 rfl ?_
    refine wp_iload_n 2 dX10_seed_23 rfl rfl rfl ?_
    exact wp_ret .int rfl rfl (Nat.le_refl 0) (Nat.le_refl 0) dX10_seed_24 ⟨rfl, _, rfl, K⟩
  · rw [if_neg h1] at K
    refine wp_ldc dX10_seed_4 rfl tw_1108 ?_
    exact wp_ret .int rfl rfl (Nat.le_refl 0) (Nat.le_refl 0) dX10_seed_6 ⟨rfl, _, rfl, K⟩
theorem eX10_seed {E : tp_E} {d : Nat} {Q : Int32 → tp_M → Prop} {σ : tp_M}   (x1 : Int32) (K : if 0 ≤ x1 then (vp_in 58 1416 ∧ (vp_in 58 1416 ∧ (Q (σ 1 (Int32.toNatClampNeg 58)) (tp_u σ 1 (Int32.toNatClampNeg 58) x1)))) else (Q (-1000000002) σ)) : Ci E TM yX10_seed iX10_seed d [.ref 0, .int x1] σ Q := Ci.of ⟨by decide +kernel, rfl, rfl⟩ (Nat.le_of_ble_eq_true rfl) (bX10_seed_0  x1 K)
theorem bX10_keep_0 {E : tp_E} {d : Nat} {Q : Int32 → tp_M → Prop} {σ : tp_M}   (x1 : Int32) (K : Ci E TM yX10_in iX10_in d [.long (Int32.toInt64 x1), .long 0, .long 1] σ (fun v2 σ1 => if v2 = 0 then (Q (-1000000001) σ1) else (Cv E TM yX10_copy iX10_copy d [.ref 0, .int 0, .int (118 + (59 * x1))] σ1 (fun σ4 => vp_in x1 2 ∧ (Q 1 (tp_u (tp_u σ4 2 (Int32.toNatClampNeg x1) 1) 0 2 0)))))) : Wi E TM iX10_keep (d + 1) Q 0 [(0, .ref 0), (1, .int x1)] [] σ := by
  refine wp_iload_n 1 dX10_keep_0 rfl rfl rfl ?_
  refine wp_i2l dX10_keep_1 rfl ?_
  refine wp_lconst (v := 0) dX10_keep_2 rfl (by decide) ?_
  refine wp_lconst (v := 1) dX10_keep_3 rfl (by decide) ?_
  refine wn_callSi (As := [.long (Int32.toInt64 x1), .long 0, .long 1]) (rest := []) kmX10_93 (by decide) rfl rfl (Nat.le_of_ble_eq_true rfl) dX10_keep_4 rfl ?_
  refine Ci.mono K (fun v2 σ1 K => ?_)
  refine wp_if_ne 13 dX10_keep_7 (by decide) rfl (fun h3 => ?_) (fun h3 => ?_)
  · rw [if_neg h3] at K
    refine wp_aload_n 0 dX10_keep_13 rfl rfl rfl ?_
    refine wp_iconst (v := 0) dX10_keep_14 rfl (by decide) ?_
    refine wp_bipush (v := 118) dX10_keep_15 rfl (by decide) ?_
    refine wp_bipush (v := 59) dX10_keep_17 rfl (by decide) ?_
    refine wp_iload_n 1 dX10_keep_19 rfl rfl rfl ?_
    refine wp_imul dX10_keep_20 rfl ?_
    refine wp_iadd dX10_keep_21 rfl ?_
    refine wn_callVv (As := [.int 0, .int (118 + (59 * x1))]) (rest := []) 10 kmX10_246 (by decide) rfl rfl (Nat.le_of_ble_eq_true rfl) lM_0 (congrArg Prod.fst gM_0) dX10_keep_22 rfl ?_
    refine Cv.mono K (fun σ4 K => ?_)
    refine wp_aload_n 0 dX10_keep_25 rfl rfl rfl ?_
    refine wp_getR 10 1 kcX10 kfX10_13 rfl lM_0 (congrArg Prod.fst gM_0) rM_0_1 dX10_keep_26 rfl ?_
    refine wp_iload_n 1 dX10_keep_29 rfl rfl rfl ?_
    refine wp_iconst (v := 1) dX10_keep_30 rfl (by decide) ?_
    obtain ⟨k5, K⟩ := K
    refine wn_zast lM_2 gM_2 k5 (by decide) dX10_keep_31 rfl ?_
    refine wp_aload_n 0 dX10_keep_32 rfl rfl rfl ?_
    refine wp_iconst (v := 0) dX10_keep_33 rfl (by decide) ?_
    refine wp_putI 10 2 kcX10 kfX10_206 rfl rfl rfl rfl lM_0 (congrArg Prod.fst gM_0) dX10_keep_34 rfl ?_
    refine wp_iconst (v := 1) dX10_keep_37 rfl (by decide) ?_
    exact wp_ret .int rfl rfl (Nat.le_refl 0) (Nat.le_refl 0) dX10_keep_38 ⟨rfl, _, rfl, K⟩
  · rw [if_pos h3] at K
    refine wp_ldc dX10_keep_10 rfl tw_1191 ?_
    exact wp_ret .int rfl rfl (Nat.le_refl 0) (Nat.le_refl 0) dX10_keep_12 ⟨rfl, _, rfl, K⟩
theorem eX10_keep {E : tp_E} {d : Nat} {Q : Int32 → tp_M → Prop} {σ : tp_M}   (x1 : Int32) (K : Ci E TM yX10_in iX10_in d [.long (Int32.toInt64 x1), .long 0, .long 1] σ (fun v2 σ1 => if v2 = 0 then (Q (-1000000001) σ1) else (Cv E TM yX10_copy iX10_copy d [.ref 0, .int 0, .int (118 + (59 * x1))] σ1 (fun σ4 => vp_in x1 2 ∧ (Q 1 (tp_u (tp_u σ4 2 (Int32.toNatClampNeg x1) 1) 0 2 0)))))) : Ci E TM yX10_keep iX10_keep (d + 1) [.ref 0, .int x1] σ Q := Ci.of ⟨by decide +kernel, rfl, rfl⟩ (Nat.le_of_ble_eq_true rfl) (bX10_keep_0  x1 K)
theorem bX10_goBack_0 {E : tp_E} {d : Nat} {Q : Int32 → tp_M → Prop} {σ : tp_M}   (x1 : Int32) (K : Ci E TM yX10_in iX10_in d [.long (Int32.toInt64 x1), .long 0, .long 1] σ (fun v2 σ1 => if v2 = 0 then (Q (-1000000001) σ1) else (vp_in x1 2 ∧ (if (σ1 2 (Int32.toNatClampNeg x1)) = 0 then (Q (-1000000003) σ1) else (Cv E TM yX10_copy iX10_copy d [.ref 0, .int (118 + (59 * x1)), .int 0] σ1 (fun σ6 => Q 1 (tp_u σ6 0 2 0))))))) : Wi E TM iX10_goBack (d + 1) Q 0 [(0, .ref 0), (1, .int x1)] [] σ := by
  refine wp_iload_n 1 dX10_goBack_0 rfl rfl rfl ?_
  refine wp_i2l dX10_goBack_1 rfl ?_
  refine wp_lconst (v := 0) dX10_goBack_2 rfl (by decide) ?_
  refine wp_lconst (v := 1) dX10_goBack_3 rfl (by decide) ?_
  refine wn_callSi (As := [.long (Int32.toInt64 x1), .long 0, .long 1]) (rest := []) kmX10_93 (by decide) rfl rfl (Nat.le_of_ble_eq_true rfl) dX10_goBack_4 rfl ?_
  refine Ci.mono K (fun v2 σ1 K => ?_)
  refine wp_if_ne 13 dX10_goBack_7 (by decide) rfl (fun h3 => ?_) (fun h3 => ?_)
  · rw [if_neg h3] at K
    refine wp_aload_n 0 dX10_goBack_13 rfl rfl rfl ?_
    refine wp_getR 10 1 kcX10 kfX10_13 rfl lM_0 (congrArg Prod.fst gM_0) rM_0_1 dX10_goBack_14 rfl ?_
    refine wp_iload_n 1 dX10_goBack_17 rfl rfl rfl ?_
    obtain ⟨k4, K⟩ := K
    refine wn_zald lM_2 gM_2 k4 dX10_goBack_18 rfl ?_
    refine wp_if_ne 25 dX10_goBack_19 (by decide) rfl (fun h5 => ?_) (fun h5 => ?_)
    · rw [if_neg h5] at K
      refine wp_aload_n 0 dX10_goBack_25 rfl rfl rfl ?_
      refine wp_bipush (v := 118) dX10_goBack_26 rfl (by decide) ?_
      refine wp_bipush (v := 59) dX10_goBack_28 rfl (by decide) ?_
      refine wp_iload_n 1 dX10_goBack_30 rfl rfl rfl ?_
      refine wp_imul dX10_goBack_31 rfl ?_
      refine wp_iadd dX10_goBack_32 rfl ?_
      refine wp_iconst (v := 0) dX10_goBack_33 rfl (by decide) ?_
      refine wn_callVv (As := [.int (118 + (59 * x1)), .int 0]) (rest := []) 10 kmX10_246 (by decide) rfl rfl (Nat.le_of_ble_eq_true rfl) lM_0 (congrArg Prod.fst gM_0) dX10_goBack_34 rfl ?_
      refine Cv.mono K (fun σ6 K => ?_)
      refine wp_aload_n 0 dX10_goBack_37 rfl rfl rfl ?_
      refine wp_iconst (v := 0) dX10_goBack_38 rfl (by decide) ?_
      refine wp_putI 10 2 kcX10 kfX10_206 rfl rfl rfl rfl lM_0 (congrArg Prod.fst gM_0) dX10_goBack_39 rfl ?_
      refine wp_iconst (v := 1) dX10_goBack_42 rfl (by decide) ?_
      exact wp_ret .int rfl rfl (Nat.le_refl 0) (Nat.le_refl 0) dX10_goBack_43 ⟨rfl, _, rfl, K⟩
    · rw [if_pos h5] at K
      refine wp_ldc dX10_goBack_22 rfl tw_1228 ?_
      exact wp_ret .int rfl rfl (Nat.le_refl 0) (Nat.le_refl 0) dX10_goBack_24 ⟨rfl, _, rfl, K⟩
  · rw [if_pos h3] at K
    refine wp_ldc dX10_goBack_10 rfl tw_1191 ?_
    exact wp_ret .int rfl rfl (Nat.le_refl 0) (Nat.le_refl 0) dX10_goBack_12 ⟨rfl, _, rfl, K⟩
theorem eX10_goBack {E : tp_E} {d : Nat} {Q : Int32 → tp_M → Prop} {σ : tp_M}   (x1 : Int32) (K : Ci E TM yX10_in iX10_in d [.long (Int32.toInt64 x1), .long 0, .long 1] σ (fun v2 σ1 => if v2 = 0 then (Q (-1000000001) σ1) else (vp_in x1 2 ∧ (if (σ1 2 (Int32.toNatClampNeg x1)) = 0 then (Q (-1000000003) σ1) else (Cv E TM yX10_copy iX10_copy d [.ref 0, .int (118 + (59 * x1)), .int 0] σ1 (fun σ6 => Q 1 (tp_u σ6 0 2 0))))))) : Ci E TM yX10_goBack iX10_goBack (d + 1) [.ref 0, .int x1] σ Q := Ci.of ⟨by decide +kernel, rfl, rfl⟩ (Nat.le_of_ble_eq_true rfl) (bX10_goBack_0  x1 K)

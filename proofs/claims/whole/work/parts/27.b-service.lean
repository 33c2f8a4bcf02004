theorem bX7_seek_0 {E : tp_E} {d : Nat} {Q : tp_M → Prop} {σ : tp_M}    (K : Cv E TC yX7_markInTime iX7_markInTime d [.ref 147] σ (fun σ1 => Ci E TC yX9_power iX9_power d [.int (((tp_u σ1 147 5 (-1)) 1 3) + 1), .int ((tp_u σ1 147 5 (-1)) 1 5)] (tp_u σ1 147 5 (-1)) (fun v3 σ2 => Wv E TC iX7_seek (d + 1) Q 33 [(0, .ref 147), (1, .int (((tp_u σ1 147 5 (-1)) 1 3) + 1)), (2, .int v3), (3, .int 0)] [] σ2))) : Wv E TC iX7_seek (d + 1) Q 0 [(0, .ref 147)] [] σ := by
  refine wp_aload_n 0 dX7_seek_0 rfl rfl rfl ?_
  refine wn_callVv (As := []) (rest := []) 7 kmX7_43 (by decide) rfl rfl (Nat.le_of_ble_eq_true rfl) lC_147 (congrArg Prod.fst gC_147) dX7_seek_1 rfl ?_
  refine Cv.mono K (fun σ1 K => ?_)
  refine wp_aload_n 0 dX7_seek_4 rfl rfl rfl ?_
  refine wp_iconst (v := (-1)) dX7_seek_5 rfl (by decide) ?_
  refine wp_putI 7 5 kcX7 kfX7_29 rfl rfl rfl rfl lC_147 (congrArg Prod.fst gC_147) dX7_seek_6 rfl ?_
  refine wp_aload_n 0 dX7_seek_9 rfl rfl rfl ?_
  refine wp_getR 7 0 kcX7 kfX7_21 rfl lC_147 (congrArg Prod.fst gC_147) rC_147_0 dX7_seek_10 rfl ?_
  refine wp_getI 5 3 kcX5 kfX7_46 rfl lC_1 (congrArg Prod.fst gC_1) dX7_seek_13 rfl ?_
  refine wp_iconst (v := 1) dX7_seek_16 rfl (by decide) ?_
  refine wp_iadd dX7_seek_17 rfl ?_
  refine wp_istore_n [1, 0] dX7_seek_18 rfl rfl (by decide) rfl ?_
  show WP _ _ _ _ _ _ _ 19 [(0, .ref 147), (1, .int (((tp_u σ1 147 5 (-1)) 1 3) + 1))] _ _ _
  refine wp_iload_n 1 dX7_seek_19 rfl rfl rfl ?_
  refine wp_aload_n 0 dX7_seek_20 rfl rfl rfl ?_
  refine wp_getR 7 0 kcX7 kfX7_21 rfl lC_147 (congrArg Prod.fst gC_147) rC_147_0 dX7_seek_21 rfl ?_
  refine wp_getI 5 5 kcX5 kfX7_49 rfl lC_1 (congrArg Prod.fst gC_1) dX7_seek_24 rfl ?_
  refine wn_callNi (As := [.int (((tp_u σ1 147 5 (-1)) 1 3) + 1), .int ((tp_u σ1 147 5 (-1)) 1 5)]) (rest := []) kmX7_52 (by decide) rfl rfl (Nat.le_of_ble_eq_true rfl) dX7_seek_27 rfl ?_
  refine Ci.mono K (fun v3 σ2 K => ?_)
  refine wp_istore_n [1, 2, 0] dX7_seek_30 rfl rfl (by decide) rfl ?_
  show WP _ _ _ _ _ _ _ 31 [(0, .ref 147), (1, .int (((tp_u σ1 147 5 (-1)) 1 3) + 1)), (2, .int v3)] _ _ _
  refine wp_iconst (v := 0) dX7_seek_31 rfl (by decide) ?_
  refine wp_istore_n [1, 2, 3, 0] dX7_seek_32 rfl rfl (by decide) rfl ?_
  show WP _ _ _ _ _ _ _ 33 [(0, .ref 147), (1, .int (((tp_u σ1 147 5 (-1)) 1 3) + 1)), (2, .int v3), (3, .int 0)] _ _ _
  exact K
theorem eX7_seek {E : tp_E} {d : Nat} {Q : tp_M → Prop} {σ : tp_M}    (K : Cv E TC yX7_markInTime iX7_markInTime d [.ref 147] σ (fun σ1 => Ci E TC yX9_power iX9_power d [.int (((tp_u σ1 147 5 (-1)) 1 3) + 1), .int ((tp_u σ1 147 5 (-1)) 1 5)] (tp_u σ1 147 5 (-1)) (fun v3 σ2 => Wv E TC iX7_seek (d + 1) Q 33 [(0, .ref 147), (1, .int (((tp_u σ1 147 5 (-1)) 1 3) + 1)), (2, .int v3), (3, .int 0)] [] σ2))) : Cv E TC yX7_seek iX7_seek (d + 1) [.ref 147] σ Q := Cv.of ⟨by decide +kernel, rfl, rfl⟩ (Nat.le_of_ble_eq_true rfl) (bX7_seek_0   K)
theorem bX7_seek_33 {E : tp_E} {d : Nat} {Q : tp_M → Prop} {σ : tp_M}   (x1 : Int32) (x2 : Int32) (x3 : Int32) (K : if x2 ≤ x3 then (Q σ) else (Cv E TC yX9_spell iX9_spell d [.int x3, .int x1, .ref 149, .int (σ 1 5)] σ (fun σ2 => Ci E TC yX7_ordersTaken iX7_ordersTaken d [.ref 147] σ2 (fun v4 σ3 => if v4 ≤ (σ3 147 5) then (Wv E TC iX7_seek (d + 1) Q 33 [(0, .ref 147), (1, .int x1), (2, .int x2), (3, .int (x3 + 1))] [] σ3) else (Wv E TC iX7_seek (d + 1) Q 33 [(0, .ref 147), (1, .int x1), (2, .int x2), (3, .int (x3 + 1))] [] (tp_cp (tp_u σ3 147 5 v4) 149 150 (Int32.toNatClampNeg 0) (Int32.toNatClampNeg 0) (Int32.toNatClampNeg 4))))))) : Wv E TC iX7_seek (d + 1) Q 33 [(0, .ref 147), (1, .int x1), (2, .int x2), (3, .int x3)] [] σ := by
  refine wp_iload_n 3 dX7_seek_33 rfl rfl rfl ?_
  refine wp_iload_n 2 dX7_seek_34 rfl rfl rfl ?_
  refine wp_icmp_ge 95 dX7_seek_35 (by decide) rfl (fun h1 => ?_) (fun h1 => ?_)
  · rw [if_pos h1] at K
    exact wp_vret rfl (Nat.le_refl 0) (Nat.le_refl 0) dX7_seek_95 ⟨rfl, rfl, K⟩
  · rw [if_neg h1] at K
    refine wp_iload_n 3 dX7_seek_38 rfl rfl rfl ?_
    refine wp_iload_n 1 dX7_seek_39 rfl rfl rfl ?_
    refine wp_aload_n 0 dX7_seek_40 rfl rfl rfl ?_
    refine wp_getR 7 3 kcX7 kfX7_15 rfl lC_147 (congrArg Prod.fst gC_147) rC_147_3 dX7_seek_41 rfl ?_
    refine wp_aload_n 0 dX7_seek_44 rfl rfl rfl ?_
    refine wp_getR 7 0 kcX7 kfX7_21 rfl lC_147 (congrArg Prod.fst gC_147) rC_147_0 dX7_seek_45 rfl ?_
    refine wp_getI 5 5 kcX5 kfX7_49 rfl lC_1 (congrArg Prod.fst gC_1) dX7_seek_48 rfl ?_
    refine wn_callNv (As := [.int x3, .int x1, .ref 149, .int (σ 1 5)]) (rest := []) kmX7_56 (by decide) rfl rfl (Nat.le_of_ble_eq_true rfl) dX7_seek_51 rfl ?_
    refine Cv.mono K (fun σ2 K => ?_)
    refine wp_aload_n 0 dX7_seek_54 rfl rfl rfl ?_
    refine wn_callVi (As := []) (rest := []) 7 kmX7_60 (by decide) rfl rfl (Nat.le_of_ble_eq_true rfl) lC_147 (congrArg Prod.fst gC_147) dX7_seek_55 rfl ?_
    refine Ci.mono K (fun v4 σ3 K => ?_)
    refine wp_istore [1, 2, 3, 4, 0] dX7_seek_58 rfl (by decide) rfl ?_
    show WP _ _ _ _ _ _ _ 60 [(0, .ref 147), (1, .int x1), (2, .int x2), (3, .int x3), (4, .int v4)] _ _ _
    refine wp_iload 4 dX7_seek_60 rfl rfl ?_
    refine wp_aload_n 0 dX7_seek_62 rfl rfl rfl ?_
    refine wp_getI 7 5 kcX7 kfX7_29 rfl lC_147 (congrArg Prod.fst gC_147) dX7_seek_63 rfl ?_
    refine wp_icmp_le 89 dX7_seek_66 (by decide) rfl (fun h5 => ?_) (fun h5 => ?_)
    · rw [if_pos h5] at K
      refine wp_iinc (v := x3 + 1) 3 [1, 2, 3, 0, 4] dX7_seek_89 rfl (by decide) rfl rfl rfl ?_
      show WP _ _ _ _ _ _ _ 92 [(0, .ref 147), (1, .int x1), (2, .int x2), (3, .int (x3 + 1)), (4, .int v4)] _ _ _
      refine wp_goto 33 dX7_seek_92 (by decide) ?_
      refine wp_lv [0, 1, 2, 3] rfl ?_
      exact K
    · rw [if_neg h5] at K
      refine wp_aload_n 0 dX7_seek_69 rfl rfl rfl ?_
      refine wp_iload 4 dX7_seek_70 rfl rfl ?_
      refine wp_putI 7 5 kcX7 kfX7_29 rfl rfl rfl rfl lC_147 (congrArg Prod.fst gC_147) dX7_seek_72 rfl ?_
      refine wp_aload_n 0 dX7_seek_75 rfl rfl rfl ?_
      refine wp_getR 7 3 kcX7 kfX7_15 rfl lC_147 (congrArg Prod.fst gC_147) rC_147_3 dX7_seek_76 rfl ?_
      refine wp_iconst (v := 0) dX7_seek_79 rfl (by decide) ?_
      refine wp_aload_n 0 dX7_seek_80 rfl rfl rfl ?_
      refine wp_getR 7 4 kcX7 kfX7_18 rfl lC_147 (congrArg Prod.fst gC_147) rC_147_4 dX7_seek_81 rfl ?_
      refine wp_iconst (v := 0) dX7_seek_84 rfl (by decide) ?_
      refine wp_iconst (v := 4) dX7_seek_85 rfl (by decide) ?_
      refine wn_copy tw_843 tw_473 tw_472 tw_50 (Nat.le_of_ble_eq_true rfl) lC_149 (congrArg Prod.fst gC_149) lC_150 (congrArg Prod.fst gC_150) (by decide) (by decide) (by decide) (by rw [gC_149]; decide) (by rw [gC_150]; decide) dX7_seek_86 rfl ?_
      refine wp_iinc (v := x3 + 1) 3 [1, 2, 3, 0, 4] dX7_seek_89 rfl (by decide) rfl rfl rfl ?_
      show WP _ _ _ _ _ _ _ 92 [(0, .ref 147), (1, .int x1), (2, .int x2), (3, .int (x3 + 1)), (4, .int v4)] _ _ _
      refine wp_goto 33 dX7_seek_92 (by decide) ?_
      refine wp_lv [0, 1, 2, 3] rfl ?_
      exact K
theorem bX7_markInTime_0 {E : tp_E} {d : Nat} {Q : tp_M → Prop} {σ : tp_M}    (K : Wv E TC iX7_markInTime (d + 1) Q 2 [(0, .ref 147), (1, .int 0)] [] σ) : Wv E TC iX7_markInTime (d + 1) Q 0 [(0, .ref 147)] [] σ := by
  refine wp_iconst (v := 0) dX7_markInTime_0 rfl (by decide) ?_
  refine wp_istore_n [1, 0] dX7_markInTime_1 rfl rfl (by decide) rfl ?_
  show WP _ _ _ _ _ _ _ 2 [(0, .ref 147), (1, .int 0)] _ _ _
  exact K
theorem eX7_markInTime {E : tp_E} {d : Nat} {Q : tp_M → Prop} {σ : tp_M}    (K : Wv E TC iX7_markInTime (d + 1) Q 2 [(0, .ref 147), (1, .int 0)] [] σ) : Cv E TC yX7_markInTime iX7_markInTime (d + 1) [.ref 147] σ Q := Cv.of ⟨by decide +kernel, rfl, rfl⟩ (Nat.le_of_ble_eq_true rfl) (bX7_markInTime_0   K)
theorem bX7_markInTime_2 {E : tp_E} {d : Nat} {Q : tp_M → Prop} {σ : tp_M}   (x1 : Int32) (K : if (σ 1 5) ≤ x1 then (Q σ) else (if 4 ≤ x1 then (Q σ) else (vp_in x1 4 ∧ (Wv E TC iX7_markInTime (d + 1) Q 27 [(0, .ref 147), (1, .int x1), (2, .int 0)] [] (tp_u σ 148 (Int32.toNatClampNeg x1) 0))))) : Wv E TC iX7_markInTime (d + 1) Q 2 [(0, .ref 147), (1, .int x1)] [] σ := by
  refine wp_iload_n 1 dX7_markInTime_2 rfl rfl rfl ?_
  refine wp_aload_n 0 dX7_markInTime_3 rfl rfl rfl ?_
  refine wp_getR 7 0 kcX7 kfX7_21 rfl lC_147 (congrArg Prod.fst gC_147) rC_147_0 dX7_markInTime_4 rfl ?_
  refine wp_getI 5 5 kcX5 kfX7_49 rfl lC_1 (congrArg Prod.fst gC_1) dX7_markInTime_7 rfl ?_
  refine wp_icmp_ge 113 dX7_markInTime_10 (by decide) rfl (fun h1 => ?_) (fun h1 => ?_)
  · rw [if_pos h1] at K
    exact wp_vret rfl (Nat.le_refl 0) (Nat.le_refl 0) dX7_markInTime_113 ⟨rfl, rfl, K⟩
  · rw [if_neg h1] at K
    refine wp_iload_n 1 dX7_markInTime_13 rfl rfl rfl ?_
    refine wp_iconst (v := 4) dX7_markInTime_14 rfl (by decide) ?_
    refine wp_icmp_ge 113 dX7_markInTime_15 (by decide) rfl (fun h2 => ?_) (fun h2 => ?_)
    · rw [if_pos h2] at K
      exact wp_vret rfl (Nat.le_refl 0) (Nat.le_refl 0) dX7_markInTime_113 ⟨rfl, rfl, K⟩
    · rw [if_neg h2] at K
      refine wp_aload_n 0 dX7_markInTime_18 rfl rfl rfl ?_
      refine wp_getR 7 2 kcX7 kfX7_9 rfl lC_147 (congrArg Prod.fst gC_147) rC_147_2 dX7_markInTime_19 rfl ?_
      refine wp_iload_n 1 dX7_markInTime_22 rfl rfl rfl ?_
      refine wp_iconst (v := 0) dX7_markInTime_23 rfl (by decide) ?_
      obtain ⟨k3, K⟩ := K
      refine wn_iast lC_148 gC_148 k3 dX7_markInTime_24 rfl ?_
      refine wp_iconst (v := 0) dX7_markInTime_25 rfl (by decide) ?_
      refine wp_istore_n [1, 2, 0] dX7_markInTime_26 rfl rfl (by decide) rfl ?_
      show WP _ _ _ _ _ _ _ 27 [(0, .ref 147), (1, .int x1), (2, .int 0)] _ _ _
      exact K
theorem bX7_markInTime_27 {E : tp_E} {d : Nat} {Q : tp_M → Prop} {σ : tp_M}   (x1 : Int32) (x2 : Int32) (K : if (σ 1 3) ≤ x2 then (Wv E TC iX7_markInTime (d + 1) Q 2 [(0, .ref 147), (1, .int (x1 + 1))] [] σ) else (Ci E TC yX8_roomOf iX8_roomOf d [.ref 9, .int x2] σ (fun v3 σ2 => vp_in x1 4 ∧ (Ci E TC yX5_distance iX5_distance d [.ref 1, .int v3, .int (σ2 7 (Int32.toNatClampNeg x1))] σ2 (fun v6 σ5 => if v6 = (-1) then (Wv E TC iX7_markInTime (d + 1) Q 27 [(0, .ref 147), (1, .int x1), (2, .int (x2 + 1))] [] σ5) else (vp_in x1 4 ∧ (if (σ5 8 (Int32.toNatClampNeg x1)) < ((σ5 9 0) + v6) then (Wv E TC iX7_markInTime (d + 1) Q 27 [(0, .ref 147), (1, .int x1), (2, .int (x2 + 1))] [] σ5) else (vp_in x1 4 ∧ (vp_in x1 4 ∧ (Wv E TC iX7_markInTime (d + 1) Q 27 [(0, .ref 147), (1, .int x1), (2, .int (x2 + 1))] [] (tp_u σ5 148 (Int32.toNatClampNeg x1) ((σ5 148 (Int32.toNatClampNeg x1)) ||| (1 <<< (x2 &&& 31)))))))))))))) : Wv E TC iX7_markInTime (d + 1) Q 27 [(0, .ref 147), (1, .int x1), (2, .int x2)] [] σ := by
  refine wp_iload_n 2 dX7_markInTime_27 rfl rfl rfl ?_
  refine wp_aload_n 0 dX7_markInTime_28 rfl rfl rfl ?_
  refine wp_getR 7 0 kcX7 kfX7_21 rfl lC_147 (congrArg Prod.fst gC_147) rC_147_0 dX7_markInTime_29 rfl ?_
  refine wp_getI 5 3 kcX5 kfX7_46 rfl lC_1 (congrArg Prod.fst gC_1) dX7_markInTime_32 rfl ?_
  refine wp_icmp_ge 107 dX7_markInTime_35 (by decide) rfl (fun h1 => ?_) (fun h1 => ?_)
  · rw [if_pos h1] at K
    refine wp_iinc (v := x1 + 1) 1 [1, 0, 2] dX7_markInTime_107 rfl (by decide) rfl rfl rfl ?_
    show WP _ _ _ _ _ _ _ 110 [(0, .ref 147), (1, .int (x1 + 1)), (2, .int x2)] _ _ _
    refine wp_goto 2 dX7_markInTime_110 (by decide) ?_
    refine wp_lv [0, 1] rfl ?_
    exact K
  · rw [if_neg h1] at K
    refine wp_aload_n 0 dX7_markInTime_38 rfl rfl rfl ?_
    refine wp_getR 7 0 kcX7 kfX7_21 rfl lC_147 (congrArg Prod.fst gC_147) rC_147_0 dX7_markInTime_39 rfl ?_
    refine wp_aload_n 0 dX7_markInTime_42 rfl rfl rfl ?_
    refine wp_getR 7 1 kcX7 kfX7_25 rfl lC_147 (congrArg Prod.fst gC_147) rC_147_1 dX7_markInTime_43 rfl ?_
    refine wp_iload_n 2 dX7_markInTime_46 rfl rfl rfl ?_
    refine wn_callVi (As := [.int x2]) (rest := [.ref 1]) 8 kmX7_70 (by decide) rfl rfl (Nat.le_of_ble_eq_true rfl) lC_9 (congrArg Prod.fst gC_9) dX7_markInTime_47 rfl ?_
    refine Ci.mono K (fun v3 σ2 K => ?_)
    refine wp_aload_n 0 dX7_markInTime_50 rfl rfl rfl ?_
    refine wp_getR 7 0 kcX7 kfX7_21 rfl lC_147 (congrArg Prod.fst gC_147) rC_147_0 dX7_markInTime_51 rfl ?_
    refine wp_getR 5 11 kcX5 kfX7_76 rfl lC_1 (congrArg Prod.fst gC_1) rC_1_11 dX7_markInTime_54 rfl ?_
    refine wp_iload_n 1 dX7_markInTime_57 rfl rfl rfl ?_
    obtain ⟨k4, K⟩ := K
    refine wn_iald lC_7 gC_7 k4 dX7_markInTime_58 rfl ?_
    refine wn_callVi (As := [.int v3, .int (σ2 7 (Int32.toNatClampNeg x1))]) (rest := []) 5 kmX7_79 (by decide) rfl rfl (Nat.le_of_ble_eq_true rfl) lC_1 (congrArg Prod.fst gC_1) dX7_markInTime_59 rfl ?_
    refine Ci.mono K (fun v6 σ5 K => ?_)
    refine wp_istore_n [1, 2, 3, 0] dX7_markInTime_62 rfl rfl (by decide) rfl ?_
    show WP _ _ _ _ _ _ _ 63 [(0, .ref 147), (1, .int x1), (2, .int x2), (3, .int v6)] _ _ _
    refine wp_iload_n 3 dX7_markInTime_63 rfl rfl rfl ?_
    refine wp_iconst (v := (-1)) dX7_markInTime_64 rfl (by decide) ?_
    refine wp_icmp_eq 101 dX7_markInTime_65 (by decide) rfl (fun h7 => ?_) (fun h7 => ?_)
    · rw [if_pos h7] at K
      refine wp_iinc (v := x2 + 1) 2 [1, 2, 0, 3] dX7_markInTime_101 rfl (by decide) rfl rfl rfl ?_
      show WP _ _ _ _ _ _ _ 104 [(0, .ref 147), (1, .int x1), (2, .int (x2 + 1)), (3, .int v6)] _ _ _
      refine wp_goto 27 dX7_markInTime_104 (by decide) ?_
      refine wp_lv [0, 1, 2] rfl ?_
      exact K
    · rw [if_neg h7] at K
      refine wp_aload_n 0 dX7_markInTime_68 rfl rfl rfl ?_
      refine wp_getR 7 1 kcX7 kfX7_25 rfl lC_147 (congrArg Prod.fst gC_147) rC_147_1 dX7_markInTime_69 rfl ?_
      refine wp_getI 8 0 kcX8 kfX7_82 rfl lC_9 (congrArg Prod.fst gC_9) dX7_markInTime_72 rfl ?_
      refine wp_iload_n 3 dX7_markInTime_75 rfl rfl rfl ?_
      refine wp_iadd dX7_markInTime_76 rfl ?_
      refine wp_aload_n 0 dX7_markInTime_77 rfl rfl rfl ?_
      refine wp_getR 7 0 kcX7 kfX7_21 rfl lC_147 (congrArg Prod.fst gC_147) rC_147_0 dX7_markInTime_78 rfl ?_
      refine wp_getR 5 12 kcX5 kfX7_85 rfl lC_1 (congrArg Prod.fst gC_1) rC_1_12 dX7_markInTime_81 rfl ?_
      refine wp_iload_n 1 dX7_markInTime_84 rfl rfl rfl ?_
      obtain ⟨k8, K⟩ := K
      refine wn_iald lC_8 gC_8 k8 dX7_markInTime_85 rfl ?_
      refine wp_icmp_gt 101 dX7_markInTime_86 (by decide) rfl (fun h9 => ?_) (fun h9 => ?_)
      · rw [if_pos h9] at K
        refine wp_iinc (v := x2 + 1) 2 [1, 2, 0, 3] dX7_markInTime_101 rfl (by decide) rfl rfl rfl ?_
        show WP _ _ _ _ _ _ _ 104 [(0, .ref 147), (1, .int x1), (2, .int (x2 + 1)), (3, .int v6)] _ _ _
        refine wp_goto 27 dX7_markInTime_104 (by decide) ?_
        refine wp_lv [0, 1, 2] rfl ?_
        exact K
      · rw [if_neg h9] at K
        refine wp_aload_n 0 dX7_markInTime_89 rfl rfl rfl ?_
        refine wp_getR 7 2 kcX7 kfX7_9 rfl lC_147 (congrArg Prod.fst gC_147) rC_147_2 dX7_markInTime_90 rfl ?_
        refine wp_iload_n 1 dX7_markInTime_93 rfl rfl rfl ?_
        refine wp_dup2 dX7_markInTime_94 rfl rfl rfl ?_
        obtain ⟨k10, K⟩ := K
        refine wn_iald lC_148 gC_148 k10 dX7_markInTime_95 rfl ?_
        refine wp_iconst (v := 1) dX7_markInTime_96 rfl (by decide) ?_
        refine wp_iload_n 2 dX7_markInTime_97 rfl rfl rfl ?_
        refine wp_ishl dX7_markInTime_98 rfl ?_
        refine wp_ior dX7_markInTime_99 rfl ?_
        obtain ⟨k11, K⟩ := K
        refine wn_iast lC_148 gC_148 k11 dX7_markInTime_100 rfl ?_
        refine wp_iinc (v := x2 + 1) 2 [1, 2, 0, 3] dX7_markInTime_101 rfl (by decide) rfl rfl rfl ?_
        show WP _ _ _ _ _ _ _ 104 [(0, .ref 147), (1, .int x1), (2, .int (x2 + 1)), (3, .int v6)] _ _ _
        refine wp_goto 27 dX7_markInTime_104 (by decide) ?_
        refine wp_lv [0, 1, 2] rfl ?_
        exact K
theorem bX7_ordersTaken_0 {E : tp_E} {d : Nat} {Q : Int32 → tp_M → Prop} {σ : tp_M}    (K : Wi E TC iX7_ordersTaken (d + 1) Q 6 [(0, .ref 147), (1, .int 0), (2, .int 0), (3, .int 0)] [] σ) : Wi E TC iX7_ordersTaken (d + 1) Q 0 [(0, .ref 147)] [] σ := by
  refine wp_iconst (v := 0) dX7_ordersTaken_0 rfl (by decide) ?_
  refine wp_istore_n [1, 0] dX7_ordersTaken_1 rfl rfl (by decide) rfl ?_
  show WP _ _ _ _ _ _ _ 2 [(0, .ref 147), (1, .int 0)] _ _ _
  refine wp_iconst (v := 0) dX7_ordersTaken_2 rfl (by decide) ?_
  refine wp_istore_n [1, 2, 0] dX7_ordersTaken_3 rfl rfl (by decide) rfl ?_
  show WP _ _ _ _ _ _ _ 4 [(0, .ref 147), (1, .int 0), (2, .int 0)] _ _ _
  refine wp_iconst (v := 0) dX7_ordersTaken_4 rfl (by decide) ?_
  refine wp_istore_n [1, 2, 3, 0] dX7_ordersTaken_5 rfl rfl (by decide) rfl ?_
  show WP _ _ _ _ _ _ _ 6 [(0, .ref 147), (1, .int 0), (2, .int 0), (3, .int 0)] _ _ _
  exact K
theorem eX7_ordersTaken {E : tp_E} {d : Nat} {Q : Int32 → tp_M → Prop} {σ : tp_M}    (K : Wi E TC iX7_ordersTaken (d + 1) Q 6 [(0, .ref 147), (1, .int 0), (2, .int 0), (3, .int 0)] [] σ) : Ci E TC yX7_ordersTaken iX7_ordersTaken (d + 1) [.ref 147] σ Q := Ci.of ⟨by decide +kernel, rfl, rfl⟩ (Nat.le_of_ble_eq_true rfl) (bX7_ordersTaken_0   K)
theorem bX7_ordersTaken_6 {E : tp_E} {d : Nat} {Q : Int32 → tp_M → Prop} {σ : tp_M}   (x1 : Int32) (x2 : Int32) (x3 : Int32) (K : if (σ 1 5) ≤ x3 then (Q x2 σ) else (if 4 ≤ x3 then (Q x2 σ) else (vp_in x3 4 ∧ (if (σ 149 (Int32.toNatClampNeg x3)) = (σ 1 3) then (Wi E TC iX7_ordersTaken (d + 1) Q 6 [(0, .ref 147), (1, .int x1), (2, .int x2), (3, .int (x3 + 1))] [] σ) else (Ci E TC yX9_has iX9_has d [.int x1, .int (σ 149 (Int32.toNatClampNeg x3))] σ (fun v6 σ5 => if v6 = 0 then (vp_in x3 4 ∧ (Ci E TC yX9_has iX9_has d [.int (σ5 148 (Int32.toNatClampNeg x3)), .int (σ 149 (Int32.toNatClampNeg x3))] σ5 (fun v10 σ9 => if v10 = 0 then (Q (-1) σ9) else (Wi E TC iX7_ordersTaken (d + 1) Q 6 [(0, .ref 147), (1, .int (x1 ||| (1 <<< ((σ 149 (Int32.toNatClampNeg x3)) &&& 31)))), (2, .int (x2 + 1)), (3, .int (x3 + 1))] [] σ9)))) else (Q (-1) σ5))))))) : Wi E TC iX7_ordersTaken (d + 1) Q 6 [(0, .ref 147), (1, .int x1), (2, .int x2), (3, .int x3)] [] σ := by
  refine wp_iload_n 3 dX7_ordersTaken_6 rfl rfl rfl ?_
  refine wp_aload_n 0 dX7_ordersTaken_7 rfl rfl rfl ?_
  refine wp_getR 7 0 kcX7 kfX7_21 rfl lC_147 (congrArg Prod.fst gC_147) rC_147_0 dX7_ordersTaken_8 rfl ?_
  refine wp_getI 5 5 kcX5 kfX7_49 rfl lC_1 (congrArg Prod.fst gC_1) dX7_ordersTaken_11 rfl ?_
  refine wp_icmp_ge 86 dX7_ordersTaken_14 (by decide) rfl (fun h1 => ?_) (fun h1 => ?_)
  · rw [if_pos h1] at K
    refine wp_iload_n 2 dX7_ordersTaken_86 rfl rfl rfl ?_
    exact wp_ret .int rfl rfl (Nat.le_refl 0) (Nat.le_refl 0) dX7_ordersTaken_87 ⟨rfl, _, rfl, K⟩
  · rw [if_neg h1] at K
    refine wp_iload_n 3 dX7_ordersTaken_17 rfl rfl rfl ?_
    refine wp_iconst (v := 4) dX7_ordersTaken_18 rfl (by decide) ?_
    refine wp_icmp_ge 86 dX7_ordersTaken_19 (by decide) rfl (fun h2 => ?_) (fun h2 => ?_)
    · rw [if_pos h2] at K
      refine wp_iload_n 2 dX7_ordersTaken_86 rfl rfl rfl ?_
      exact wp_ret .int rfl rfl (Nat.le_refl 0) (Nat.le_refl 0) dX7_ordersTaken_87 ⟨rfl, _, rfl, K⟩
    · rw [if_neg h2] at K
      refine wp_aload_n 0 dX7_ordersTaken_22 rfl rfl rfl ?_
      refine wp_getR 7 3 kcX7 kfX7_15 rfl lC_147 (congrArg Prod.fst gC_147) rC_147_3 dX7_ordersTaken_23 rfl ?_
      refine wp_iload_n 3 dX7_ordersTaken_26 rfl rfl rfl ?_
      obtain ⟨k3, K⟩ := K
      refine wn_iald lC_149 gC_149 k3 dX7_ordersTaken_27 rfl ?_
      refine wp_istore [1, 2, 3, 4, 0] dX7_ordersTaken_28 rfl (by decide) rfl ?_
      show WP _ _ _ _ _ _ _ 30 [(0, .ref 147), (1, .int x1), (2, .int x2), (3, .int x3), (4, .int (σ 149 (Int32.toNatClampNeg x3)))] _ _ _
      refine wp_iload 4 dX7_ordersTaken_30 rfl rfl ?_
      refine wp_aload_n 0 dX7_ordersTaken_32 rfl rfl rfl ?_
      refine wp_getR 7 0 kcX7 kfX7_21 rfl lC_147 (congrArg Prod.fst gC_147) rC_147_0 dX7_ordersTaken_33 rfl ?_
      refine wp_getI 5 3 kcX5 kfX7_46 rfl lC_1 (congrArg Prod.fst gC_1) dX7_ordersTaken_36 rfl ?_
      refine wp_icmp_ne 45 dX7_ordersTaken_39 (by decide) rfl (fun h4 => ?_) (fun h4 => ?_)
      · rw [if_neg h4] at K
        refine wp_iload_n 1 dX7_ordersTaken_45 rfl rfl rfl ?_
        refine wp_iload 4 dX7_ordersTaken_46 rfl rfl ?_
        refine wn_callNi (As := [.int x1, .int (σ 149 (Int32.toNatClampNeg x3))]) (rest := []) kmX7_88 (by decide) rfl rfl (Nat.le_of_ble_eq_true rfl) dX7_ordersTaken_48 rfl ?_
        refine Ci.mono K (fun v6 σ5 K => ?_)
        refine wp_if_ne 68 dX7_ordersTaken_51 (by decide) rfl (fun h7 => ?_) (fun h7 => ?_)
        · rw [if_neg h7] at K
          refine wp_iconst (v := (-1)) dX7_ordersTaken_68 rfl (by decide) ?_
          exact wp_ret .int rfl rfl (Nat.le_refl 0) (Nat.le_refl 0) dX7_ordersTaken_69 ⟨rfl, _, rfl, K⟩
        · rw [if_pos h7] at K
          refine wp_aload_n 0 dX7_ordersTaken_54 rfl rfl rfl ?_
          refine wp_getR 7 2 kcX7 kfX7_9 rfl lC_147 (congrArg Prod.fst gC_147) rC_147_2 dX7_ordersTaken_55 rfl ?_
          refine wp_iload_n 3 dX7_ordersTaken_58 rfl rfl rfl ?_
          obtain ⟨k8, K⟩ := K
          refine wn_iald lC_148 gC_148 k8 dX7_ordersTaken_59 rfl ?_
          refine wp_iload 4 dX7_ordersTaken_60 rfl rfl ?_
          refine wn_callNi (As := [.int (σ5 148 (Int32.toNatClampNeg x3)), .int (σ 149 (Int32.toNatClampNeg x3))]) (rest := []) kmX7_88 (by decide) rfl rfl (Nat.le_of_ble_eq_true rfl) dX7_ordersTaken_62 rfl ?_
          refine Ci.mono K (fun v10 σ9 K => ?_)
          refine wp_if_ne 70 dX7_ordersTaken_65 (by decide) rfl (fun h11 => ?_) (fun h11 => ?_)
          · rw [if_neg h11] at K
            refine wp_iload_n 1 dX7_ordersTaken_70 rfl rfl rfl ?_
            refine wp_iconst (v := 1) dX7_ordersTaken_71 rfl (by decide) ?_
            refine wp_iload 4 dX7_ordersTaken_72 rfl rfl ?_
            refine wp_ishl dX7_ordersTaken_74 rfl ?_
            refine wp_ior dX7_ordersTaken_75 rfl ?_
            refine wp_istore_n [1, 0, 2, 3, 4] dX7_ordersTaken_76 rfl rfl (by decide) rfl ?_
            show WP _ _ _ _ _ _ _ 77 [(0, .ref 147), (1, .int (x1 ||| (1 <<< ((σ 149 (Int32.toNatClampNeg x3)) &&& 31)))), (2, .int x2), (3, .int x3), (4, .int (σ 149 (Int32.toNatClampNeg x3)))] _ _ _
            refine wp_iinc (v := x2 + 1) 2 [1, 2, 0, 3, 4] dX7_ordersTaken_77 rfl (by decide) rfl rfl rfl ?_
            show WP _ _ _ _ _ _ _ 80 [(0, .ref 147), (1, .int (x1 ||| (1 <<< ((σ 149 (Int32.toNatClampNeg x3)) &&& 31)))), (2, .int (x2 + 1)), (3, .int x3), (4, .int (σ 149 (Int32.toNatClampNeg x3)))] _ _ _
            refine wp_iinc (v := x3 + 1) 3 [1, 2, 3, 0, 4] dX7_ordersTaken_80 rfl (by decide) rfl rfl rfl ?_
            show WP _ _ _ _ _ _ _ 83 [(0, .ref 147), (1, .int (x1 ||| (1 <<< ((σ 149 (Int32.toNatClampNeg x3)) &&& 31)))), (2, .int (x2 + 1)), (3, .int (x3 + 1)), (4, .int (σ 149 (Int32.toNatClampNeg x3)))] _ _ _
            refine wp_goto 6 dX7_ordersTaken_83 (by decide) ?_
            refine wp_lv [0, 1, 2, 3] rfl ?_
            exact K
          · rw [if_pos h11] at K
            refine wp_iconst (v := (-1)) dX7_ordersTaken_68 rfl (by decide) ?_
            exact wp_ret .int rfl rfl (Nat.le_refl 0) (Nat.le_refl 0) dX7_ordersTaken_69 ⟨rfl, _, rfl, K⟩
      · rw [if_pos h4] at K
        refine wp_goto 80 dX7_ordersTaken_42 (by decide) ?_
        refine wp_iinc (v := x3 + 1) 3 [1, 2, 3, 0, 4] dX7_ordersTaken_80 rfl (by decide) rfl rfl rfl ?_
        show WP _ _ _ _ _ _ _ 83 [(0, .ref 147), (1, .int x1), (2, .int x2), (3, .int (x3 + 1)), (4, .int (σ 149 (Int32.toNatClampNeg x3)))] _ _ _
        refine wp_goto 6 dX7_ordersTaken_83 (by decide) ?_
        refine wp_lv [0, 1, 2, 3] rfl ?_
        exact K
theorem bX7_answer_0 {E : tp_E} {d : Nat} {Q : Int32 → tp_M → Prop} {σ : tp_M}   (x1 : Int32) (K : if x1 = (-1) then (Q (σ 147 5) σ) else (Ci E TC yX5_hasOrder iX5_hasOrder d [.ref 1, .int x1] σ (fun v3 σ2 => if v3 = 0 then (Q (-1000000001) σ2) else (vp_in x1 4 ∧ (Ci E TC yX5_hasWaiter iX5_hasWaiter d [.ref 1, .int (σ2 150 (Int32.toNatClampNeg x1))] σ2 (fun v7 σ6 => if v7 = 0 then (Q (-1) σ6) else (vp_in x1 4 ∧ (Q (σ6 150 (Int32.toNatClampNeg x1)) σ6)))))))) : Wi E TC iX7_answer (d + 1) Q 0 [(0, .ref 147), (1, .int x1)] [] σ := by
  refine wp_iload_n 1 dX7_answer_0 rfl rfl rfl ?_
  refine wp_iconst (v := (-1)) dX7_answer_1 rfl (by decide) ?_
  refine wp_icmp_ne 10 dX7_answer_2 (by decide) rfl (fun h1 => ?_) (fun h1 => ?_)
  · rw [if_neg h1] at K
    refine wp_aload_n 0 dX7_answer_10 rfl rfl rfl ?_
    refine wp_getR 7 0 kcX7 kfX7_21 rfl lC_147 (congrArg Prod.fst gC_147) rC_147_0 dX7_answer_11 rfl ?_
    refine wp_iload_n 1 dX7_answer_14 rfl rfl rfl ?_
    refine wn_callVi (As := [.int x1]) (rest := []) 5 kmX7_33 (by decide) rfl rfl (Nat.le_of_ble_eq_true rfl) lC_1 (congrArg Prod.fst gC_1) dX7_answer_15 rfl ?_
    refine Ci.mono K (fun v3 σ2 K => ?_)
    refine wp_if_ne 24 dX7_answer_18 (by decide) rfl (fun h4 => ?_) (fun h4 => ?_)
    · rw [if_neg h4] at K
      refine wp_aload_n 0 dX7_answer_24 rfl rfl rfl ?_
      refine wp_getR 7 0 kcX7 kfX7_21 rfl lC_147 (congrArg Prod.fst gC_147) rC_147_0 dX7_answer_25 rfl ?_
      refine wp_aload_n 0 dX7_answer_28 rfl rfl rfl ?_
      refine wp_getR 7 4 kcX7 kfX7_18 rfl lC_147 (congrArg Prod.fst gC_147) rC_147_4 dX7_answer_29 rfl ?_
      refine wp_iload_n 1 dX7_answer_32 rfl rfl rfl ?_
      obtain ⟨k5, K⟩ := K
      refine wn_iald lC_150 gC_150 k5 dX7_answer_33 rfl ?_
      refine wn_callVi (As := [.int (σ2 150 (Int32.toNatClampNeg x1))]) (rest := []) 5 kmX7_40 (by decide) rfl rfl (Nat.le_of_ble_eq_true rfl) lC_1 (congrArg Prod.fst gC_1) dX7_answer_34 rfl ?_
      refine Ci.mono K (fun v7 σ6 K => ?_)
      refine wp_if_eq 49 dX7_answer_37 (by decide) rfl (fun h8 => ?_) (fun h8 => ?_)
      · rw [if_pos h8] at K
        refine wp_iconst (v := (-1)) dX7_answer_49 rfl (by decide) ?_
        exact wp_ret .int rfl rfl (Nat.le_refl 0) (Nat.le_refl 0) dX7_answer_50 ⟨rfl, _, rfl, K⟩
      · rw [if_neg h8] at K
        refine wp_aload_n 0 dX7_answer_40 rfl rfl rfl ?_
        refine wp_getR 7 4 kcX7 kfX7_18 rfl lC_147 (congrArg Prod.fst gC_147) rC_147_4 dX7_answer_41 rfl ?_
        refine wp_iload_n 1 dX7_answer_44 rfl rfl rfl ?_
        obtain ⟨k9, K⟩ := K
        refine wn_iald lC_150 gC_150 k9 dX7_answer_45 rfl ?_
        refine wp_goto 50 dX7_answer_46 (by decide) ?_
        exact wp_ret .int rfl rfl (Nat.le_refl 0) (Nat.le_refl 0) dX7_answer_50 ⟨rfl, _, rfl, K⟩
    · rw [if_pos h4] at K
      refine wp_ldc dX7_answer_21 rfl tw_849 ?_
      exact wp_ret .int rfl rfl (Nat.le_refl 0) (Nat.le_refl 0) dX7_answer_23 ⟨rfl, _, rfl, K⟩
  · rw [if_pos h1] at K
    refine wp_aload_n 0 dX7_answer_5 rfl rfl rfl ?_
    refine wp_getI 7 5 kcX7 kfX7_29 rfl lC_147 (congrArg Prod.fst gC_147) dX7_answer_6 rfl ?_
    exact wp_ret .int rfl rfl (Nat.le_refl 0) (Nat.le_refl 0) dX7_answer_9 ⟨rfl, _, rfl, K⟩
theorem eX7_answer {E : tp_E} {d : Nat} {Q : Int32 → tp_M → Prop} {σ : tp_M}   (x1 : Int32) (K : if x1 = (-1) then (Q (σ 147 5) σ) else (Ci E TC yX5_hasOrder iX5_hasOrder d [.ref 1, .int x1] σ (fun v3 σ2 => if v3 = 0 then (Q (-1000000001) σ2) else (vp_in x1 4 ∧ (Ci E TC yX5_hasWaiter iX5_hasWaiter d [.ref 1, .int (σ2 150 (Int32.toNatClampNeg x1))] σ2 (fun v7 σ6 => if v7 = 0 then (Q (-1) σ6) else (vp_in x1 4 ∧ (Q (σ6 150 (Int32.toNatClampNeg x1)) σ6)))))))) : Ci E TC yX7_answer iX7_answer (d + 1) [.ref 147, .int x1] σ Q := Ci.of ⟨by decide +kernel, rfl, rfl⟩ (Nat.le_of_ble_eq_true rfl) (bX7_answer_0  x1 K)

theorem bX1_firstMeeting_0 {E : tp_E} {d : Nat} {Q : Int32 → tp_M → Prop} {σ : tp_M}   (x1 : Int32) (x2 : Int32) (K : Cv E TC yX1_layTracks iX1_layTracks d [.ref 141] σ (fun σ1 => Ci E TC yX1_meetingOf iX1_meetingOf d [.ref 141, .int x1, .int 0, .int x2, .int 0] σ1 (fun v3 σ2 => Q v3 σ2))) : Wi E TC iX1_firstMeeting (d + 1) Q 0 [(0, .ref 141), (1, .int x1), (2, .int x2)] [] σ := by
  refine wp_aload_n 0 dX1_firstMeeting_0 rfl rfl rfl ?_
  refine wn_callVv (As := []) (rest := []) 1 kmX1_35 (by decide) rfl rfl (Nat.le_of_ble_eq_true rfl) lC_141 (congrArg Prod.fst gC_141) dX1_firstMeeting_1 rfl ?_
  refine Cv.mono K (fun σ1 K => ?_)
  refine wp_aload_n 0 dX1_firstMeeting_4 rfl rfl rfl ?_
  refine wp_iload_n 1 dX1_firstMeeting_5 rfl rfl rfl ?_
  refine wp_iconst (v := 0) dX1_firstMeeting_6 rfl (by decide) ?_
  refine wp_iload_n 2 dX1_firstMeeting_7 rfl rfl rfl ?_
  refine wp_iconst (v := 0) dX1_firstMeeting_8 rfl (by decide) ?_
  refine wn_callVi (As := [.int x1, .int 0, .int x2, .int 0]) (rest := []) 1 kmX1_38 (by decide) rfl rfl (Nat.le_of_ble_eq_true rfl) lC_141 (congrArg Prod.fst gC_141) dX1_firstMeeting_9 rfl ?_
  refine Ci.mono K (fun v3 σ2 K => ?_)
  exact wp_ret .int rfl rfl (Nat.le_refl 0) (Nat.le_refl 0) dX1_firstMeeting_12 ⟨rfl, _, rfl, K⟩
theorem eX1_firstMeeting {E : tp_E} {d : Nat} {Q : Int32 → tp_M → Prop} {σ : tp_M}   (x1 : Int32) (x2 : Int32) (K : Cv E TC yX1_layTracks iX1_layTracks d [.ref 141] σ (fun σ1 => Ci E TC yX1_meetingOf iX1_meetingOf d [.ref 141, .int x1, .int 0, .int x2, .int 0] σ1 (fun v3 σ2 => Q v3 σ2))) : Ci E TC yX1_firstMeeting iX1_firstMeeting (d + 1) [.ref 141, .int x1, .int x2] σ Q := Ci.of ⟨by decide +kernel, rfl, rfl⟩ (Nat.le_of_ble_eq_true rfl) (bX1_firstMeeting_0  x1 x2 K)
theorem bX1_layTracks_0 {E : tp_E} {d : Nat} {Q : tp_M → Prop} {σ : tp_M}    (K : Wv E TC iX1_layTracks (d + 1) Q 2 [(0, .ref 141), (1, .int 0)] [] σ) : Wv E TC iX1_layTracks (d + 1) Q 0 [(0, .ref 141)] [] σ := by
  refine wp_iconst (v := 0) dX1_layTracks_0 rfl (by decide) ?_
  refine wp_istore_n [1, 0] dX1_layTracks_1 rfl rfl (by decide) rfl ?_
  show WP _ _ _ _ _ _ _ 2 [(0, .ref 141), (1, .int 0)] _ _ _
  exact K
theorem eX1_layTracks {E : tp_E} {d : Nat} {Q : tp_M → Prop} {σ : tp_M}    (K : Wv E TC iX1_layTracks (d + 1) Q 2 [(0, .ref 141), (1, .int 0)] [] σ) : Cv E TC yX1_layTracks iX1_layTracks (d + 1) [.ref 141] σ Q := Cv.of ⟨by decide +kernel, rfl, rfl⟩ (Nat.le_of_ble_eq_true rfl) (bX1_layTracks_0   K)
theorem bX1_layTracks_2 {E : tp_E} {d : Nat} {Q : tp_M → Prop} {σ : tp_M}   (x1 : Int32) (K : if 4 ≤ x1 then (Q σ) else (Ci E TC yX8_routeOf iX8_routeOf d [.ref 9, .int x1] σ (fun v3 σ2 => Ci E TC yX9_stepsOf iX9_stepsOf d [.int v3] σ2 (fun v5 σ4 => vp_in x1 4 ∧ (Wv E TC iX1_layTracks (d + 1) Q 26 [(0, .ref 141), (1, .int x1), (2, .int 0)] [] (tp_u σ4 143 (Int32.toNatClampNeg x1) v5)))))) : Wv E TC iX1_layTracks (d + 1) Q 2 [(0, .ref 141), (1, .int x1)] [] σ := by
  refine wp_iload_n 1 dX1_layTracks_2 rfl rfl rfl ?_
  refine wp_iconst (v := 4) dX1_layTracks_3 rfl (by decide) ?_
  refine wp_icmp_ge 64 dX1_layTracks_4 (by decide) rfl (fun h1 => ?_) (fun h1 => ?_)
  · rw [if_pos h1] at K
    exact wp_vret rfl (Nat.le_refl 0) (Nat.le_refl 0) dX1_layTracks_64 ⟨rfl, rfl, K⟩
  · rw [if_neg h1] at K
    refine wp_aload_n 0 dX1_layTracks_7 rfl rfl rfl ?_
    refine wp_getR 1 3 kcX1 kfX1_15 rfl lC_141 (congrArg Prod.fst gC_141) rC_141_3 dX1_layTracks_8 rfl ?_
    refine wp_iload_n 1 dX1_layTracks_11 rfl rfl rfl ?_
    refine wp_aload_n 0 dX1_layTracks_12 rfl rfl rfl ?_
    refine wp_getR 1 1 kcX1 kfX1_31 rfl lC_141 (congrArg Prod.fst gC_141) rC_141_1 dX1_layTracks_13 rfl ?_
    refine wp_iload_n 1 dX1_layTracks_16 rfl rfl rfl ?_
    refine wn_callVi (As := [.int x1]) (rest := [.int x1, .ref 143]) 8 kmX1_81 (by decide) rfl rfl (Nat.le_of_ble_eq_true rfl) lC_9 (congrArg Prod.fst gC_9) dX1_layTracks_17 rfl ?_
    refine Ci.mono K (fun v3 σ2 K => ?_)
    refine wn_callNi (As := [.int v3]) (rest := [.int x1, .ref 143]) kmX1_87 (by decide) rfl rfl (Nat.le_of_ble_eq_true rfl) dX1_layTracks_20 rfl ?_
    refine Ci.mono K (fun v5 σ4 K => ?_)
    obtain ⟨k6, K⟩ := K
    refine wn_iast lC_143 gC_143 k6 dX1_layTracks_23 rfl ?_
    refine wp_iconst (v := 0) dX1_layTracks_24 rfl (by decide) ?_
    refine wp_istore_n [1, 2, 0] dX1_layTracks_25 rfl rfl (by decide) rfl ?_
    show WP _ _ _ _ _ _ _ 26 [(0, .ref 141), (1, .int x1), (2, .int 0)] _ _ _
    exact K
theorem bX1_layTracks_26 {E : tp_E} {d : Nat} {Q : tp_M → Prop} {σ : tp_M}   (x1 : Int32) (x2 : Int32) (K : if 20 < x2 then (Wv E TC iX1_layTracks (d + 1) Q 2 [(0, .ref 141), (1, .int (x1 + 1))] [] σ) else (Ci E TC yX8_roomAfter iX8_roomAfter d [.ref 9, .int x1, .int x2] σ (fun v3 σ2 => vp_in ((x1 * 21) + x2) 84 ∧ (Wv E TC iX1_layTracks (d + 1) Q 26 [(0, .ref 141), (1, .int x1), (2, .int (x2 + 1))] [] (tp_u σ2 142 (Int32.toNatClampNeg ((x1 * 21) + x2)) v3))))) : Wv E TC iX1_layTracks (d + 1) Q 26 [(0, .ref 141), (1, .int x1), (2, .int x2)] [] σ := by
  refine wp_iload_n 2 dX1_layTracks_26 rfl rfl rfl ?_
  refine wp_bipush (v := 20) dX1_layTracks_27 rfl (by decide) ?_
  refine wp_icmp_gt 58 dX1_layTracks_29 (by decide) rfl (fun h1 => ?_) (fun h1 => ?_)
  · rw [if_pos h1] at K
    refine wp_iinc (v := x1 + 1) 1 [1, 0, 2] dX1_layTracks_58 rfl (by decide) rfl rfl rfl ?_
    show WP _ _ _ _ _ _ _ 61 [(0, .ref 141), (1, .int (x1 + 1)), (2, .int x2)] _ _ _
    refine wp_goto 2 dX1_layTracks_61 (by decide) ?_
    refine wp_lv [0, 1] rfl ?_
    exact K
  · rw [if_neg h1] at K
    refine wp_aload_n 0 dX1_layTracks_32 rfl rfl rfl ?_
    refine wp_getR 1 2 kcX1 kfX1_9 rfl lC_141 (congrArg Prod.fst gC_141) rC_141_2 dX1_layTracks_33 rfl ?_
    refine wp_iload_n 1 dX1_layTracks_36 rfl rfl rfl ?_
    refine wp_bipush (v := 21) dX1_layTracks_37 rfl (by decide) ?_
    refine wp_imul dX1_layTracks_39 rfl ?_
    refine wp_iload_n 2 dX1_layTracks_40 rfl rfl rfl ?_
    refine wp_iadd dX1_layTracks_41 rfl ?_
    refine wp_aload_n 0 dX1_layTracks_42 rfl rfl rfl ?_
    refine wp_getR 1 1 kcX1 kfX1_31 rfl lC_141 (congrArg Prod.fst gC_141) rC_141_1 dX1_layTracks_43 rfl ?_
    refine wp_iload_n 1 dX1_layTracks_46 rfl rfl rfl ?_
    refine wp_iload_n 2 dX1_layTracks_47 rfl rfl rfl ?_
    refine wn_callVi (As := [.int x1, .int x2]) (rest := [.int ((x1 * 21) + x2), .ref 142]) 8 kmX1_90 (by decide) rfl rfl (Nat.le_of_ble_eq_true rfl) lC_9 (congrArg Prod.fst gC_9) dX1_layTracks_48 rfl ?_
    refine Ci.mono K (fun v3 σ2 K => ?_)
    obtain ⟨k4, K⟩ := K
    refine wn_iast lC_142 gC_142 k4 dX1_layTracks_51 rfl ?_
    refine wp_iinc (v := x2 + 1) 2 [1, 2, 0] dX1_layTracks_52 rfl (by decide) rfl rfl rfl ?_
    show WP _ _ _ _ _ _ _ 55 [(0, .ref 141), (1, .int x1), (2, .int (x2 + 1))] _ _ _
    refine wp_goto 26 dX1_layTracks_55 (by decide) ?_
    exact K
theorem bX1_meetingOf_0 {E : tp_E} {d : Nat} {Q : Int32 → tp_M → Prop} {σ : tp_M}   (x1 : Int32) (x2 : Int32) (x3 : Int32) (x4 : Int32) (K : Wi E TC iX1_meetingOf (d + 1) Q 3 [(0, .ref 141), (1, .int x1), (2, .int x2), (3, .int x3), (4, .int x4), (5, .int 1)] [] σ) : Wi E TC iX1_meetingOf (d + 1) Q 0 [(0, .ref 141), (1, .int x1), (2, .int x2), (3, .int x3), (4, .int x4)] [] σ := by
  refine wp_iconst (v := 1) dX1_meetingOf_0 rfl (by decide) ?_
  refine wp_istore [1, 2, 3, 4, 5, 0] dX1_meetingOf_1 rfl (by decide) rfl ?_
  show WP _ _ _ _ _ _ _ 3 [(0, .ref 141), (1, .int x1), (2, .int x2), (3, .int x3), (4, .int x4), (5, .int 1)] _ _ _
  exact K
theorem eX1_meetingOf {E : tp_E} {d : Nat} {Q : Int32 → tp_M → Prop} {σ : tp_M}   (x1 : Int32) (x2 : Int32) (x3 : Int32) (x4 : Int32) (K : Wi E TC iX1_meetingOf (d + 1) Q 3 [(0, .ref 141), (1, .int x1), (2, .int x2), (3, .int x3), (4, .int x4), (5, .int 1)] [] σ) : Ci E TC yX1_meetingOf iX1_meetingOf (d + 1) [.ref 141, .int x1, .int x2, .int x3, .int x4] σ Q := Ci.of ⟨by decide +kernel, rfl, rfl⟩ (Nat.le_of_ble_eq_true rfl) (bX1_meetingOf_0  x1 x2 x3 x4 K)
theorem bX1_meetingOf_3 {E : tp_E} {d : Nat} {Q : Int32 → tp_M → Prop} {σ : tp_M}   (x1 : Int32) (x2 : Int32) (x3 : Int32) (x4 : Int32) (x5 : Int32) (K : if 20 < x5 then (Q (-1) σ) else (Ci E TC yX1_trackAt iX1_trackAt d [.ref 141, .int x1, .int ((x5 - 1) - x2)] σ (fun v3 σ2 => Ci E TC yX1_trackAt iX1_trackAt d [.ref 141, .int x3, .int ((x5 - 1) - x4)] σ2 (fun v5 σ4 => Ci E TC yX1_trackAt iX1_trackAt d [.ref 141, .int x1, .int (x5 - x2)] σ4 (fun v7 σ6 => Ci E TC yX1_trackAt iX1_trackAt d [.ref 141, .int x3, .int (x5 - x4)] σ6 (fun v9 σ8 => Ci E TC yX0_meetBetween iX0_meetBetween d [.int v3, .int v7, .int v5, .int v9] σ8 (fun v11 σ10 => if v11 = 0 then (Wi E TC iX1_meetingOf (d + 1) Q 3 [(0, .ref 141), (1, .int x1), (2, .int x2), (3, .int x3), (4, .int x4), (5, .int (x5 + 1))] [] σ10) else (Q x5 σ10)))))))) : Wi E TC iX1_meetingOf (d + 1) Q 3 [(0, .ref 141), (1, .int x1), (2, .int x2), (3, .int x3), (4, .int x4), (5, .int x5)] [] σ := by
  refine wp_iload 5 dX1_meetingOf_3 rfl rfl ?_
  refine wp_bipush (v := 20) dX1_meetingOf_5 rfl (by decide) ?_
  refine wp_icmp_gt 75 dX1_meetingOf_7 (by decide) rfl (fun h1 => ?_) (fun h1 => ?_)
  · rw [if_pos h1] at K
    refine wp_iconst (v := (-1)) dX1_meetingOf_75 rfl (by decide) ?_
    exact wp_ret .int rfl rfl (Nat.le_refl 0) (Nat.le_refl 0) dX1_meetingOf_76 ⟨rfl, _, rfl, K⟩
  · rw [if_neg h1] at K
    refine wp_aload_n 0 dX1_meetingOf_10 rfl rfl rfl ?_
    refine wp_iload_n 1 dX1_meetingOf_11 rfl rfl rfl ?_
    refine wp_iload 5 dX1_meetingOf_12 rfl rfl ?_
    refine wp_iconst (v := 1) dX1_meetingOf_14 rfl (by decide) ?_
    refine wp_isub dX1_meetingOf_15 rfl ?_
    refine wp_iload_n 2 dX1_meetingOf_16 rfl rfl rfl ?_
    refine wp_isub dX1_meetingOf_17 rfl ?_
    refine wn_callVi (As := [.int x1, .int ((x5 - 1) - x2)]) (rest := []) 1 kmX1_98 (by decide) rfl rfl (Nat.le_of_ble_eq_true rfl) lC_141 (congrArg Prod.fst gC_141) dX1_meetingOf_18 rfl ?_
    refine Ci.mono K (fun v3 σ2 K => ?_)
    refine wp_istore [1, 2, 3, 4, 5, 6, 0] dX1_meetingOf_21 rfl (by decide) rfl ?_
    show WP _ _ _ _ _ _ _ 23 [(0, .ref 141), (1, .int x1), (2, .int x2), (3, .int x3), (4, .int x4), (5, .int x5), (6, .int v3)] _ _ _
    refine wp_aload_n 0 dX1_meetingOf_23 rfl rfl rfl ?_
    refine wp_iload_n 3 dX1_meetingOf_24 rfl rfl rfl ?_
    refine wp_iload 5 dX1_meetingOf_25 rfl rfl ?_
    refine wp_iconst (v := 1) dX1_meetingOf_27 rfl (by decide) ?_
    refine wp_isub dX1_meetingOf_28 rfl ?_
    refine wp_iload 4 dX1_meetingOf_29 rfl rfl ?_
    refine wp_isub dX1_meetingOf_31 rfl ?_
    refine wn_callVi (As := [.int x3, .int ((x5 - 1) - x4)]) (rest := []) 1 kmX1_98 (by decide) rfl rfl (Nat.le_of_ble_eq_true rfl) lC_141 (congrArg Prod.fst gC_141) dX1_meetingOf_32 rfl ?_
    refine Ci.mono K (fun v5 σ4 K => ?_)
    refine wp_istore [1, 2, 3, 4, 5, 6, 7, 0] dX1_meetingOf_35 rfl (by decide) rfl ?_
    show WP _ _ _ _ _ _ _ 37 [(0, .ref 141), (1, .int x1), (2, .int x2), (3, .int x3), (4, .int x4), (5, .int x5), (6, .int v3), (7, .int v5)] _ _ _
    refine wp_iload 6 dX1_meetingOf_37 rfl rfl ?_
    refine wp_aload_n 0 dX1_meetingOf_39 rfl rfl rfl ?_
    refine wp_iload_n 1 dX1_meetingOf_40 rfl rfl rfl ?_
    refine wp_iload 5 dX1_meetingOf_41 rfl rfl ?_
    refine wp_iload_n 2 dX1_meetingOf_43 rfl rfl rfl ?_
    refine wp_isub dX1_meetingOf_44 rfl ?_
    refine wn_callVi (As := [.int x1, .int (x5 - x2)]) (rest := [.int v3]) 1 kmX1_98 (by decide) rfl rfl (Nat.le_of_ble_eq_true rfl) lC_141 (congrArg Prod.fst gC_141) dX1_meetingOf_45 rfl ?_
    refine Ci.mono K (fun v7 σ6 K => ?_)
    refine wp_iload 7 dX1_meetingOf_48 rfl rfl ?_
    refine wp_aload_n 0 dX1_meetingOf_50 rfl rfl rfl ?_
    refine wp_iload_n 3 dX1_meetingOf_51 rfl rfl rfl ?_
    refine wp_iload 5 dX1_meetingOf_52 rfl rfl ?_
    refine wp_iload 4 dX1_meetingOf_54 rfl rfl ?_
    refine wp_isub dX1_meetingOf_56 rfl ?_
    refine wn_callVi (As := [.int x3, .int (x5 - x4)]) (rest := [.int v5, .int v7, .int v3]) 1 kmX1_98 (by decide) rfl rfl (Nat.le_of_ble_eq_true rfl) lC_141 (congrArg Prod.fst gC_141) dX1_meetingOf_57 rfl ?_
    refine Ci.mono K (fun v9 σ8 K => ?_)
    refine wn_callSi (As := [.int v3, .int v7, .int v5, .int v9]) (rest := []) kmX1_101 (by decide) rfl rfl (Nat.le_of_ble_eq_true rfl) dX1_meetingOf_60 rfl ?_
    refine Ci.mono K (fun v11 σ10 K => ?_)
    refine wp_if_eq 69 dX1_meetingOf_63 (by decide) rfl (fun h12 => ?_) (fun h12 => ?_)
    · rw [if_pos h12] at K
      refine wp_iinc (v := x5 + 1) 5 [1, 2, 3, 4, 5, 0, 6, 7] dX1_meetingOf_69 rfl (by decide) rfl rfl rfl ?_
      show WP _ _ _ _ _ _ _ 72 [(0, .ref 141), (1, .int x1), (2, .int x2), (3, .int x3), (4, .int x4), (5, .int (x5 + 1)), (6, .int v3), (7, .int v5)] _ _ _
      refine wp_goto 3 dX1_meetingOf_72 (by decide) ?_
      refine wp_lv [0, 1, 2, 3, 4, 5] rfl ?_
      exact K
    · rw [if_neg h12] at K
      refine wp_iload 5 dX1_meetingOf_66 rfl rfl ?_
      exact wp_ret .int rfl rfl (Nat.le_refl 0) (Nat.le_refl 0) dX1_meetingOf_68 ⟨rfl, _, rfl, K⟩
theorem bX1_trackAt_0 {E : tp_E} {d : Nat} {Q : Int32 → tp_M → Prop} {σ : tp_M}   (x1 : Int32) (x2 : Int32) (K : Ci E TC yX5_hasWaiter iX5_hasWaiter d [.ref 1, .int x1] σ (fun v2 σ1 => if v2 = 0 then (Q (-1) σ1) else (if x2 ≤ 20 then (vp_in ((x1 * 21) + (if x2 < 0 then 0 else x2)) 84 ∧ (Q (σ1 142 (Int32.toNatClampNeg ((x1 * 21) + (if x2 < 0 then 0 else x2)))) σ1)) else (Q (-1) σ1)))) : Wi E TC iX1_trackAt (d + 1) Q 0 [(0, .ref 141), (1, .int x1), (2, .int x2)] [] σ := by
  refine wp_aload_n 0 dX1_trackAt_0 rfl rfl rfl ?_
  refine wp_getR 1 0 kcX1 kfX1_27 rfl lC_141 (congrArg Prod.fst gC_141) rC_141_0 dX1_trackAt_1 rfl ?_
  refine wp_iload_n 1 dX1_trackAt_4 rfl rfl rfl ?_
  refine wn_callVi (As := [.int x1]) (rest := []) 5 kmX1_46 (by decide) rfl rfl (Nat.le_of_ble_eq_true rfl) lC_1 (congrArg Prod.fst gC_1) dX1_trackAt_5 rfl ?_
  refine Ci.mono K (fun v2 σ1 K => ?_)
  refine wp_if_eq 17 dX1_trackAt_8 (by decide) rfl (fun h3 => ?_) (fun h3 => ?_)
  · rw [if_pos h3] at K
    refine wp_iconst (v := (-1)) dX1_trackAt_17 rfl (by decide) ?_
    exact wp_ret .int rfl rfl (Nat.le_refl 0) (Nat.le_refl 0) dX1_trackAt_18 ⟨rfl, _, rfl, K⟩
  · rw [if_neg h3] at K
    refine wp_iload_n 2 dX1_trackAt_11 rfl rfl rfl ?_
    refine wp_bipush (v := 20) dX1_trackAt_12 rfl (by decide) ?_
    refine wp_icmp_le 19 dX1_trackAt_14 (by decide) rfl (fun h4 => ?_) (fun h4 => ?_)
    · rw [if_pos h4] at K
      refine wp_aload_n 0 dX1_trackAt_19 rfl rfl rfl ?_
      refine wp_getR 1 2 kcX1 kfX1_9 rfl lC_141 (congrArg Prod.fst gC_141) rC_141_2 dX1_trackAt_20 rfl ?_
      refine wp_iload_n 1 dX1_trackAt_23 rfl rfl rfl ?_
      refine wp_bipush (v := 21) dX1_trackAt_24 rfl (by decide) ?_
      refine wp_imul dX1_trackAt_26 rfl ?_
      refine wp_iload_n 2 dX1_trackAt_27 rfl rfl rfl ?_
      refine wp_iconst (v := 0) dX1_trackAt_28 rfl (by decide) ?_
      refine wn_max tw_758 tw_759 tw_51 tw_760 (Nat.le_of_ble_eq_true rfl) dX1_trackAt_29 rfl ?_
      refine wp_iadd dX1_trackAt_32 rfl ?_
      obtain ⟨k5, K⟩ := K
      refine wn_iald lC_142 gC_142 k5 dX1_trackAt_33 rfl ?_
      exact wp_ret .int rfl rfl (Nat.le_refl 0) (Nat.le_refl 0) dX1_trackAt_34 ⟨rfl, _, rfl, K⟩
    · rw [if_neg h4] at K
      refine wp_iconst (v := (-1)) dX1_trackAt_17 rfl (by decide) ?_
      exact wp_ret .int rfl rfl (Nat.le_refl 0) (Nat.le_refl 0) dX1_trackAt_18 ⟨rfl, _, rfl, K⟩
theorem eX1_trackAt {E : tp_E} {d : Nat} {Q : Int32 → tp_M → Prop} {σ : tp_M}   (x1 : Int32) (x2 : Int32) (K : Ci E TC yX5_hasWaiter iX5_hasWaiter d [.ref 1, .int x1] σ (fun v2 σ1 => if v2 = 0 then (Q (-1) σ1) else (if x2 ≤ 20 then (vp_in ((x1 * 21) + (if x2 < 0 then 0 else x2)) 84 ∧ (Q (σ1 142 (Int32.toNatClampNeg ((x1 * 21) + (if x2 < 0 then 0 else x2)))) σ1)) else (Q (-1) σ1)))) : Ci E TC yX1_trackAt iX1_trackAt (d + 1) [.ref 141, .int x1, .int x2] σ Q := Ci.of ⟨by decide +kernel, rfl, rfl⟩ (Nat.le_of_ble_eq_true rfl) (bX1_trackAt_0  x1 x2 K)
theorem bX1_seek_0 {E : tp_E} {d : Nat} {Q : tp_M → Prop} {σ : tp_M}    (K : Cv E TC yX1_layTracks iX1_layTracks d [.ref 141] σ (fun σ1 => Cv E TC yX1_markClashes iX1_markClashes d [.ref 141] σ1 (fun σ2 => Ci E TC yX9_power iX9_power d [.int 5, .int ((tp_u σ2 141 7 (-1)) 1 3)] (tp_u σ2 141 7 (-1)) (fun v4 σ3 => Wv E TC iX1_seek (d + 1) Q 27 [(0, .ref 141), (1, .int v4), (2, .int 0)] [] σ3)))) : Wv E TC iX1_seek (d + 1) Q 0 [(0, .ref 141)] [] σ := by
  refine wp_aload_n 0 dX1_seek_0 rfl rfl rfl ?_
  refine wn_callVv (As := []) (rest := []) 1 kmX1_35 (by decide) rfl rfl (Nat.le_of_ble_eq_true rfl) lC_141 (congrArg Prod.fst gC_141) dX1_seek_1 rfl ?_
  refine Cv.mono K (fun σ1 K => ?_)
  refine wp_aload_n 0 dX1_seek_4 rfl rfl rfl ?_
  refine wn_callVv (As := []) (rest := []) 1 kmX1_53 (by decide) rfl rfl (Nat.le_of_ble_eq_true rfl) lC_141 (congrArg Prod.fst gC_141) dX1_seek_5 rfl ?_
  refine Cv.mono K (fun σ2 K => ?_)
  refine wp_aload_n 0 dX1_seek_8 rfl rfl rfl ?_
  refine wp_iconst (v := (-1)) dX1_seek_9 rfl (by decide) ?_
  refine wp_putI 1 7 kcX1 kfX1_42 rfl rfl rfl rfl lC_141 (congrArg Prod.fst gC_141) dX1_seek_10 rfl ?_
  refine wp_iconst (v := 5) dX1_seek_13 rfl (by decide) ?_
  refine wp_aload_n 0 dX1_seek_14 rfl rfl rfl ?_
  refine wp_getR 1 0 kcX1 kfX1_27 rfl lC_141 (congrArg Prod.fst gC_141) rC_141_0 dX1_seek_15 rfl ?_
  refine wp_getI 5 3 kcX5 kfX1_56 rfl lC_1 (congrArg Prod.fst gC_1) dX1_seek_18 rfl ?_
  refine wn_callNi (As := [.int 5, .int ((tp_u σ2 141 7 (-1)) 1 3)]) (rest := []) kmX1_59 (by decide) rfl rfl (Nat.le_of_ble_eq_true rfl) dX1_seek_21 rfl ?_
  refine Ci.mono K (fun v4 σ3 K => ?_)
  refine wp_istore_n [1, 0] dX1_seek_24 rfl rfl (by decide) rfl ?_
  show WP _ _ _ _ _ _ _ 25 [(0, .ref 141), (1, .int v4)] _ _ _
  refine wp_iconst (v := 0) dX1_seek_25 rfl (by decide) ?_
  refine wp_istore_n [1, 2, 0] dX1_seek_26 rfl rfl (by decide) rfl ?_
  show WP _ _ _ _ _ _ _ 27 [(0, .ref 141), (1, .int v4), (2, .int 0)] _ _ _
  exact K
theorem eX1_seek {E : tp_E} {d : Nat} {Q : tp_M → Prop} {σ : tp_M}    (K : Cv E TC yX1_layTracks iX1_layTracks d [.ref 141] σ (fun σ1 => Cv E TC yX1_markClashes iX1_markClashes d [.ref 141] σ1 (fun σ2 => Ci E TC yX9_power iX9_power d [.int 5, .int ((tp_u σ2 141 7 (-1)) 1 3)] (tp_u σ2 141 7 (-1)) (fun v4 σ3 => Wv E TC iX1_seek (d + 1) Q 27 [(0, .ref 141), (1, .int v4), (2, .int 0)] [] σ3)))) : Cv E TC yX1_seek iX1_seek (d + 1) [.ref 141] σ Q := Cv.of ⟨by decide +kernel, rfl, rfl⟩ (Nat.le_of_ble_eq_true rfl) (bX1_seek_0   K)
theorem bX1_seek_27 {E : tp_E} {d : Nat} {Q : tp_M → Prop} {σ : tp_M}   (x1 : Int32) (x2 : Int32) (K : if x1 ≤ x2 then (Q σ) else (Cv E TC yX9_spell iX9_spell d [.int x2, .int 5, .ref 145, .int (σ 1 3)] σ (fun σ2 => Ci E TC yX1_endOfAll iX1_endOfAll d [.ref 141] σ2 (fun v4 σ3 => if (σ3 141 7) = (-1) then (Wv E TC iX1_seek (d + 1) Q 69 [(0, .ref 141), (1, .int x1), (2, .int x2), (3, .int v4)] [] σ3) else (if (σ3 141 7) ≤ v4 then (Wv E TC iX1_seek (d + 1) Q 27 [(0, .ref 141), (1, .int x1), (2, .int (x2 + 1))] [] σ3) else (Wv E TC iX1_seek (d + 1) Q 69 [(0, .ref 141), (1, .int x1), (2, .int x2), (3, .int v4)] [] σ3)))))) : Wv E TC iX1_seek (d + 1) Q 27 [(0, .ref 141), (1, .int x1), (2, .int x2)] [] σ := by
  refine wp_iload_n 2 dX1_seek_27 rfl rfl rfl ?_
  refine wp_iload_n 1 dX1_seek_28 rfl rfl rfl ?_
  refine wp_icmp_ge 101 dX1_seek_29 (by decide) rfl (fun h1 => ?_) (fun h1 => ?_)
  · rw [if_pos h1] at K
    exact wp_vret rfl (Nat.le_refl 0) (Nat.le_refl 0) dX1_seek_101 ⟨rfl, rfl, K⟩
  · rw [if_neg h1] at K
    refine wp_iload_n 2 dX1_seek_32 rfl rfl rfl ?_
    refine wp_iconst (v := 5) dX1_seek_33 rfl (by decide) ?_
    refine wp_aload_n 0 dX1_seek_34 rfl rfl rfl ?_
    refine wp_getR 1 5 kcX1 kfX1_21 rfl lC_141 (congrArg Prod.fst gC_141) rC_141_5 dX1_seek_35 rfl ?_
    refine wp_aload_n 0 dX1_seek_38 rfl rfl rfl ?_
    refine wp_getR 1 0 kcX1 kfX1_27 rfl lC_141 (congrArg Prod.fst gC_141) rC_141_0 dX1_seek_39 rfl ?_
    refine wp_getI 5 3 kcX5 kfX1_56 rfl lC_1 (congrArg Prod.fst gC_1) dX1_seek_42 rfl ?_
    refine wn_callNv (As := [.int x2, .int 5, .ref 145, .int (σ 1 3)]) (rest := []) kmX1_63 (by decide) rfl rfl (Nat.le_of_ble_eq_true rfl) dX1_seek_45 rfl ?_
    refine Cv.mono K (fun σ2 K => ?_)
    refine wp_aload_n 0 dX1_seek_48 rfl rfl rfl ?_
    refine wn_callVi (As := []) (rest := []) 1 kmX1_67 (by decide) rfl rfl (Nat.le_of_ble_eq_true rfl) lC_141 (congrArg Prod.fst gC_141) dX1_seek_49 rfl ?_
    refine Ci.mono K (fun v4 σ3 K => ?_)
    refine wp_istore_n [1, 2, 3, 0] dX1_seek_52 rfl rfl (by decide) rfl ?_
    show WP _ _ _ _ _ _ _ 53 [(0, .ref 141), (1, .int x1), (2, .int x2), (3, .int v4)] _ _ _
    refine wp_aload_n 0 dX1_seek_53 rfl rfl rfl ?_
    refine wp_getI 1 7 kcX1 kfX1_42 rfl lC_141 (congrArg Prod.fst gC_141) dX1_seek_54 rfl ?_
    refine wp_iconst (v := (-1)) dX1_seek_57 rfl (by decide) ?_
    refine wp_icmp_eq 69 dX1_seek_58 (by decide) rfl (fun h5 => ?_) (fun h5 => ?_)
    · rw [if_pos h5] at K
      exact K
    · rw [if_neg h5] at K
      refine wp_iload_n 3 dX1_seek_61 rfl rfl rfl ?_
      refine wp_aload_n 0 dX1_seek_62 rfl rfl rfl ?_
      refine wp_getI 1 7 kcX1 kfX1_42 rfl lC_141 (congrArg Prod.fst gC_141) dX1_seek_63 rfl ?_
      refine wp_icmp_ge 95 dX1_seek_66 (by decide) rfl (fun h6 => ?_) (fun h6 => ?_)
      · rw [if_pos h6] at K
        refine wp_iinc (v := x2 + 1) 2 [1, 2, 0, 3] dX1_seek_95 rfl (by decide) rfl rfl rfl ?_
        show WP _ _ _ _ _ _ _ 98 [(0, .ref 141), (1, .int x1), (2, .int (x2 + 1)), (3, .int v4)] _ _ _
        refine wp_goto 27 dX1_seek_98 (by decide) ?_
        refine wp_lv [0, 1, 2] rfl ?_
        exact K
      · rw [if_neg h6] at K
        exact K
theorem bX1_seek_69 {E : tp_E} {d : Nat} {Q : tp_M → Prop} {σ : tp_M}   (x1 : Int32) (x2 : Int32) (x3 : Int32) (K : Ci E TC yX1_haveClash iX1_haveClash d [.ref 141] σ (fun v2 σ1 => if v2 = 0 then (Wv E TC iX1_seek (d + 1) Q 27 [(0, .ref 141), (1, .int x1), (2, .int (x2 + 1))] [] (tp_cp (tp_u σ1 141 7 x3) 145 146 (Int32.toNatClampNeg 0) (Int32.toNatClampNeg 0) (Int32.toNatClampNeg 4))) else (Wv E TC iX1_seek (d + 1) Q 27 [(0, .ref 141), (1, .int x1), (2, .int (x2 + 1))] [] σ1))) : Wv E TC iX1_seek (d + 1) Q 69 [(0, .ref 141), (1, .int x1), (2, .int x2), (3, .int x3)] [] σ := by
  refine wp_aload_n 0 dX1_seek_69 rfl rfl rfl ?_
  refine wn_callVi (As := []) (rest := []) 1 kmX1_71 (by decide) rfl rfl (Nat.le_of_ble_eq_true rfl) lC_141 (congrArg Prod.fst gC_141) dX1_seek_70 rfl ?_
  refine Ci.mono K (fun v2 σ1 K => ?_)
  refine wp_if_ne 95 dX1_seek_73 (by decide) rfl (fun h3 => ?_) (fun h3 => ?_)
  · rw [if_neg h3] at K
    refine wp_iinc (v := x2 + 1) 2 [1, 2, 0, 3] dX1_seek_95 rfl (by decide) rfl rfl rfl ?_
    show WP _ _ _ _ _ _ _ 98 [(0, .ref 141), (1, .int x1), (2, .int (x2 + 1)), (3, .int x3)] _ _ _
    refine wp_goto 27 dX1_seek_98 (by decide) ?_
    refine wp_lv [0, 1, 2] rfl ?_
    exact K
  · rw [if_pos h3] at K
    refine wp_aload_n 0 dX1_seek_76 rfl rfl rfl ?_
    refine wp_iload_n 3 dX1_seek_77 rfl rfl rfl ?_
    refine wp_putI 1 7 kcX1 kfX1_42 rfl rfl rfl rfl lC_141 (congrArg Prod.fst gC_141) dX1_seek_78 rfl ?_
    refine wp_aload_n 0 dX1_seek_81 rfl rfl rfl ?_
    refine wp_getR 1 5 kcX1 kfX1_21 rfl lC_141 (congrArg Prod.fst gC_141) rC_141_5 dX1_seek_82 rfl ?_
    refine wp_iconst (v := 0) dX1_seek_85 rfl (by decide) ?_
    refine wp_aload_n 0 dX1_seek_86 rfl rfl rfl ?_
    refine wp_getR 1 6 kcX1 kfX1_24 rfl lC_141 (congrArg Prod.fst gC_141) rC_141_6 dX1_seek_87 rfl ?_
    refine wp_iconst (v := 0) dX1_seek_90 rfl (by decide) ?_
    refine wp_iconst (v := 4) dX1_seek_91 rfl (by decide) ?_
    refine wn_copy tw_812 tw_473 tw_472 tw_50 (Nat.le_of_ble_eq_true rfl) lC_145 (congrArg Prod.fst gC_145) lC_146 (congrArg Prod.fst gC_146) (by decide) (by decide) (by decide) (by rw [gC_145]; decide) (by rw [gC_146]; decide) dX1_seek_92 rfl ?_
    refine wp_iinc (v := x2 + 1) 2 [1, 2, 0, 3] dX1_seek_95 rfl (by decide) rfl rfl rfl ?_
    show WP _ _ _ _ _ _ _ 98 [(0, .ref 141), (1, .int x1), (2, .int (x2 + 1)), (3, .int x3)] _ _ _
    refine wp_goto 27 dX1_seek_98 (by decide) ?_
    refine wp_lv [0, 1, 2] rfl ?_
    exact K
theorem bX1_markClashes_0 {E : tp_E} {d : Nat} {Q : tp_M → Prop} {σ : tp_M}    (K : Wv E TC iX1_markClashes (d + 1) Q 2 [(0, .ref 141), (1, .int 0)] [] σ) : Wv E TC iX1_markClashes (d + 1) Q 0 [(0, .ref 141)] [] σ := by
  refine wp_iconst (v := 0) dX1_markClashes_0 rfl (by decide) ?_
  refine wp_istore_n [1, 0] dX1_markClashes_1 rfl rfl (by decide) rfl ?_
  show WP _ _ _ _ _ _ _ 2 [(0, .ref 141), (1, .int 0)] _ _ _
  exact K
theorem eX1_markClashes {E : tp_E} {d : Nat} {Q : tp_M → Prop} {σ : tp_M}    (K : Wv E TC iX1_markClashes (d + 1) Q 2 [(0, .ref 141), (1, .int 0)] [] σ) : Cv E TC yX1_markClashes iX1_markClashes (d + 1) [.ref 141] σ Q := Cv.of ⟨by decide +kernel, rfl, rfl⟩ (Nat.le_of_ble_eq_true rfl) (bX1_markClashes_0   K)
theorem bX1_markClashes_2 {E : tp_E} {d : Nat} {Q : tp_M → Prop} {σ : tp_M}   (x1 : Int32) (K : if (σ 1 3) ≤ x1 then (Q σ) else (Wv E TC iX1_markClashes (d + 1) Q 17 [(0, .ref 141), (1, .int x1), (2, .int (x1 + 1))] [] σ)) : Wv E TC iX1_markClashes (d + 1) Q 2 [(0, .ref 141), (1, .int x1)] [] σ := by
  refine wp_iload_n 1 dX1_markClashes_2 rfl rfl rfl ?_
  refine wp_aload_n 0 dX1_markClashes_3 rfl rfl rfl ?_
  refine wp_getR 1 0 kcX1 kfX1_27 rfl lC_141 (congrArg Prod.fst gC_141) rC_141_0 dX1_markClashes_4 rfl ?_
  refine wp_getI 5 3 kcX5 kfX1_56 rfl lC_1 (congrArg Prod.fst gC_1) dX1_markClashes_7 rfl ?_
  refine wp_icmp_ge 46 dX1_markClashes_10 (by decide) rfl (fun h1 => ?_) (fun h1 => ?_)
  · rw [if_pos h1] at K
    exact wp_vret rfl (Nat.le_refl 0) (Nat.le_refl 0) dX1_markClashes_46 ⟨rfl, rfl, K⟩
  · rw [if_neg h1] at K
    refine wp_iload_n 1 dX1_markClashes_13 rfl rfl rfl ?_
    refine wp_iconst (v := 1) dX1_markClashes_14 rfl (by decide) ?_
    refine wp_iadd dX1_markClashes_15 rfl ?_
    refine wp_istore_n [1, 2, 0] dX1_markClashes_16 rfl rfl (by decide) rfl ?_
    show WP _ _ _ _ _ _ _ 17 [(0, .ref 141), (1, .int x1), (2, .int (x1 + 1))] _ _ _
    exact K
theorem bX1_markClashes_17 {E : tp_E} {d : Nat} {Q : tp_M → Prop} {σ : tp_M}   (x1 : Int32) (x2 : Int32) (K : if (σ 1 3) ≤ x2 then (Wv E TC iX1_markClashes (d + 1) Q 2 [(0, .ref 141), (1, .int (x1 + 1))] [] σ) else (Cv E TC yX1_setClashes iX1_setClashes d [.ref 141, .int x1, .int x2] σ (fun σ2 => Wv E TC iX1_markClashes (d + 1) Q 17 [(0, .ref 141), (1, .int x1), (2, .int (x2 + 1))] [] σ2))) : Wv E TC iX1_markClashes (d + 1) Q 17 [(0, .ref 141), (1, .int x1), (2, .int x2)] [] σ := by
  refine wp_iload_n 2 dX1_markClashes_17 rfl rfl rfl ?_
  refine wp_aload_n 0 dX1_markClashes_18 rfl rfl rfl ?_
  refine wp_getR 1 0 kcX1 kfX1_27 rfl lC_141 (congrArg Prod.fst gC_141) rC_141_0 dX1_markClashes_19 rfl ?_
  refine wp_getI 5 3 kcX5 kfX1_56 rfl lC_1 (congrArg Prod.fst gC_1) dX1_markClashes_22 rfl ?_
  refine wp_icmp_ge 40 dX1_markClashes_25 (by decide) rfl (fun h1 => ?_) (fun h1 => ?_)
  · rw [if_pos h1] at K
    refine wp_iinc (v := x1 + 1) 1 [1, 0, 2] dX1_markClashes_40 rfl (by decide) rfl rfl rfl ?_
    show WP _ _ _ _ _ _ _ 43 [(0, .ref 141), (1, .int (x1 + 1)), (2, .int x2)] _ _ _
    refine wp_goto 2 dX1_markClashes_43 (by decide) ?_
    refine wp_lv [0, 1] rfl ?_
    exact K
  · rw [if_neg h1] at K
    refine wp_aload_n 0 dX1_markClashes_28 rfl rfl rfl ?_
    refine wp_iload_n 1 dX1_markClashes_29 rfl rfl rfl ?_
    refine wp_iload_n 2 dX1_markClashes_30 rfl rfl rfl ?_
    refine wn_callVv (As := [.int x1, .int x2]) (rest := []) 1 kmX1_107 (by decide) rfl rfl (Nat.le_of_ble_eq_true rfl) lC_141 (congrArg Prod.fst gC_141) dX1_markClashes_31 rfl ?_
    refine Cv.mono K (fun σ2 K => ?_)
    refine wp_iinc (v := x2 + 1) 2 [1, 2, 0] dX1_markClashes_34 rfl (by decide) rfl rfl rfl ?_
    show WP _ _ _ _ _ _ _ 37 [(0, .ref 141), (1, .int x1), (2, .int (x2 + 1))] _ _ _
    refine wp_goto 17 dX1_markClashes_37 (by decide) ?_
    exact K
theorem bX1_setClashes_0 {E : tp_E} {d : Nat} {Q : tp_M → Prop} {σ : tp_M}   (x1 : Int32) (x2 : Int32) (K : Wv E TC iX1_setClashes (d + 1) Q 6 [(0, .ref 141), (1, .int x1), (2, .int x2), (3, .int 0), (4, .int (-4))] [] σ) : Wv E TC iX1_setClashes (d + 1) Q 0 [(0, .ref 141), (1, .int x1), (2, .int x2)] [] σ := by
  refine wp_iconst (v := 0) dX1_setClashes_0 rfl (by decide) ?_
  refine wp_istore_n [1, 2, 3, 0] dX1_setClashes_1 rfl rfl (by decide) rfl ?_
  show WP _ _ _ _ _ _ _ 2 [(0, .ref 141), (1, .int x1), (2, .int x2), (3, .int 0)] _ _ _
  refine wp_bipush (v := (-4)) dX1_setClashes_2 rfl (by decide) ?_
  refine wp_istore [1, 2, 3, 4, 0] dX1_setClashes_4 rfl (by decide) rfl ?_
  show WP _ _ _ _ _ _ _ 6 [(0, .ref 141), (1, .int x1), (2, .int x2), (3, .int 0), (4, .int (-4))] _ _ _
  exact K
theorem eX1_setClashes {E : tp_E} {d : Nat} {Q : tp_M → Prop} {σ : tp_M}   (x1 : Int32) (x2 : Int32) (K : Wv E TC iX1_setClashes (d + 1) Q 6 [(0, .ref 141), (1, .int x1), (2, .int x2), (3, .int 0), (4, .int (-4))] [] σ) : Cv E TC yX1_setClashes iX1_setClashes (d + 1) [.ref 141, .int x1, .int x2] σ Q := Cv.of ⟨by decide +kernel, rfl, rfl⟩ (Nat.le_of_ble_eq_true rfl) (bX1_setClashes_0  x1 x2 K)
theorem bX1_setClashes_6 {E : tp_E} {d : Nat} {Q : tp_M → Prop} {σ : tp_M}   (x1 : Int32) (x2 : Int32) (x3 : Int32) (x4 : Int32) (K : if 5 ≤ x4 then (Ci E TC yX5_hasTwoWaiters iX5_hasTwoWaiters d [.ref 1, .int x1, .int x2] σ (fun v3 σ2 => if v3 = 0 then (Q σ2) else (vp_in ((x1 * 4) + x2) 16 ∧ (Q (tp_u σ2 144 (Int32.toNatClampNeg ((x1 * 4) + x2)) x3))))) else (Ci E TC yX1_meetingOf iX1_meetingOf d [.ref 141, .int x1, .int (if x4 < 0 then 0 else x4), .int x2, .int (if (0 - x4) < 0 then 0 else (0 - x4))] σ (fun v7 σ6 => if v7 = (-1) then (Wv E TC iX1_setClashes (d + 1) Q 6 [(0, .ref 141), (1, .int x1), (2, .int x2), (3, .int x3), (4, .int (x4 + 1))] [] σ6) else (Wv E TC iX1_setClashes (d + 1) Q 6 [(0, .ref 141), (1, .int x1), (2, .int x2), (3, .int (x3 ||| (1 <<< ((x4 + 5) &&& 31)))), (4, .int (x4 + 1))] [] σ6)))) : Wv E TC iX1_setClashes (d + 1) Q 6 [(0, .ref 141), (1, .int x1), (2, .int x2), (3, .int x3), (4, .int x4)] [] σ := by
  refine wp_iload 4 dX1_setClashes_6 rfl rfl ?_
  refine wp_iconst (v := 5) dX1_setClashes_8 rfl (by decide) ?_
  refine wp_icmp_ge 50 dX1_setClashes_9 (by decide) rfl (fun h1 => ?_) (fun h1 => ?_)
  · rw [if_pos h1] at K
    refine wp_aload_n 0 dX1_setClashes_50 rfl rfl rfl ?_
    refine wp_getR 1 0 kcX1 kfX1_27 rfl lC_141 (congrArg Prod.fst gC_141) rC_141_0 dX1_setClashes_51 rfl ?_
    refine wp_iload_n 1 dX1_setClashes_54 rfl rfl rfl ?_
    refine wp_iload_n 2 dX1_setClashes_55 rfl rfl rfl ?_
    refine wn_callVi (As := [.int x1, .int x2]) (rest := []) 5 kmX1_111 (by decide) rfl rfl (Nat.le_of_ble_eq_true rfl) lC_1 (congrArg Prod.fst gC_1) dX1_setClashes_56 rfl ?_
    refine Ci.mono K (fun v3 σ2 K => ?_)
    refine wp_if_eq 73 dX1_setClashes_59 (by decide) rfl (fun h4 => ?_) (fun h4 => ?_)
    · rw [if_pos h4] at K
      exact wp_vret rfl (Nat.le_refl 0) (Nat.le_refl 0) dX1_setClashes_73 ⟨rfl, rfl, K⟩
    · rw [if_neg h4] at K
      refine wp_aload_n 0 dX1_setClashes_62 rfl rfl rfl ?_
      refine wp_getR 1 4 kcX1 kfX1_18 rfl lC_141 (congrArg Prod.fst gC_141) rC_141_4 dX1_setClashes_63 rfl ?_
      refine wp_iload_n 1 dX1_setClashes_66 rfl rfl rfl ?_
      refine wp_iconst (v := 4) dX1_setClashes_67 rfl (by decide) ?_
      refine wp_imul dX1_setClashes_68 rfl ?_
      refine wp_iload_n 2 dX1_setClashes_69 rfl rfl rfl ?_
      refine wp_iadd dX1_setClashes_70 rfl ?_
      refine wp_iload_n 3 dX1_setClashes_71 rfl rfl rfl ?_
      obtain ⟨k5, K⟩ := K
      refine wn_iast lC_144 gC_144 k5 dX1_setClashes_72 rfl ?_
      exact wp_vret rfl (Nat.le_refl 0) (Nat.le_refl 0) dX1_setClashes_73 ⟨rfl, rfl, K⟩
  · rw [if_neg h1] at K
    refine wp_aload_n 0 dX1_setClashes_12 rfl rfl rfl ?_
    refine wp_iload_n 1 dX1_setClashes_13 rfl rfl rfl ?_
    refine wp_iload 4 dX1_setClashes_14 rfl rfl ?_
    refine wp_iconst (v := 0) dX1_setClashes_16 rfl (by decide) ?_
    refine wn_max tw_758 tw_759 tw_51 tw_760 (Nat.le_of_ble_eq_true rfl) dX1_setClashes_17 rfl ?_
    refine wp_iload_n 2 dX1_setClashes_20 rfl rfl rfl ?_
    refine wp_iload 4 dX1_setClashes_21 rfl rfl ?_
    refine wp_ineg dX1_setClashes_23 rfl ?_
    refine wp_iconst (v := 0) dX1_setClashes_24 rfl (by decide) ?_
    refine wn_max tw_758 tw_759 tw_51 tw_760 (Nat.le_of_ble_eq_true rfl) dX1_setClashes_25 rfl ?_
    refine wn_callVi (As := [.int x1, .int (if x4 < 0 then 0 else x4), .int x2, .int (if (0 - x4) < 0 then 0 else (0 - x4))]) (rest := []) 1 kmX1_38 (by decide) rfl rfl (Nat.le_of_ble_eq_true rfl) lC_141 (congrArg Prod.fst gC_141) dX1_setClashes_28 rfl ?_
    refine Ci.mono K (fun v7 σ6 K => ?_)
    refine wp_iconst (v := (-1)) dX1_setClashes_31 rfl (by decide) ?_
    refine wp_icmp_eq 44 dX1_setClashes_32 (by decide) rfl (fun h8 => ?_) (fun h8 => ?_)
    · rw [if_pos h8] at K
      refine wp_iinc (v := x4 + 1) 4 [1, 2, 3, 4, 0] dX1_setClashes_44 rfl (by decide) rfl rfl rfl ?_
      show WP _ _ _ _ _ _ _ 47 [(0, .ref 141), (1, .int x1), (2, .int x2), (3, .int x3), (4, .int (x4 + 1))] _ _ _
      refine wp_goto 6 dX1_setClashes_47 (by decide) ?_
      exact K
    · rw [if_neg h8] at K
      refine wp_iload_n 3 dX1_setClashes_35 rfl rfl rfl ?_
      refine wp_iconst (v := 1) dX1_setClashes_36 rfl (by decide) ?_
      refine wp_iload 4 dX1_setClashes_37 rfl rfl ?_
      refine wp_iconst (v := 5) dX1_setClashes_39 rfl (by decide) ?_
      refine wp_iadd dX1_setClashes_40 rfl ?_
      refine wp_ishl dX1_setClashes_41 rfl ?_
      refine wp_ior dX1_setClashes_42 rfl ?_
      refine wp_istore_n [1, 2, 3, 0, 4] dX1_setClashes_43 rfl rfl (by decide) rfl ?_
      show WP _ _ _ _ _ _ _ 44 [(0, .ref 141), (1, .int x1), (2, .int x2), (3, .int (x3 ||| (1 <<< ((x4 + 5) &&& 31)))), (4, .int x4)] _ _ _
      refine wp_iinc (v := x4 + 1) 4 [1, 2, 3, 4, 0] dX1_setClashes_44 rfl (by decide) rfl rfl rfl ?_
      show WP _ _ _ _ _ _ _ 47 [(0, .ref 141), (1, .int x1), (2, .int x2), (3, .int (x3 ||| (1 <<< ((x4 + 5) &&& 31)))), (4, .int (x4 + 1))] _ _ _
      refine wp_goto 6 dX1_setClashes_47 (by decide) ?_
      exact K
theorem bX1_endOfAll_0 {E : tp_E} {d : Nat} {Q : Int32 → tp_M → Prop} {σ : tp_M}    (K : Wi E TC iX1_endOfAll (d + 1) Q 4 [(0, .ref 141), (1, .int 0), (2, .int 0)] [] σ) : Wi E TC iX1_endOfAll (d + 1) Q 0 [(0, .ref 141)] [] σ := by
  refine wp_iconst (v := 0) dX1_endOfAll_0 rfl (by decide) ?_
  refine wp_istore_n [1, 0] dX1_endOfAll_1 rfl rfl (by decide) rfl ?_
  show WP _ _ _ _ _ _ _ 2 [(0, .ref 141), (1, .int 0)] _ _ _
  refine wp_iconst (v := 0) dX1_endOfAll_2 rfl (by decide) ?_
  refine wp_istore_n [1, 2, 0] dX1_endOfAll_3 rfl rfl (by decide) rfl ?_
  show WP _ _ _ _ _ _ _ 4 [(0, .ref 141), (1, .int 0), (2, .int 0)] _ _ _
  exact K
theorem eX1_endOfAll {E : tp_E} {d : Nat} {Q : Int32 → tp_M → Prop} {σ : tp_M}    (K : Wi E TC iX1_endOfAll (d + 1) Q 4 [(0, .ref 141), (1, .int 0), (2, .int 0)] [] σ) : Ci E TC yX1_endOfAll iX1_endOfAll (d + 1) [.ref 141] σ Q := Ci.of ⟨by decide +kernel, rfl, rfl⟩ (Nat.le_of_ble_eq_true rfl) (bX1_endOfAll_0   K)
theorem bX1_endOfAll_4 {E : tp_E} {d : Nat} {Q : Int32 → tp_M → Prop} {σ : tp_M}   (x1 : Int32) (x2 : Int32) (K : if (σ 1 3) ≤ x2 then (Q x1 σ) else (if 4 ≤ x2 then (Q x1 σ) else (vp_in x2 4 ∧ (if (σ 143 (Int32.toNatClampNeg x2)) ≤ 0 then (Wi E TC iX1_endOfAll (d + 1) Q 4 [(0, .ref 141), (1, .int x1), (2, .int (x2 + 1))] [] σ) else (vp_in x2 4 ∧ (vp_in x2 4 ∧ (Wi E TC iX1_endOfAll (d + 1) Q 4 [(0, .ref 141), (1, .int (if x1 < ((σ 145 (Int32.toNatClampNeg x2)) + (σ 143 (Int32.toNatClampNeg x2))) then ((σ 145 (Int32.toNatClampNeg x2)) + (σ 143 (Int32.toNatClampNeg x2))) else x1)), (2, .int (x2 + 1))] [] σ))))))) : Wi E TC iX1_endOfAll (d + 1) Q 4 [(0, .ref 141), (1, .int x1), (2, .int x2)] [] σ := by
  refine wp_iload_n 2 dX1_endOfAll_4 rfl rfl rfl ?_
  refine wp_aload_n 0 dX1_endOfAll_5 rfl rfl rfl ?_
  refine wp_getR 1 0 kcX1 kfX1_27 rfl lC_141 (congrArg Prod.fst gC_141) rC_141_0 dX1_endOfAll_6 rfl ?_
  refine wp_getI 5 3 kcX5 kfX1_56 rfl lC_1 (congrArg Prod.fst gC_1) dX1_endOfAll_9 rfl ?_
  refine wp_icmp_ge 53 dX1_endOfAll_12 (by decide) rfl (fun h1 => ?_) (fun h1 => ?_)
  · rw [if_pos h1] at K
    refine wp_iload_n 1 dX1_endOfAll_53 rfl rfl rfl ?_
    exact wp_ret .int rfl rfl (Nat.le_refl 0) (Nat.le_refl 0) dX1_endOfAll_54 ⟨rfl, _, rfl, K⟩
  · rw [if_neg h1] at K
    refine wp_iload_n 2 dX1_endOfAll_15 rfl rfl rfl ?_
    refine wp_iconst (v := 4) dX1_endOfAll_16 rfl (by decide) ?_
    refine wp_icmp_ge 53 dX1_endOfAll_17 (by decide) rfl (fun h2 => ?_) (fun h2 => ?_)
    · rw [if_pos h2] at K
      refine wp_iload_n 1 dX1_endOfAll_53 rfl rfl rfl ?_
      exact wp_ret .int rfl rfl (Nat.le_refl 0) (Nat.le_refl 0) dX1_endOfAll_54 ⟨rfl, _, rfl, K⟩
    · rw [if_neg h2] at K
      refine wp_aload_n 0 dX1_endOfAll_20 rfl rfl rfl ?_
      refine wp_getR 1 3 kcX1 kfX1_15 rfl lC_141 (congrArg Prod.fst gC_141) rC_141_3 dX1_endOfAll_21 rfl ?_
      refine wp_iload_n 2 dX1_endOfAll_24 rfl rfl rfl ?_
      obtain ⟨k3, K⟩ := K
      refine wn_iald lC_143 gC_143 k3 dX1_endOfAll_25 rfl ?_
      refine wp_if_le 47 dX1_endOfAll_26 (by decide) rfl (fun h4 => ?_) (fun h4 => ?_)
      · rw [if_pos h4] at K
        refine wp_iinc (v := x2 + 1) 2 [1, 2, 0] dX1_endOfAll_47 rfl (by decide) rfl rfl rfl ?_
        show WP _ _ _ _ _ _ _ 50 [(0, .ref 141), (1, .int x1), (2, .int (x2 + 1))] _ _ _
        refine wp_goto 4 dX1_endOfAll_50 (by decide) ?_
        exact K
      · rw [if_neg h4] at K
        refine wp_iload_n 1 dX1_endOfAll_29 rfl rfl rfl ?_
        refine wp_aload_n 0 dX1_endOfAll_30 rfl rfl rfl ?_
        refine wp_getR 1 5 kcX1 kfX1_21 rfl lC_141 (congrArg Prod.fst gC_141) rC_141_5 dX1_endOfAll_31 rfl ?_
        refine wp_iload_n 2 dX1_endOfAll_34 rfl rfl rfl ?_
        obtain ⟨k5, K⟩ := K
        refine wn_iald lC_145 gC_145 k5 dX1_endOfAll_35 rfl ?_
        refine wp_aload_n 0 dX1_endOfAll_36 rfl rfl rfl ?_
        refine wp_getR 1 3 kcX1 kfX1_15 rfl lC_141 (congrArg Prod.fst gC_141) rC_141_3 dX1_endOfAll_37 rfl ?_
        refine wp_iload_n 2 dX1_endOfAll_40 rfl rfl rfl ?_
        obtain ⟨k6, K⟩ := K
        refine wn_iald lC_143 gC_143 k6 dX1_endOfAll_41 rfl ?_
        refine wp_iadd dX1_endOfAll_42 rfl ?_
        refine wn_max tw_758 tw_759 tw_51 tw_760 (Nat.le_of_ble_eq_true rfl) dX1_endOfAll_43 rfl ?_
        refine wp_istore_n [1, 0, 2] dX1_endOfAll_46 rfl rfl (by decide) rfl ?_
        show WP _ _ _ _ _ _ _ 47 [(0, .ref 141), (1, .int (if x1 < ((σ 145 (Int32.toNatClampNeg x2)) + (σ 143 (Int32.toNatClampNeg x2))) then ((σ 145 (Int32.toNatClampNeg x2)) + (σ 143 (Int32.toNatClampNeg x2))) else x1)), (2, .int x2)] _ _ _
        refine wp_iinc (v := x2 + 1) 2 [1, 2, 0] dX1_endOfAll_47 rfl (by decide) rfl rfl rfl ?_
        show WP _ _ _ _ _ _ _ 50 [(0, .ref 141), (1, .int (if x1 < ((σ 145 (Int32.toNatClampNeg x2)) + (σ 143 (Int32.toNatClampNeg x2))) then ((σ 145 (Int32.toNatClampNeg x2)) + (σ 143 (Int32.toNatClampNeg x2))) else x1)), (2, .int (x2 + 1))] _ _ _
        refine wp_goto 4 dX1_endOfAll_50 (by decide) ?_
        exact K
theorem bX1_haveClash_0 {E : tp_E} {d : Nat} {Q : Int32 → tp_M → Prop} {σ : tp_M}    (K : Wi E TC iX1_haveClash (d + 1) Q 2 [(0, .ref 141), (1, .int 0)] [] σ) : Wi E TC iX1_haveClash (d + 1) Q 0 [(0, .ref 141)] [] σ := by
  refine wp_iconst (v := 0) dX1_haveClash_0 rfl (by decide) ?_
  refine wp_istore_n [1, 0] dX1_haveClash_1 rfl rfl (by decide) rfl ?_
  show WP _ _ _ _ _ _ _ 2 [(0, .ref 141), (1, .int 0)] _ _ _
  exact K
theorem eX1_haveClash {E : tp_E} {d : Nat} {Q : Int32 → tp_M → Prop} {σ : tp_M}    (K : Wi E TC iX1_haveClash (d + 1) Q 2 [(0, .ref 141), (1, .int 0)] [] σ) : Ci E TC yX1_haveClash iX1_haveClash (d + 1) [.ref 141] σ Q := Ci.of ⟨by decide +kernel, rfl, rfl⟩ (Nat.le_of_ble_eq_true rfl) (bX1_haveClash_0   K)
theorem bX1_haveClash_2 {E : tp_E} {d : Nat} {Q : Int32 → tp_M → Prop} {σ : tp_M}   (x1 : Int32) (K : if (σ 1 3) ≤ x1 then (Q 0 σ) else (Wi E TC iX1_haveClash (d + 1) Q 17 [(0, .ref 141), (1, .int x1), (2, .int (x1 + 1))] [] σ)) : Wi E TC iX1_haveClash (d + 1) Q 2 [(0, .ref 141), (1, .int x1)] [] σ := by
  refine wp_iload_n 1 dX1_haveClash_2 rfl rfl rfl ?_
  refine wp_aload_n 0 dX1_haveClash_3 rfl rfl rfl ?_
  refine wp_getR 1 0 kcX1 kfX1_27 rfl lC_141 (congrArg Prod.fst gC_141) rC_141_0 dX1_haveClash_4 rfl ?_
  refine wp_getI 5 3 kcX5 kfX1_56 rfl lC_1 (congrArg Prod.fst gC_1) dX1_haveClash_7 rfl ?_
  refine wp_icmp_ge 78 dX1_haveClash_10 (by decide) rfl (fun h1 => ?_) (fun h1 => ?_)
  · rw [if_pos h1] at K
    refine wp_iconst (v := 0) dX1_haveClash_78 rfl (by decide) ?_
    exact wp_ret .boolean rfl rfl (Nat.le_refl 0) (Nat.le_refl 0) dX1_haveClash_79 ⟨rfl, _, rfl, K⟩
  · rw [if_neg h1] at K
    refine wp_iload_n 1 dX1_haveClash_13 rfl rfl rfl ?_
    refine wp_iconst (v := 1) dX1_haveClash_14 rfl (by decide) ?_
    refine wp_iadd dX1_haveClash_15 rfl ?_
    refine wp_istore_n [1, 2, 0] dX1_haveClash_16 rfl rfl (by decide) rfl ?_
    show WP _ _ _ _ _ _ _ 17 [(0, .ref 141), (1, .int x1), (2, .int (x1 + 1))] _ _ _
    exact K
theorem bX1_haveClash_17 {E : tp_E} {d : Nat} {Q : Int32 → tp_M → Prop} {σ : tp_M}   (x1 : Int32) (x2 : Int32) (K : if (σ 1 3) ≤ x2 then (Wi E TC iX1_haveClash (d + 1) Q 2 [(0, .ref 141), (1, .int (x1 + 1))] [] σ) else (if 4 ≤ x2 then (Wi E TC iX1_haveClash (d + 1) Q 2 [(0, .ref 141), (1, .int (x1 + 1))] [] σ) else (vp_in ((x1 * 4) + x2) 16 ∧ (vp_in x1 4 ∧ (vp_in x2 4 ∧ (Ci E TC yX9_has iX9_has d [.int (σ 144 (Int32.toNatClampNeg ((x1 * 4) + x2))), .int (((σ 145 (Int32.toNatClampNeg x1)) - (σ 145 (Int32.toNatClampNeg x2))) + 5)] σ (fun v7 σ6 => if v7 = 0 then (Wi E TC iX1_haveClash (d + 1) Q 17 [(0, .ref 141), (1, .int x1), (2, .int (x2 + 1))] [] σ6) else (Q 1 σ6)))))))) : Wi E TC iX1_haveClash (d + 1) Q 17 [(0, .ref 141), (1, .int x1), (2, .int x2)] [] σ := by
  refine wp_iload_n 2 dX1_haveClash_17 rfl rfl rfl ?_
  refine wp_aload_n 0 dX1_haveClash_18 rfl rfl rfl ?_
  refine wp_getR 1 0 kcX1 kfX1_27 rfl lC_141 (congrArg Prod.fst gC_141) rC_141_0 dX1_haveClash_19 rfl ?_
  refine wp_getI 5 3 kcX5 kfX1_56 rfl lC_1 (congrArg Prod.fst gC_1) dX1_haveClash_22 rfl ?_
  refine wp_icmp_ge 72 dX1_haveClash_25 (by decide) rfl (fun h1 => ?_) (fun h1 => ?_)
  · rw [if_pos h1] at K
    refine wp_iinc (v := x1 + 1) 1 [1, 0, 2] dX1_haveClash_72 rfl (by decide) rfl rfl rfl ?_
    show WP _ _ _ _ _ _ _ 75 [(0, .ref 141), (1, .int (x1 + 1)), (2, .int x2)] _ _ _
    refine wp_goto 2 dX1_haveClash_75 (by decide) ?_
    refine wp_lv [0, 1] rfl ?_
    exact K
  · rw [if_neg h1] at K
    refine wp_iload_n 2 dX1_haveClash_28 rfl rfl rfl ?_
    refine wp_iconst (v := 4) dX1_haveClash_29 rfl (by decide) ?_
    refine wp_icmp_ge 72 dX1_haveClash_30 (by decide) rfl (fun h2 => ?_) (fun h2 => ?_)
    · rw [if_pos h2] at K
      refine wp_iinc (v := x1 + 1) 1 [1, 0, 2] dX1_haveClash_72 rfl (by decide) rfl rfl rfl ?_
      show WP _ _ _ _ _ _ _ 75 [(0, .ref 141), (1, .int (x1 + 1)), (2, .int x2)] _ _ _
      refine wp_goto 2 dX1_haveClash_75 (by decide) ?_
      refine wp_lv [0, 1] rfl ?_
      exact K
    · rw [if_neg h2] at K
      refine wp_aload_n 0 dX1_haveClash_33 rfl rfl rfl ?_
      refine wp_getR 1 4 kcX1 kfX1_18 rfl lC_141 (congrArg Prod.fst gC_141) rC_141_4 dX1_haveClash_34 rfl ?_
      refine wp_iload_n 1 dX1_haveClash_37 rfl rfl rfl ?_
      refine wp_iconst (v := 4) dX1_haveClash_38 rfl (by decide) ?_
      refine wp_imul dX1_haveClash_39 rfl ?_
      refine wp_iload_n 2 dX1_haveClash_40 rfl rfl rfl ?_
      refine wp_iadd dX1_haveClash_41 rfl ?_
      obtain ⟨k3, K⟩ := K
      refine wn_iald lC_144 gC_144 k3 dX1_haveClash_42 rfl ?_
      refine wp_aload_n 0 dX1_haveClash_43 rfl rfl rfl ?_
      refine wp_getR 1 5 kcX1 kfX1_21 rfl lC_141 (congrArg Prod.fst gC_141) rC_141_5 dX1_haveClash_44 rfl ?_
      refine wp_iload_n 1 dX1_haveClash_47 rfl rfl rfl ?_
      obtain ⟨k4, K⟩ := K
      refine wn_iald lC_145 gC_145 k4 dX1_haveClash_48 rfl ?_
      refine wp_aload_n 0 dX1_haveClash_49 rfl rfl rfl ?_
      refine wp_getR 1 5 kcX1 kfX1_21 rfl lC_141 (congrArg Prod.fst gC_141) rC_141_5 dX1_haveClash_50 rfl ?_
      refine wp_iload_n 2 dX1_haveClash_53 rfl rfl rfl ?_
      obtain ⟨k5, K⟩ := K
      refine wn_iald lC_145 gC_145 k5 dX1_haveClash_54 rfl ?_
      refine wp_isub dX1_haveClash_55 rfl ?_
      refine wp_iconst (v := 5) dX1_haveClash_56 rfl (by decide) ?_
      refine wp_iadd dX1_haveClash_57 rfl ?_
      refine wn_callNi (As := [.int (σ 144 (Int32.toNatClampNeg ((x1 * 4) + x2))), .int (((σ 145 (Int32.toNatClampNeg x1)) - (σ 145 (Int32.toNatClampNeg x2))) + 5)]) (rest := []) kmX1_115 (by decide) rfl rfl (Nat.le_of_ble_eq_true rfl) dX1_haveClash_58 rfl ?_
      refine Ci.mono K (fun v7 σ6 K => ?_)
      refine wp_if_eq 66 dX1_haveClash_61 (by decide) rfl (fun h8 => ?_) (fun h8 => ?_)
      · rw [if_pos h8] at K
        refine wp_iinc (v := x2 + 1) 2 [1, 2, 0] dX1_haveClash_66 rfl (by decide) rfl rfl rfl ?_
        show WP _ _ _ _ _ _ _ 69 [(0, .ref 141), (1, .int x1), (2, .int (x2 + 1))] _ _ _
        refine wp_goto 17 dX1_haveClash_69 (by decide) ?_
        exact K
      · rw [if_neg h8] at K
        refine wp_iconst (v := 1) dX1_haveClash_64 rfl (by decide) ?_
        exact wp_ret .boolean rfl rfl (Nat.le_refl 0) (Nat.le_refl 0) dX1_haveClash_65 ⟨rfl, _, rfl, K⟩
theorem bX1_answer_0 {E : tp_E} {d : Nat} {Q : Int32 → tp_M → Prop} {σ : tp_M}   (x1 : Int32) (K : if x1 = (-1) then (Q (σ 141 7) σ) else (if (σ 141 7) = (-1) then (Q (σ 141 7) σ) else (Ci E TC yX5_hasWaiter iX5_hasWaiter d [.ref 1, .int x1] σ (fun v4 σ3 => if v4 = 0 then (Q (-1000000001) σ3) else (vp_in x1 4 ∧ (Q (σ3 146 (Int32.toNatClampNeg x1)) σ3)))))) : Wi E TC iX1_answer (d + 1) Q 0 [(0, .ref 141), (1, .int x1)] [] σ := by
  refine wp_iload_n 1 dX1_answer_0 rfl rfl rfl ?_
  refine wp_iconst (v := (-1)) dX1_answer_1 rfl (by decide) ?_
  refine wp_icmp_eq 13 dX1_answer_2 (by decide) rfl (fun h1 => ?_) (fun h1 => ?_)
  · rw [if_pos h1] at K
    refine wp_aload_n 0 dX1_answer_13 rfl rfl rfl ?_
    refine wp_getI 1 7 kcX1 kfX1_42 rfl lC_141 (congrArg Prod.fst gC_141) dX1_answer_14 rfl ?_
    exact wp_ret .int rfl rfl (Nat.le_refl 0) (Nat.le_refl 0) dX1_answer_17 ⟨rfl, _, rfl, K⟩
  · rw [if_neg h1] at K
    refine wp_aload_n 0 dX1_answer_5 rfl rfl rfl ?_
    refine wp_getI 1 7 kcX1 kfX1_42 rfl lC_141 (congrArg Prod.fst gC_141) dX1_answer_6 rfl ?_
    refine wp_iconst (v := (-1)) dX1_answer_9 rfl (by decide) ?_
    refine wp_icmp_ne 18 dX1_answer_10 (by decide) rfl (fun h2 => ?_) (fun h2 => ?_)
    · rw [if_neg h2] at K
      refine wp_aload_n 0 dX1_answer_18 rfl rfl rfl ?_
      refine wp_getR 1 0 kcX1 kfX1_27 rfl lC_141 (congrArg Prod.fst gC_141) rC_141_0 dX1_answer_19 rfl ?_
      refine wp_iload_n 1 dX1_answer_22 rfl rfl rfl ?_
      refine wn_callVi (As := [.int x1]) (rest := []) 5 kmX1_46 (by decide) rfl rfl (Nat.le_of_ble_eq_true rfl) lC_1 (congrArg Prod.fst gC_1) dX1_answer_23 rfl ?_
      refine Ci.mono K (fun v4 σ3 K => ?_)
      refine wp_if_eq 38 dX1_answer_26 (by decide) rfl (fun h5 => ?_) (fun h5 => ?_)
      · rw [if_pos h5] at K
        refine wp_ldc dX1_answer_38 rfl tw_817 ?_
        exact wp_ret .int rfl rfl (Nat.le_refl 0) (Nat.le_refl 0) dX1_answer_40 ⟨rfl, _, rfl, K⟩
      · rw [if_neg h5] at K
        refine wp_aload_n 0 dX1_answer_29 rfl rfl rfl ?_
        refine wp_getR 1 6 kcX1 kfX1_24 rfl lC_141 (congrArg Prod.fst gC_141) rC_141_6 dX1_answer_30 rfl ?_
        refine wp_iload_n 1 dX1_answer_33 rfl rfl rfl ?_
        obtain ⟨k6, K⟩ := K
        refine wn_iald lC_146 gC_146 k6 dX1_answer_34 rfl ?_
        refine wp_goto 40 dX1_answer_35 (by decide) ?_
        exact wp_ret .int rfl rfl (Nat.le_refl 0) (Nat.le_refl 0) dX1_answer_40 ⟨rfl, _, rfl, K⟩
    · rw [if_pos h2] at K
      refine wp_aload_n 0 dX1_answer_13 rfl rfl rfl ?_
      refine wp_getI 1 7 kcX1 kfX1_42 rfl lC_141 (congrArg Prod.fst gC_141) dX1_answer_14 rfl ?_
      exact wp_ret .int rfl rfl (Nat.le_refl 0) (Nat.le_refl 0) dX1_answer_17 ⟨rfl, _, rfl, K⟩
theorem eX1_answer {E : tp_E} {d : Nat} {Q : Int32 → tp_M → Prop} {σ : tp_M}   (x1 : Int32) (K : if x1 = (-1) then (Q (σ 141 7) σ) else (if (σ 141 7) = (-1) then (Q (σ 141 7) σ) else (Ci E TC yX5_hasWaiter iX5_hasWaiter d [.ref 1, .int x1] σ (fun v4 σ3 => if v4 = 0 then (Q (-1000000001) σ3) else (vp_in x1 4 ∧ (Q (σ3 146 (Int32.toNatClampNeg x1)) σ3)))))) : Ci E TC yX1_answer iX1_answer (d + 1) [.ref 141, .int x1] σ Q := Ci.of ⟨by decide +kernel, rfl, rfl⟩ (Nat.le_of_ble_eq_true rfl) (bX1_answer_0  x1 K)

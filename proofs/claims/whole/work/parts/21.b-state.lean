theorem bX8_thingsAt_0 {E : tp_E} {d : Nat} {Q : Int32 → tp_M → Prop} {σ : tp_M}   (x1 : Int32) (K : Wi E TC iX8_thingsAt d Q 4 [(0, .ref 9), (1, .int x1), (2, .int 0), (3, .int 0)] [] σ) : Wi E TC iX8_thingsAt d Q 0 [(0, .ref 9), (1, .int x1)] [] σ := by
  refine wp_iconst (v := 0) dX8_thingsAt_0 rfl (by decide) ?_
  refine wp_istore_n [1, 2, 0] dX8_thingsAt_1 rfl rfl (by decide) rfl ?_
  show WP _ _ _ _ _ _ _ 2 [(0, .ref 9), (1, .int x1), (2, .int 0)] _ _ _
  refine wp_iconst (v := 0) dX8_thingsAt_2 rfl (by decide) ?_
  refine wp_istore_n [1, 2, 3, 0] dX8_thingsAt_3 rfl rfl (by decide) rfl ?_
  show WP _ _ _ _ _ _ _ 4 [(0, .ref 9), (1, .int x1), (2, .int 0), (3, .int 0)] _ _ _
  exact K
theorem eX8_thingsAt {E : tp_E} {d : Nat} {Q : Int32 → tp_M → Prop} {σ : tp_M}   (x1 : Int32) (K : Wi E TC iX8_thingsAt d Q 4 [(0, .ref 9), (1, .int x1), (2, .int 0), (3, .int 0)] [] σ) : Ci E TC yX8_thingsAt iX8_thingsAt d [.ref 9, .int x1] σ Q := Ci.of ⟨by decide +kernel, rfl, rfl⟩ (Nat.le_of_ble_eq_true rfl) (bX8_thingsAt_0  x1 K)
theorem bX8_thingsAt_4 {E : tp_E} {d : Nat} {Q : Int32 → tp_M → Prop} {σ : tp_M}   (x1 : Int32) (x2 : Int32) (x3 : Int32) (K : if 8 ≤ x3 then (Q x2 σ) else (vp_in x3 8 ∧ (if (σ 13 (Int32.toNatClampNeg x3)) = x1 then (Wi E TC iX8_thingsAt d Q 4 [(0, .ref 9), (1, .int x1), (2, .int (x2 ||| (1 <<< (x3 &&& 31)))), (3, .int (x3 + 1))] [] σ) else (Wi E TC iX8_thingsAt d Q 4 [(0, .ref 9), (1, .int x1), (2, .int x2), (3, .int (x3 + 1))] [] σ)))) : Wi E TC iX8_thingsAt d Q 4 [(0, .ref 9), (1, .int x1), (2, .int x2), (3, .int x3)] [] σ := by
  refine wp_iload_n 3 dX8_thingsAt_4 rfl rfl rfl ?_
  refine wp_bipush (v := 8) dX8_thingsAt_5 rfl (by decide) ?_
  refine wp_icmp_ge 32 dX8_thingsAt_7 (by decide) rfl (fun h1 => ?_) (fun h1 => ?_)
  · rw [if_pos h1] at K
    refine wp_iload_n 2 dX8_thingsAt_32 rfl rfl rfl ?_
    exact wp_ret .int rfl rfl (Nat.le_refl 0) (Nat.le_refl 0) dX8_thingsAt_33 ⟨rfl, _, rfl, K⟩
  · rw [if_neg h1] at K
    refine wp_aload_n 0 dX8_thingsAt_10 rfl rfl rfl ?_
    refine wp_getR 8 5 kcX8 kfX8_21 rfl lC_9 (congrArg Prod.fst gC_9) rC_9_5 dX8_thingsAt_11 rfl ?_
    refine wp_iload_n 3 dX8_thingsAt_14 rfl rfl rfl ?_
    obtain ⟨k2, K⟩ := K
    refine wn_iald lC_13 gC_13 k2 dX8_thingsAt_15 rfl ?_
    refine wp_iload_n 1 dX8_thingsAt_16 rfl rfl rfl ?_
    refine wp_icmp_ne 26 dX8_thingsAt_17 (by decide) rfl (fun h3 => ?_) (fun h3 => ?_)
    · rw [if_neg h3] at K
      refine wp_iinc (v := x3 + 1) 3 [1, 2, 3, 0] dX8_thingsAt_26 rfl (by decide) rfl rfl rfl ?_
      show WP _ _ _ _ _ _ _ 29 [(0, .ref 9), (1, .int x1), (2, .int x2), (3, .int (x3 + 1))] _ _ _
      refine wp_goto 4 dX8_thingsAt_29 (by decide) ?_
      exact K
    · rw [if_pos h3] at K
      refine wp_iload_n 2 dX8_thingsAt_20 rfl rfl rfl ?_
      refine wp_iconst (v := 1) dX8_thingsAt_21 rfl (by decide) ?_
      refine wp_iload_n 3 dX8_thingsAt_22 rfl rfl rfl ?_
      refine wp_ishl dX8_thingsAt_23 rfl ?_
      refine wp_ior dX8_thingsAt_24 rfl ?_
      refine wp_istore_n [1, 2, 0, 3] dX8_thingsAt_25 rfl rfl (by decide) rfl ?_
      show WP _ _ _ _ _ _ _ 26 [(0, .ref 9), (1, .int x1), (2, .int (x2 ||| (1 <<< (x3 &&& 31)))), (3, .int x3)] _ _ _
      refine wp_iinc (v := x3 + 1) 3 [1, 2, 3, 0] dX8_thingsAt_26 rfl (by decide) rfl rfl rfl ?_
      show WP _ _ _ _ _ _ _ 29 [(0, .ref 9), (1, .int x1), (2, .int (x2 ||| (1 <<< (x3 &&& 31)))), (3, .int (x3 + 1))] _ _ _
      refine wp_goto 4 dX8_thingsAt_29 (by decide) ?_
      exact K
theorem bX8_roomOf_0 {E : tp_E} {d : Nat} {Q : Int32 → tp_M → Prop} {σ : tp_M}   (x1 : Int32) (K : Ci E TC yX8_isSeat iX8_isSeat d [.int x1] σ (fun v2 σ1 => if v2 = 0 then (Q (-1) σ1) else (vp_in x1 4 ∧ (Q (σ1 10 (Int32.toNatClampNeg x1)) σ1)))) : Wi E TC iX8_roomOf (d + 1) Q 0 [(0, .ref 9), (1, .int x1)] [] σ := by
  refine wp_iload_n 1 dX8_roomOf_0 rfl rfl rfl ?_
  refine wn_callSi (As := [.int x1]) (rest := []) kmX8_45 (by decide) rfl rfl (Nat.le_of_ble_eq_true rfl) dX8_roomOf_1 rfl ?_
  refine Ci.mono K (fun v2 σ1 K => ?_)
  refine wp_if_eq 16 dX8_roomOf_4 (by decide) rfl (fun h3 => ?_) (fun h3 => ?_)
  · rw [if_pos h3] at K
    refine wp_iconst (v := (-1)) dX8_roomOf_16 rfl (by decide) ?_
    exact wp_ret .int rfl rfl (Nat.le_refl 0) (Nat.le_refl 0) dX8_roomOf_17 ⟨rfl, _, rfl, K⟩
  · rw [if_neg h3] at K
    refine wp_aload_n 0 dX8_roomOf_7 rfl rfl rfl ?_
    refine wp_getR 8 2 kcX8 kfX8_9 rfl lC_9 (congrArg Prod.fst gC_9) rC_9_2 dX8_roomOf_8 rfl ?_
    refine wp_iload_n 1 dX8_roomOf_11 rfl rfl rfl ?_
    obtain ⟨k4, K⟩ := K
    refine wn_iald lC_10 gC_10 k4 dX8_roomOf_12 rfl ?_
    refine wp_goto 17 dX8_roomOf_13 (by decide) ?_
    exact wp_ret .int rfl rfl (Nat.le_refl 0) (Nat.le_refl 0) dX8_roomOf_17 ⟨rfl, _, rfl, K⟩
theorem eX8_roomOf {E : tp_E} {d : Nat} {Q : Int32 → tp_M → Prop} {σ : tp_M}   (x1 : Int32) (K : Ci E TC yX8_isSeat iX8_isSeat d [.int x1] σ (fun v2 σ1 => if v2 = 0 then (Q (-1) σ1) else (vp_in x1 4 ∧ (Q (σ1 10 (Int32.toNatClampNeg x1)) σ1)))) : Ci E TC yX8_roomOf iX8_roomOf (d + 1) [.ref 9, .int x1] σ Q := Ci.of ⟨by decide +kernel, rfl, rfl⟩ (Nat.le_of_ble_eq_true rfl) (bX8_roomOf_0  x1 K)
theorem bX8_thingsOf_0 {E : tp_E} {d : Nat} {Q : Int32 → tp_M → Prop} {σ : tp_M}   (x1 : Int32) (K : Ci E TC yX9_sideOf iX9_sideOf d [.int x1, .int 0] σ (fun v2 σ1 => Ci E TC yX8_thingsAt iX8_thingsAt d [.ref 9, .int v2] σ1 (fun v4 σ3 => Ci E TC yX9_sideOf iX9_sideOf d [.int x1, .int 1] σ3 (fun v6 σ5 => Ci E TC yX8_thingsAt iX8_thingsAt d [.ref 9, .int v6] σ5 (fun v8 σ7 => Q (v4 ||| v8) σ7))))) : Wi E TC iX8_thingsOf (d + 1) Q 0 [(0, .ref 9), (1, .int x1)] [] σ := by
  refine wp_aload_n 0 dX8_thingsOf_0 rfl rfl rfl ?_
  refine wp_iload_n 1 dX8_thingsOf_1 rfl rfl rfl ?_
  refine wp_iconst (v := 0) dX8_thingsOf_2 rfl (by decide) ?_
  refine wn_callNi (As := [.int x1, .int 0]) (rest := [.ref 9]) kmX8_53 (by decide) rfl rfl (Nat.le_of_ble_eq_true rfl) dX8_thingsOf_3 rfl ?_
  refine Ci.mono K (fun v2 σ1 K => ?_)
  refine wn_callVi (As := [.int v2]) (rest := []) 8 kmX8_57 (by decide) rfl rfl (Nat.le_of_ble_eq_true rfl) lC_9 (congrArg Prod.fst gC_9) dX8_thingsOf_6 rfl ?_
  refine Ci.mono K (fun v4 σ3 K => ?_)
  refine wp_aload_n 0 dX8_thingsOf_9 rfl rfl rfl ?_
  refine wp_iload_n 1 dX8_thingsOf_10 rfl rfl rfl ?_
  refine wp_iconst (v := 1) dX8_thingsOf_11 rfl (by decide) ?_
  refine wn_callNi (As := [.int x1, .int 1]) (rest := [.ref 9, .int v4]) kmX8_53 (by decide) rfl rfl (Nat.le_of_ble_eq_true rfl) dX8_thingsOf_12 rfl ?_
  refine Ci.mono K (fun v6 σ5 K => ?_)
  refine wn_callVi (As := [.int v6]) (rest := [.int v4]) 8 kmX8_57 (by decide) rfl rfl (Nat.le_of_ble_eq_true rfl) lC_9 (congrArg Prod.fst gC_9) dX8_thingsOf_15 rfl ?_
  refine Ci.mono K (fun v8 σ7 K => ?_)
  refine wp_ior dX8_thingsOf_18 rfl ?_
  exact wp_ret .int rfl rfl (Nat.le_refl 0) (Nat.le_refl 0) dX8_thingsOf_19 ⟨rfl, _, rfl, K⟩
theorem eX8_thingsOf {E : tp_E} {d : Nat} {Q : Int32 → tp_M → Prop} {σ : tp_M}   (x1 : Int32) (K : Ci E TC yX9_sideOf iX9_sideOf d [.int x1, .int 0] σ (fun v2 σ1 => Ci E TC yX8_thingsAt iX8_thingsAt d [.ref 9, .int v2] σ1 (fun v4 σ3 => Ci E TC yX9_sideOf iX9_sideOf d [.int x1, .int 1] σ3 (fun v6 σ5 => Ci E TC yX8_thingsAt iX8_thingsAt d [.ref 9, .int v6] σ5 (fun v8 σ7 => Q (v4 ||| v8) σ7))))) : Ci E TC yX8_thingsOf iX8_thingsOf (d + 1) [.ref 9, .int x1] σ Q := Ci.of ⟨by decide +kernel, rfl, rfl⟩ (Nat.le_of_ble_eq_true rfl) (bX8_thingsOf_0  x1 K)
theorem bX8_routeOf_0 {E : tp_E} {d : Nat} {Q : Int32 → tp_M → Prop} {σ : tp_M}   (x1 : Int32) (K : Ci E TC yX8_isSeat iX8_isSeat d [.int x1] σ (fun v2 σ1 => if v2 = 0 then (Q 0 σ1) else (vp_in x1 4 ∧ (Q (σ1 11 (Int32.toNatClampNeg x1)) σ1)))) : Wi E TC iX8_routeOf (d + 1) Q 0 [(0, .ref 9), (1, .int x1)] [] σ := by
  refine wp_iload_n 1 dX8_routeOf_0 rfl rfl rfl ?_
  refine wn_callSi (As := [.int x1]) (rest := []) kmX8_45 (by decide) rfl rfl (Nat.le_of_ble_eq_true rfl) dX8_routeOf_1 rfl ?_
  refine Ci.mono K (fun v2 σ1 K => ?_)
  refine wp_if_eq 16 dX8_routeOf_4 (by decide) rfl (fun h3 => ?_) (fun h3 => ?_)
  · rw [if_pos h3] at K
    refine wp_iconst (v := 0) dX8_routeOf_16 rfl (by decide) ?_
    exact wp_ret .int rfl rfl (Nat.le_refl 0) (Nat.le_refl 0) dX8_routeOf_17 ⟨rfl, _, rfl, K⟩
  · rw [if_neg h3] at K
    refine wp_aload_n 0 dX8_routeOf_7 rfl rfl rfl ?_
    refine wp_getR 8 3 kcX8 kfX8_15 rfl lC_9 (congrArg Prod.fst gC_9) rC_9_3 dX8_routeOf_8 rfl ?_
    refine wp_iload_n 1 dX8_routeOf_11 rfl rfl rfl ?_
    obtain ⟨k4, K⟩ := K
    refine wn_iald lC_11 gC_11 k4 dX8_routeOf_12 rfl ?_
    refine wp_goto 17 dX8_routeOf_13 (by decide) ?_
    exact wp_ret .int rfl rfl (Nat.le_refl 0) (Nat.le_refl 0) dX8_routeOf_17 ⟨rfl, _, rfl, K⟩
theorem eX8_routeOf {E : tp_E} {d : Nat} {Q : Int32 → tp_M → Prop} {σ : tp_M}   (x1 : Int32) (K : Ci E TC yX8_isSeat iX8_isSeat d [.int x1] σ (fun v2 σ1 => if v2 = 0 then (Q 0 σ1) else (vp_in x1 4 ∧ (Q (σ1 11 (Int32.toNatClampNeg x1)) σ1)))) : Ci E TC yX8_routeOf iX8_routeOf (d + 1) [.ref 9, .int x1] σ Q := Ci.of ⟨by decide +kernel, rfl, rfl⟩ (Nat.le_of_ble_eq_true rfl) (bX8_routeOf_0  x1 K)
theorem bX8_treatiesOf_0 {E : tp_E} {d : Nat} {Q : Int32 → tp_M → Prop} {σ : tp_M}   (x1 : Int32) (K : Ci E TC yX8_isSeat iX8_isSeat d [.int x1] σ (fun v2 σ1 => if v2 = 0 then (Q 0 σ1) else (vp_in x1 4 ∧ (Q (σ1 12 (Int32.toNatClampNeg x1)) σ1)))) : Wi E TC iX8_treatiesOf (d + 1) Q 0 [(0, .ref 9), (1, .int x1)] [] σ := by
  refine wp_iload_n 1 dX8_treatiesOf_0 rfl rfl rfl ?_
  refine wn_callSi (As := [.int x1]) (rest := []) kmX8_45 (by decide) rfl rfl (Nat.le_of_ble_eq_true rfl) dX8_treatiesOf_1 rfl ?_
  refine Ci.mono K (fun v2 σ1 K => ?_)
  refine wp_if_eq 16 dX8_treatiesOf_4 (by decide) rfl (fun h3 => ?_) (fun h3 => ?_)
  · rw [if_pos h3] at K
    refine wp_iconst (v := 0) dX8_treatiesOf_16 rfl (by decide) ?_
    exact wp_ret .int rfl rfl (Nat.le_refl 0) (Nat.le_refl 0) dX8_treatiesOf_17 ⟨rfl, _, rfl, K⟩
  · rw [if_neg h3] at K
    refine wp_aload_n 0 dX8_treatiesOf_7 rfl rfl rfl ?_
    refine wp_getR 8 4 kcX8 kfX8_18 rfl lC_9 (congrArg Prod.fst gC_9) rC_9_4 dX8_treatiesOf_8 rfl ?_
    refine wp_iload_n 1 dX8_treatiesOf_11 rfl rfl rfl ?_
    obtain ⟨k4, K⟩ := K
    refine wn_iald lC_12 gC_12 k4 dX8_treatiesOf_12 rfl ?_
    refine wp_goto 17 dX8_treatiesOf_13 (by decide) ?_
    exact wp_ret .int rfl rfl (Nat.le_refl 0) (Nat.le_refl 0) dX8_treatiesOf_17 ⟨rfl, _, rfl, K⟩
theorem eX8_treatiesOf {E : tp_E} {d : Nat} {Q : Int32 → tp_M → Prop} {σ : tp_M}   (x1 : Int32) (K : Ci E TC yX8_isSeat iX8_isSeat d [.int x1] σ (fun v2 σ1 => if v2 = 0 then (Q 0 σ1) else (vp_in x1 4 ∧ (Q (σ1 12 (Int32.toNatClampNeg x1)) σ1)))) : Ci E TC yX8_treatiesOf iX8_treatiesOf (d + 1) [.ref 9, .int x1] σ Q := Ci.of ⟨by decide +kernel, rfl, rfl⟩ (Nat.le_of_ble_eq_true rfl) (bX8_treatiesOf_0  x1 K)
theorem bX8_bearerOf_0 {E : tp_E} {d : Nat} {Q : Int32 → tp_M → Prop} {σ : tp_M}   (x1 : Int32) (K : Ci E TC yX8_placeOf iX8_placeOf d [.ref 9, .int x1] σ (fun v2 σ1 => if 0 ≤ v2 then (Q (v2 / 2) σ1) else (Q (-1) σ1))) : Wi E TC iX8_bearerOf (d + 1) Q 0 [(0, .ref 9), (1, .int x1)] [] σ := by
  refine wp_aload_n 0 dX8_bearerOf_0 rfl rfl rfl ?_
  refine wp_iload_n 1 dX8_bearerOf_1 rfl rfl rfl ?_
  refine wn_callVi (As := [.int x1]) (rest := []) 8 kmX8_49 (by decide) rfl rfl (Nat.le_of_ble_eq_true rfl) lC_9 (congrArg Prod.fst gC_9) dX8_bearerOf_2 rfl ?_
  refine Ci.mono K (fun v2 σ1 K => ?_)
  refine wp_istore_n [1, 2, 0] dX8_bearerOf_5 rfl rfl (by decide) rfl ?_
  show WP _ _ _ _ _ _ _ 6 [(0, .ref 9), (1, .int x1), (2, .int v2)] _ _ _
  refine wp_iload_n 2 dX8_bearerOf_6 rfl rfl rfl ?_
  refine wp_if_ge 14 dX8_bearerOf_7 (by decide) rfl (fun h3 => ?_) (fun h3 => ?_)
  · rw [if_pos h3] at K
    refine wp_iload_n 2 dX8_bearerOf_14 rfl rfl rfl ?_
    refine wp_iconst (v := 2) dX8_bearerOf_15 rfl (by decide) ?_
    refine wp_idiv dX8_bearerOf_16 rfl (by decide) ?_
    exact wp_ret .int rfl rfl (Nat.le_refl 0) (Nat.le_refl 0) dX8_bearerOf_17 ⟨rfl, _, rfl, K⟩
  · rw [if_neg h3] at K
    refine wp_iconst (v := (-1)) dX8_bearerOf_10 rfl (by decide) ?_
    refine wp_goto 17 dX8_bearerOf_11 (by decide) ?_
    exact wp_ret .int rfl rfl (Nat.le_refl 0) (Nat.le_refl 0) dX8_bearerOf_17 ⟨rfl, _, rfl, K⟩
theorem eX8_bearerOf {E : tp_E} {d : Nat} {Q : Int32 → tp_M → Prop} {σ : tp_M}   (x1 : Int32) (K : Ci E TC yX8_placeOf iX8_placeOf d [.ref 9, .int x1] σ (fun v2 σ1 => if 0 ≤ v2 then (Q (v2 / 2) σ1) else (Q (-1) σ1))) : Ci E TC yX8_bearerOf iX8_bearerOf (d + 1) [.ref 9, .int x1] σ Q := Ci.of ⟨by decide +kernel, rfl, rfl⟩ (Nat.le_of_ble_eq_true rfl) (bX8_bearerOf_0  x1 K)
theorem bX8_placeOf_0 {E : tp_E} {d : Nat} {Q : Int32 → tp_M → Prop} {σ : tp_M}   (x1 : Int32) (K : if x1 < 0 then (Q (-3) σ) else (if 8 ≤ x1 then (Q (-3) σ) else (vp_in x1 8 ∧ (Q (σ 13 (Int32.toNatClampNeg x1)) σ)))) : Wi E TC iX8_placeOf d Q 0 [(0, .ref 9), (1, .int x1)] [] σ := by
  refine wp_iload_n 1 dX8_placeOf_0 rfl rfl rfl ?_
  refine wp_if_lt 19 dX8_placeOf_1 (by decide) rfl (fun h1 => ?_) (fun h1 => ?_)
  · rw [if_pos h1] at K
    refine wp_bipush (v := (-3)) dX8_placeOf_19 rfl (by decide) ?_
    exact wp_ret .int rfl rfl (Nat.le_refl 0) (Nat.le_refl 0) dX8_placeOf_21 ⟨rfl, _, rfl, K⟩
  · rw [if_neg h1] at K
    refine wp_iload_n 1 dX8_placeOf_4 rfl rfl rfl ?_
    refine wp_bipush (v := 8) dX8_placeOf_5 rfl (by decide) ?_
    refine wp_icmp_ge 19 dX8_placeOf_7 (by decide) rfl (fun h2 => ?_) (fun h2 => ?_)
    · rw [if_pos h2] at K
      refine wp_bipush (v := (-3)) dX8_placeOf_19 rfl (by decide) ?_
      exact wp_ret .int rfl rfl (Nat.le_refl 0) (Nat.le_refl 0) dX8_placeOf_21 ⟨rfl, _, rfl, K⟩
    · rw [if_neg h2] at K
      refine wp_aload_n 0 dX8_placeOf_10 rfl rfl rfl ?_
      refine wp_getR 8 5 kcX8 kfX8_21 rfl lC_9 (congrArg Prod.fst gC_9) rC_9_5 dX8_placeOf_11 rfl ?_
      refine wp_iload_n 1 dX8_placeOf_14 rfl rfl rfl ?_
      obtain ⟨k3, K⟩ := K
      refine wn_iald lC_13 gC_13 k3 dX8_placeOf_15 rfl ?_
      refine wp_goto 21 dX8_placeOf_16 (by decide) ?_
      exact wp_ret .int rfl rfl (Nat.le_refl 0) (Nat.le_refl 0) dX8_placeOf_21 ⟨rfl, _, rfl, K⟩
theorem eX8_placeOf {E : tp_E} {d : Nat} {Q : Int32 → tp_M → Prop} {σ : tp_M}   (x1 : Int32) (K : if x1 < 0 then (Q (-3) σ) else (if 8 ≤ x1 then (Q (-3) σ) else (vp_in x1 8 ∧ (Q (σ 13 (Int32.toNatClampNeg x1)) σ)))) : Ci E TC yX8_placeOf iX8_placeOf d [.ref 9, .int x1] σ Q := Ci.of ⟨by decide +kernel, rfl, rfl⟩ (Nat.le_of_ble_eq_true rfl) (bX8_placeOf_0  x1 K)
theorem bX8_step_0 {E : tp_E} {d : Nat} {Q : tp_M → Prop} {σ : tp_M}   (x1 : Int32) (K : Ci E TC yX8_isSeat iX8_isSeat d [.int x1] σ (fun v2 σ1 => if v2 = 0 then (Q σ1) else (vp_in x1 4 ∧ (if (σ1 11 (Int32.toNatClampNeg x1)) ≤ 0 then (Q σ1) else (vp_in x1 4 ∧ (vp_in x1 4 ∧ (vp_in x1 4 ∧ (vp_in x1 4 ∧ (Q (tp_u (tp_u σ1 10 (Int32.toNatClampNeg x1) (((σ1 11 (Int32.toNatClampNeg x1)) - (σ1 11 (Int32.toNatClampNeg x1)) / 10 * 10) - 1)) 11 (Int32.toNatClampNeg x1) (((tp_u σ1 10 (Int32.toNatClampNeg x1) (((σ1 11 (Int32.toNatClampNeg x1)) - (σ1 11 (Int32.toNatClampNeg x1)) / 10 * 10) - 1)) 11 (Int32.toNatClampNeg x1)) / 10))))))))))) : Wv E TC iX8_step (d + 1) Q 0 [(0, .ref 9), (1, .int x1)] [] σ := by
  refine wp_iload_n 1 dX8_step_0 rfl rfl rfl ?_
  refine wn_callSi (As := [.int x1]) (rest := []) kmX8_45 (by decide) rfl rfl (Nat.le_of_ble_eq_true rfl) dX8_step_1 rfl ?_
  refine Ci.mono K (fun v2 σ1 K => ?_)
  refine wp_if_eq 44 dX8_step_4 (by decide) rfl (fun h3 => ?_) (fun h3 => ?_)
  · rw [if_pos h3] at K
    exact wp_vret rfl (Nat.le_refl 0) (Nat.le_refl 0) dX8_step_44 ⟨rfl, rfl, K⟩
  · rw [if_neg h3] at K
    refine wp_aload_n 0 dX8_step_7 rfl rfl rfl ?_
    refine wp_getR 8 3 kcX8 kfX8_15 rfl lC_9 (congrArg Prod.fst gC_9) rC_9_3 dX8_step_8 rfl ?_
    refine wp_iload_n 1 dX8_step_11 rfl rfl rfl ?_
    obtain ⟨k4, K⟩ := K
    refine wn_iald lC_11 gC_11 k4 dX8_step_12 rfl ?_
    refine wp_if_le 44 dX8_step_13 (by decide) rfl (fun h5 => ?_) (fun h5 => ?_)
    · rw [if_pos h5] at K
      exact wp_vret rfl (Nat.le_refl 0) (Nat.le_refl 0) dX8_step_44 ⟨rfl, rfl, K⟩
    · rw [if_neg h5] at K
      refine wp_aload_n 0 dX8_step_16 rfl rfl rfl ?_
      refine wp_getR 8 2 kcX8 kfX8_9 rfl lC_9 (congrArg Prod.fst gC_9) rC_9_2 dX8_step_17 rfl ?_
      refine wp_iload_n 1 dX8_step_20 rfl rfl rfl ?_
      refine wp_aload_n 0 dX8_step_21 rfl rfl rfl ?_
      refine wp_getR 8 3 kcX8 kfX8_15 rfl lC_9 (congrArg Prod.fst gC_9) rC_9_3 dX8_step_22 rfl ?_
      refine wp_iload_n 1 dX8_step_25 rfl rfl rfl ?_
      obtain ⟨k6, K⟩ := K
      refine wn_iald lC_11 gC_11 k6 dX8_step_26 rfl ?_
      refine wp_bipush (v := 10) dX8_step_27 rfl (by decide) ?_
      refine wp_irem dX8_step_29 rfl (by decide) ?_
      refine wp_iconst (v := 1) dX8_step_30 rfl (by decide) ?_
      refine wp_isub dX8_step_31 rfl ?_
      obtain ⟨k7, K⟩ := K
      refine wn_iast lC_10 gC_10 k7 dX8_step_32 rfl ?_
      refine wp_aload_n 0 dX8_step_33 rfl rfl rfl ?_
      refine wp_getR 8 3 kcX8 kfX8_15 rfl lC_9 (congrArg Prod.fst gC_9) rC_9_3 dX8_step_34 rfl ?_
      refine wp_iload_n 1 dX8_step_37 rfl rfl rfl ?_
      refine wp_dup2 dX8_step_38 rfl rfl rfl ?_
      obtain ⟨k8, K⟩ := K
      refine wn_iald lC_11 gC_11 k8 dX8_step_39 rfl ?_
      refine wp_bipush (v := 10) dX8_step_40 rfl (by decide) ?_
      refine wp_idiv dX8_step_42 rfl (by decide) ?_
      obtain ⟨k9, K⟩ := K
      refine wn_iast lC_11 gC_11 k9 dX8_step_43 rfl ?_
      exact wp_vret rfl (Nat.le_refl 0) (Nat.le_refl 0) dX8_step_44 ⟨rfl, rfl, K⟩
theorem eX8_step {E : tp_E} {d : Nat} {Q : tp_M → Prop} {σ : tp_M}   (x1 : Int32) (K : Ci E TC yX8_isSeat iX8_isSeat d [.int x1] σ (fun v2 σ1 => if v2 = 0 then (Q σ1) else (vp_in x1 4 ∧ (if (σ1 11 (Int32.toNatClampNeg x1)) ≤ 0 then (Q σ1) else (vp_in x1 4 ∧ (vp_in x1 4 ∧ (vp_in x1 4 ∧ (vp_in x1 4 ∧ (Q (tp_u (tp_u σ1 10 (Int32.toNatClampNeg x1) (((σ1 11 (Int32.toNatClampNeg x1)) - (σ1 11 (Int32.toNatClampNeg x1)) / 10 * 10) - 1)) 11 (Int32.toNatClampNeg x1) (((tp_u σ1 10 (Int32.toNatClampNeg x1) (((σ1 11 (Int32.toNatClampNeg x1)) - (σ1 11 (Int32.toNatClampNeg x1)) / 10 * 10) - 1)) 11 (Int32.toNatClampNeg x1)) / 10))))))))))) : Cv E TC yX8_step iX8_step (d + 1) [.ref 9, .int x1] σ Q := Cv.of ⟨by decide +kernel, rfl, rfl⟩ (Nat.le_of_ble_eq_true rfl) (bX8_step_0  x1 K)
theorem bX8_put_0 {E : tp_E} {d : Nat} {Q : tp_M → Prop} {σ : tp_M}   (x1 : Int32) (x2 : Int32) (K : if x1 < 0 then (Q σ) else (if 8 ≤ x1 then (Q σ) else (vp_in x1 8 ∧ (Q (tp_u σ 13 (Int32.toNatClampNeg x1) x2))))) : Wv E TC iX8_put d Q 0 [(0, .ref 9), (1, .int x1), (2, .int x2)] [] σ := by
  refine wp_iload_n 1 dX8_put_0 rfl rfl rfl ?_
  refine wp_if_lt 17 dX8_put_1 (by decide) rfl (fun h1 => ?_) (fun h1 => ?_)
  · rw [if_pos h1] at K
    exact wp_vret rfl (Nat.le_refl 0) (Nat.le_refl 0) dX8_put_17 ⟨rfl, rfl, K⟩
  · rw [if_neg h1] at K
    refine wp_iload_n 1 dX8_put_4 rfl rfl rfl ?_
    refine wp_bipush (v := 8) dX8_put_5 rfl (by decide) ?_
    refine wp_icmp_ge 17 dX8_put_7 (by decide) rfl (fun h2 => ?_) (fun h2 => ?_)
    · rw [if_pos h2] at K
      exact wp_vret rfl (Nat.le_refl 0) (Nat.le_refl 0) dX8_put_17 ⟨rfl, rfl, K⟩
    · rw [if_neg h2] at K
      refine wp_aload_n 0 dX8_put_10 rfl rfl rfl ?_
      refine wp_getR 8 5 kcX8 kfX8_21 rfl lC_9 (congrArg Prod.fst gC_9) rC_9_5 dX8_put_11 rfl ?_
      refine wp_iload_n 1 dX8_put_14 rfl rfl rfl ?_
      refine wp_iload_n 2 dX8_put_15 rfl rfl rfl ?_
      obtain ⟨k3, K⟩ := K
      refine wn_iast lC_13 gC_13 k3 dX8_put_16 rfl ?_
      exact wp_vret rfl (Nat.le_refl 0) (Nat.le_refl 0) dX8_put_17 ⟨rfl, rfl, K⟩
theorem eX8_put {E : tp_E} {d : Nat} {Q : tp_M → Prop} {σ : tp_M}   (x1 : Int32) (x2 : Int32) (K : if x1 < 0 then (Q σ) else (if 8 ≤ x1 then (Q σ) else (vp_in x1 8 ∧ (Q (tp_u σ 13 (Int32.toNatClampNeg x1) x2))))) : Cv E TC yX8_put iX8_put d [.ref 9, .int x1, .int x2] σ Q := Cv.of ⟨by decide +kernel, rfl, rfl⟩ (Nat.le_of_ble_eq_true rfl) (bX8_put_0  x1 x2 K)
theorem bX8_setRoute_0 {E : tp_E} {d : Nat} {Q : tp_M → Prop} {σ : tp_M}   (x1 : Int32) (x2 : Int32) (K : Ci E TC yX8_isSeat iX8_isSeat d [.int x1] σ (fun v2 σ1 => if v2 = 0 then (Q σ1) else (vp_in x1 4 ∧ (Q (tp_u σ1 11 (Int32.toNatClampNeg x1) x2))))) : Wv E TC iX8_setRoute (d + 1) Q 0 [(0, .ref 9), (1, .int x1), (2, .int x2)] [] σ := by
  refine wp_iload_n 1 dX8_setRoute_0 rfl rfl rfl ?_
  refine wn_callSi (As := [.int x1]) (rest := []) kmX8_45 (by decide) rfl rfl (Nat.le_of_ble_eq_true rfl) dX8_setRoute_1 rfl ?_
  refine Ci.mono K (fun v2 σ1 K => ?_)
  refine wp_if_eq 14 dX8_setRoute_4 (by decide) rfl (fun h3 => ?_) (fun h3 => ?_)
  · rw [if_pos h3] at K
    exact wp_vret rfl (Nat.le_refl 0) (Nat.le_refl 0) dX8_setRoute_14 ⟨rfl, rfl, K⟩
  · rw [if_neg h3] at K
    refine wp_aload_n 0 dX8_setRoute_7 rfl rfl rfl ?_
    refine wp_getR 8 3 kcX8 kfX8_15 rfl lC_9 (congrArg Prod.fst gC_9) rC_9_3 dX8_setRoute_8 rfl ?_
    refine wp_iload_n 1 dX8_setRoute_11 rfl rfl rfl ?_
    refine wp_iload_n 2 dX8_setRoute_12 rfl rfl rfl ?_
    obtain ⟨k4, K⟩ := K
    refine wn_iast lC_11 gC_11 k4 dX8_setRoute_13 rfl ?_
    exact wp_vret rfl (Nat.le_refl 0) (Nat.le_refl 0) dX8_setRoute_14 ⟨rfl, rfl, K⟩
theorem eX8_setRoute {E : tp_E} {d : Nat} {Q : tp_M → Prop} {σ : tp_M}   (x1 : Int32) (x2 : Int32) (K : Ci E TC yX8_isSeat iX8_isSeat d [.int x1] σ (fun v2 σ1 => if v2 = 0 then (Q σ1) else (vp_in x1 4 ∧ (Q (tp_u σ1 11 (Int32.toNatClampNeg x1) x2))))) : Cv E TC yX8_setRoute iX8_setRoute (d + 1) [.ref 9, .int x1, .int x2] σ Q := Cv.of ⟨by decide +kernel, rfl, rfl⟩ (Nat.le_of_ble_eq_true rfl) (bX8_setRoute_0  x1 x2 K)
theorem bX8_isAtHand_0 {E : tp_E} {d : Nat} {Q : Int32 → tp_M → Prop} {σ : tp_M}   (x1 : Int32) (x2 : Int32) (K : Ci E TC yX8_bearerOf iX8_bearerOf d [.ref 9, .int x1] σ (fun v2 σ1 => if v2 = (-1) then (Ci E TC yX8_placeOf iX8_placeOf d [.ref 9, .int x1] σ1 (fun v11 σ10 => if v11 = (-1) then (Q 1 σ10) else (Q 0 σ10))) else (if v2 = x2 then (Q 0 σ1) else (Ci E TC yX8_roomOf iX8_roomOf d [.ref 9, .int v2] σ1 (fun v6 σ5 => Ci E TC yX8_roomOf iX8_roomOf d [.ref 9, .int x2] σ5 (fun v8 σ7 => if v6 = v8 then (Q 1 σ7) else (Q 0 σ7))))))) : Wi E TC iX8_isAtHand (d + 1) Q 0 [(0, .ref 9), (1, .int x1), (2, .int x2)] [] σ := by
  refine wp_aload_n 0 dX8_isAtHand_0 rfl rfl rfl ?_
  refine wp_iload_n 1 dX8_isAtHand_1 rfl rfl rfl ?_
  refine wn_callVi (As := [.int x1]) (rest := []) 8 kmX8_60 (by decide) rfl rfl (Nat.le_of_ble_eq_true rfl) lC_9 (congrArg Prod.fst gC_9) dX8_isAtHand_2 rfl ?_
  refine Ci.mono K (fun v2 σ1 K => ?_)
  refine wp_istore_n [1, 2, 3, 0] dX8_isAtHand_5 rfl rfl (by decide) rfl ?_
  show WP _ _ _ _ _ _ _ 6 [(0, .ref 9), (1, .int x1), (2, .int x2), (3, .int v2)] _ _ _
  refine wp_iload_n 3 dX8_isAtHand_6 rfl rfl rfl ?_
  refine wp_iconst (v := (-1)) dX8_isAtHand_7 rfl (by decide) ?_
  refine wp_icmp_ne 26 dX8_isAtHand_8 (by decide) rfl (fun h3 => ?_) (fun h3 => ?_)
  · rw [if_neg h3] at K
    refine wp_iload_n 3 dX8_isAtHand_26 rfl rfl rfl ?_
    refine wp_iload_n 2 dX8_isAtHand_27 rfl rfl rfl ?_
    refine wp_icmp_eq 48 dX8_isAtHand_28 (by decide) rfl (fun h4 => ?_) (fun h4 => ?_)
    · rw [if_pos h4] at K
      refine wp_iconst (v := 0) dX8_isAtHand_48 rfl (by decide) ?_
      exact wp_ret .boolean rfl rfl (Nat.le_refl 0) (Nat.le_refl 0) dX8_isAtHand_49 ⟨rfl, _, rfl, K⟩
    · rw [if_neg h4] at K
      refine wp_aload_n 0 dX8_isAtHand_31 rfl rfl rfl ?_
      refine wp_iload_n 3 dX8_isAtHand_32 rfl rfl rfl ?_
      refine wn_callVi (As := [.int v2]) (rest := []) 8 kmX8_63 (by decide) rfl rfl (Nat.le_of_ble_eq_true rfl) lC_9 (congrArg Prod.fst gC_9) dX8_isAtHand_33 rfl ?_
      refine Ci.mono K (fun v6 σ5 K => ?_)
      refine wp_aload_n 0 dX8_isAtHand_36 rfl rfl rfl ?_
      refine wp_iload_n 2 dX8_isAtHand_37 rfl rfl rfl ?_
      refine wn_callVi (As := [.int x2]) (rest := [.int v6]) 8 kmX8_63 (by decide) rfl rfl (Nat.le_of_ble_eq_true rfl) lC_9 (congrArg Prod.fst gC_9) dX8_isAtHand_38 rfl ?_
      refine Ci.mono K (fun v8 σ7 K => ?_)
      refine wp_icmp_ne 48 dX8_isAtHand_41 (by decide) rfl (fun h9 => ?_) (fun h9 => ?_)
      · rw [if_neg h9] at K
        refine wp_iconst (v := 0) dX8_isAtHand_48 rfl (by decide) ?_
        exact wp_ret .boolean rfl rfl (Nat.le_refl 0) (Nat.le_refl 0) dX8_isAtHand_49 ⟨rfl, _, rfl, K⟩
      · rw [if_pos h9] at K
        refine wp_iconst (v := 1) dX8_isAtHand_44 rfl (by decide) ?_
        refine wp_goto 49 dX8_isAtHand_45 (by decide) ?_
        exact wp_ret .boolean rfl rfl (Nat.le_refl 0) (Nat.le_refl 0) dX8_isAtHand_49 ⟨rfl, _, rfl, K⟩
  · rw [if_pos h3] at K
    refine wp_aload_n 0 dX8_isAtHand_11 rfl rfl rfl ?_
    refine wp_iload_n 1 dX8_isAtHand_12 rfl rfl rfl ?_
    refine wn_callVi (As := [.int x1]) (rest := []) 8 kmX8_49 (by decide) rfl rfl (Nat.le_of_ble_eq_true rfl) lC_9 (congrArg Prod.fst gC_9) dX8_isAtHand_13 rfl ?_
    refine Ci.mono K (fun v11 σ10 K => ?_)
    refine wp_iconst (v := (-1)) dX8_isAtHand_16 rfl (by decide) ?_
    refine wp_icmp_ne 24 dX8_isAtHand_17 (by decide) rfl (fun h12 => ?_) (fun h12 => ?_)
    · rw [if_neg h12] at K
      refine wp_iconst (v := 0) dX8_isAtHand_24 rfl (by decide) ?_
      exact wp_ret .boolean rfl rfl (Nat.le_refl 0) (Nat.le_refl 0) dX8_isAtHand_25 ⟨rfl, _, rfl, K⟩
    · rw [if_pos h12] at K
      refine wp_iconst (v := 1) dX8_isAtHand_20 rfl (by decide) ?_
      refine wp_goto 25 dX8_isAtHand_21 (by decide) ?_
      exact wp_ret .boolean rfl rfl (Nat.le_refl 0) (Nat.le_refl 0) dX8_isAtHand_25 ⟨rfl, _, rfl, K⟩
theorem eX8_isAtHand {E : tp_E} {d : Nat} {Q : Int32 → tp_M → Prop} {σ : tp_M}   (x1 : Int32) (x2 : Int32) (K : Ci E TC yX8_bearerOf iX8_bearerOf d [.ref 9, .int x1] σ (fun v2 σ1 => if v2 = (-1) then (Ci E TC yX8_placeOf iX8_placeOf d [.ref 9, .int x1] σ1 (fun v11 σ10 => if v11 = (-1) then (Q 1 σ10) else (Q 0 σ10))) else (if v2 = x2 then (Q 0 σ1) else (Ci E TC yX8_roomOf iX8_roomOf d [.ref 9, .int v2] σ1 (fun v6 σ5 => Ci E TC yX8_roomOf iX8_roomOf d [.ref 9, .int x2] σ5 (fun v8 σ7 => if v6 = v8 then (Q 1 σ7) else (Q 0 σ7))))))) : Ci E TC yX8_isAtHand iX8_isAtHand (d + 1) [.ref 9, .int x1, .int x2] σ Q := Ci.of ⟨by decide +kernel, rfl, rfl⟩ (Nat.le_of_ble_eq_true rfl) (bX8_isAtHand_0  x1 x2 K)
theorem bX8_setTreaty_0 {E : tp_E} {d : Nat} {Q : tp_M → Prop} {σ : tp_M}   (x1 : Int32) (x2 : Int32) (x3 : Int32) (K : Ci E TC yX8_isSeat iX8_isSeat d [.int x1] σ (fun v2 σ1 => if v2 = 0 then (Q σ1) else (Ci E TC yX8_isSeat iX8_isSeat d [.int x2] σ1 (fun v5 σ4 => if v5 = 0 then (Q σ4) else (if x3 = 0 then (vp_in x1 4 ∧ (vp_in x1 4 ∧ (Q (tp_u σ4 12 (Int32.toNatClampNeg x1) ((σ4 12 (Int32.toNatClampNeg x1)) &&& ((1 <<< (x2 &&& 31)) ^^^ (-1))))))) else (vp_in x1 4 ∧ (vp_in x1 4 ∧ (Q (tp_u σ4 12 (Int32.toNatClampNeg x1) ((σ4 12 (Int32.toNatClampNeg x1)) ||| (1 <<< (x2 &&& 31)))))))))))) : Wv E TC iX8_setTreaty (d + 1) Q 0 [(0, .ref 9), (1, .int x1), (2, .int x2), (3, .int x3)] [] σ := by
  refine wp_iload_n 1 dX8_setTreaty_0 rfl rfl rfl ?_
  refine wn_callSi (As := [.int x1]) (rest := []) kmX8_45 (by decide) rfl rfl (Nat.le_of_ble_eq_true rfl) dX8_setTreaty_1 rfl ?_
  refine Ci.mono K (fun v2 σ1 K => ?_)
  refine wp_if_eq 49 dX8_setTreaty_4 (by decide) rfl (fun h3 => ?_) (fun h3 => ?_)
  · rw [if_pos h3] at K
    exact wp_vret rfl (Nat.le_refl 0) (Nat.le_refl 0) dX8_setTreaty_49 ⟨rfl, rfl, K⟩
  · rw [if_neg h3] at K
    refine wp_iload_n 2 dX8_setTreaty_7 rfl rfl rfl ?_
    refine wn_callSi (As := [.int x2]) (rest := []) kmX8_45 (by decide) rfl rfl (Nat.le_of_ble_eq_true rfl) dX8_setTreaty_8 rfl ?_
    refine Ci.mono K (fun v5 σ4 K => ?_)
    refine wp_if_eq 49 dX8_setTreaty_11 (by decide) rfl (fun h6 => ?_) (fun h6 => ?_)
    · rw [if_pos h6] at K
      exact wp_vret rfl (Nat.le_refl 0) (Nat.le_refl 0) dX8_setTreaty_49 ⟨rfl, rfl, K⟩
    · rw [if_neg h6] at K
      refine wp_aload_n 0 dX8_setTreaty_14 rfl rfl rfl ?_
      refine wp_getR 8 4 kcX8 kfX8_18 rfl lC_9 (congrArg Prod.fst gC_9) rC_9_4 dX8_setTreaty_15 rfl ?_
      refine wp_iload_n 1 dX8_setTreaty_18 rfl rfl rfl ?_
      refine wp_iload_n 3 dX8_setTreaty_19 rfl rfl rfl ?_
      refine wp_if_eq 36 dX8_setTreaty_20 (by decide) rfl (fun h7 => ?_) (fun h7 => ?_)
      · rw [if_pos h7] at K
        refine wp_aload_n 0 dX8_setTreaty_36 rfl rfl rfl ?_
        refine wp_getR 8 4 kcX8 kfX8_18 rfl lC_9 (congrArg Prod.fst gC_9) rC_9_4 dX8_setTreaty_37 rfl ?_
        refine wp_iload_n 1 dX8_setTreaty_40 rfl rfl rfl ?_
        obtain ⟨k8, K⟩ := K
        refine wn_iald lC_12 gC_12 k8 dX8_setTreaty_41 rfl ?_
        refine wp_iconst (v := 1) dX8_setTreaty_42 rfl (by decide) ?_
        refine wp_iload_n 2 dX8_setTreaty_43 rfl rfl rfl ?_
        refine wp_ishl dX8_setTreaty_44 rfl ?_
        refine wp_iconst (v := (-1)) dX8_setTreaty_45 rfl (by decide) ?_
        refine wp_ixor dX8_setTreaty_46 rfl ?_
        refine wp_iand dX8_setTreaty_47 rfl ?_
        obtain ⟨k9, K⟩ := K
        refine wn_iast lC_12 gC_12 k9 dX8_setTreaty_48 rfl ?_
        exact wp_vret rfl (Nat.le_refl 0) (Nat.le_refl 0) dX8_setTreaty_49 ⟨rfl, rfl, K⟩
      · rw [if_neg h7] at K
        refine wp_aload_n 0 dX8_setTreaty_23 rfl rfl rfl ?_
        refine wp_getR 8 4 kcX8 kfX8_18 rfl lC_9 (congrArg Prod.fst gC_9) rC_9_4 dX8_setTreaty_24 rfl ?_
        refine wp_iload_n 1 dX8_setTreaty_27 rfl rfl rfl ?_
        obtain ⟨k10, K⟩ := K
        refine wn_iald lC_12 gC_12 k10 dX8_setTreaty_28 rfl ?_
        refine wp_iconst (v := 1) dX8_setTreaty_29 rfl (by decide) ?_
        refine wp_iload_n 2 dX8_setTreaty_30 rfl rfl rfl ?_
        refine wp_ishl dX8_setTreaty_31 rfl ?_
        refine wp_ior dX8_setTreaty_32 rfl ?_
        refine wp_goto 48 dX8_setTreaty_33 (by decide) ?_
        obtain ⟨k11, K⟩ := K
        refine wn_iast lC_12 gC_12 k11 dX8_setTreaty_48 rfl ?_
        exact wp_vret rfl (Nat.le_refl 0) (Nat.le_refl 0) dX8_setTreaty_49 ⟨rfl, rfl, K⟩
theorem eX8_setTreaty {E : tp_E} {d : Nat} {Q : tp_M → Prop} {σ : tp_M}   (x1 : Int32) (x2 : Int32) (x3 : Int32) (K : Ci E TC yX8_isSeat iX8_isSeat d [.int x1] σ (fun v2 σ1 => if v2 = 0 then (Q σ1) else (Ci E TC yX8_isSeat iX8_isSeat d [.int x2] σ1 (fun v5 σ4 => if v5 = 0 then (Q σ4) else (if x3 = 0 then (vp_in x1 4 ∧ (vp_in x1 4 ∧ (Q (tp_u σ4 12 (Int32.toNatClampNeg x1) ((σ4 12 (Int32.toNatClampNeg x1)) &&& ((1 <<< (x2 &&& 31)) ^^^ (-1))))))) else (vp_in x1 4 ∧ (vp_in x1 4 ∧ (Q (tp_u σ4 12 (Int32.toNatClampNeg x1) ((σ4 12 (Int32.toNatClampNeg x1)) ||| (1 <<< (x2 &&& 31)))))))))))) : Cv E TC yX8_setTreaty iX8_setTreaty (d + 1) [.ref 9, .int x1, .int x2, .int x3] σ Q := Cv.of ⟨by decide +kernel, rfl, rfl⟩ (Nat.le_of_ble_eq_true rfl) (bX8_setTreaty_0  x1 x2 x3 K)
theorem bX8_roomAfter_0 {E : tp_E} {d : Nat} {Q : Int32 → tp_M → Prop} {σ : tp_M}   (x1 : Int32) (x2 : Int32) (K : Ci E TC yX8_roomOf iX8_roomOf d [.ref 9, .int x1] σ (fun v2 σ1 => Ci E TC yX8_routeOf iX8_routeOf d [.ref 9, .int x1] σ1 (fun v4 σ3 => Wi E TC iX8_roomAfter (d + 1) Q 16 [(2, .int x2), (3, .int v2), (4, .int v4), (5, .int 0)] [] σ3))) : Wi E TC iX8_roomAfter (d + 1) Q 0 [(0, .ref 9), (1, .int x1), (2, .int x2)] [] σ := by
  refine wp_aload_n 0 dX8_roomAfter_0 rfl rfl rfl ?_
  refine wp_iload_n 1 dX8_roomAfter_1 rfl rfl rfl ?_
  refine wn_callVi (As := [.int x1]) (rest := []) 8 kmX8_63 (by decide) rfl rfl (Nat.le_of_ble_eq_true rfl) lC_9 (congrArg Prod.fst gC_9) dX8_roomAfter_2 rfl ?_
  refine Ci.mono K (fun v2 σ1 K => ?_)
  refine wp_istore_n [1, 2, 3, 0] dX8_roomAfter_5 rfl rfl (by decide) rfl ?_
  show WP _ _ _ _ _ _ _ 6 [(0, .ref 9), (1, .int x1), (2, .int x2), (3, .int v2)] _ _ _
  refine wp_aload_n 0 dX8_roomAfter_6 rfl rfl rfl ?_
  refine wp_iload_n 1 dX8_roomAfter_7 rfl rfl rfl ?_
  refine wn_callVi (As := [.int x1]) (rest := []) 8 kmX8_66 (by decide) rfl rfl (Nat.le_of_ble_eq_true rfl) lC_9 (congrArg Prod.fst gC_9) dX8_roomAfter_8 rfl ?_
  refine Ci.mono K (fun v4 σ3 K => ?_)
  refine wp_istore [1, 2, 3, 4, 0] dX8_roomAfter_11 rfl (by decide) rfl ?_
  show WP _ _ _ _ _ _ _ 13 [(0, .ref 9), (1, .int x1), (2, .int x2), (3, .int v2), (4, .int v4)] _ _ _
  refine wp_iconst (v := 0) dX8_roomAfter_13 rfl (by decide) ?_
  refine wp_istore [1, 2, 3, 4, 5, 0] dX8_roomAfter_14 rfl (by decide) rfl ?_
  show WP _ _ _ _ _ _ _ 16 [(0, .ref 9), (1, .int x1), (2, .int x2), (3, .int v2), (4, .int v4), (5, .int 0)] _ _ _
  refine wp_lv [2, 3, 4, 5] rfl ?_
  exact K
theorem eX8_roomAfter {E : tp_E} {d : Nat} {Q : Int32 → tp_M → Prop} {σ : tp_M}   (x1 : Int32) (x2 : Int32) (K : Ci E TC yX8_roomOf iX8_roomOf d [.ref 9, .int x1] σ (fun v2 σ1 => Ci E TC yX8_routeOf iX8_routeOf d [.ref 9, .int x1] σ1 (fun v4 σ3 => Wi E TC iX8_roomAfter (d + 1) Q 16 [(2, .int x2), (3, .int v2), (4, .int v4), (5, .int 0)] [] σ3))) : Ci E TC yX8_roomAfter iX8_roomAfter (d + 1) [.ref 9, .int x1, .int x2] σ Q := Ci.of ⟨by decide +kernel, rfl, rfl⟩ (Nat.le_of_ble_eq_true rfl) (bX8_roomAfter_0  x1 x2 K)
theorem bX8_roomAfter_16 {E : tp_E} {d : Nat} {Q : Int32 → tp_M → Prop} {σ : tp_M}   (x2 : Int32) (x3 : Int32) (x4 : Int32) (x5 : Int32) (K : if x2 ≤ x5 then (Q x3 σ) else (if x4 ≤ 0 then (Q x3 σ) else (Wi E TC iX8_roomAfter (d + 1) Q 16 [(2, .int x2), (3, .int ((x4 - x4 / 10 * 10) - 1)), (4, .int (x4 / 10)), (5, .int (x5 + 1))] [] σ))) : Wi E TC iX8_roomAfter (d + 1) Q 16 [(2, .int x2), (3, .int x3), (4, .int x4), (5, .int x5)] [] σ := by
  refine wp_iload 3 dX8_roomAfter_16 rfl rfl ?_
  refine wp_iload_n 0 dX8_roomAfter_18 rfl rfl rfl ?_
  refine wp_icmp_ge 48 dX8_roomAfter_19 (by decide) rfl (fun h1 => ?_) (fun h1 => ?_)
  · rw [if_pos h1] at K
    refine wp_iload_n 1 dX8_roomAfter_48 rfl rfl rfl ?_
    exact wp_ret .int rfl rfl (Nat.le_refl 0) (Nat.le_refl 0) dX8_roomAfter_49 ⟨rfl, _, rfl, K⟩
  · rw [if_neg h1] at K
    refine wp_iload 2 dX8_roomAfter_22 rfl rfl ?_
    refine wp_if_le 48 dX8_roomAfter_24 (by decide) rfl (fun h2 => ?_) (fun h2 => ?_)
    · rw [if_pos h2] at K
      refine wp_iload_n 1 dX8_roomAfter_48 rfl rfl rfl ?_
      exact wp_ret .int rfl rfl (Nat.le_refl 0) (Nat.le_refl 0) dX8_roomAfter_49 ⟨rfl, _, rfl, K⟩
    · rw [if_neg h2] at K
      refine wp_iload 2 dX8_roomAfter_27 rfl rfl ?_
      refine wp_bipush (v := 10) dX8_roomAfter_29 rfl (by decide) ?_
      refine wp_irem dX8_roomAfter_31 rfl (by decide) ?_
      refine wp_iconst (v := 1) dX8_roomAfter_32 rfl (by decide) ?_
      refine wp_isub dX8_roomAfter_33 rfl ?_
      refine wp_istore_n [1, 0, 2, 3] dX8_roomAfter_34 rfl rfl (by decide) rfl ?_
      show WP _ _ _ _ _ _ _ 35 [(2, .int x2), (3, .int ((x4 - x4 / 10 * 10) - 1)), (4, .int x4), (5, .int x5)] _ _ _
      refine wp_iload 2 dX8_roomAfter_35 rfl rfl ?_
      refine wp_bipush (v := 10) dX8_roomAfter_37 rfl (by decide) ?_
      refine wp_idiv dX8_roomAfter_39 rfl (by decide) ?_
      refine wp_istore [1, 2, 0, 3] dX8_roomAfter_40 rfl (by decide) rfl ?_
      show WP _ _ _ _ _ _ _ 42 [(2, .int x2), (3, .int ((x4 - x4 / 10 * 10) - 1)), (4, .int (x4 / 10)), (5, .int x5)] _ _ _
      refine wp_iinc (v := x5 + 1) 3 [1, 2, 3, 0] dX8_roomAfter_42 rfl (by decide) rfl rfl rfl ?_
      show WP _ _ _ _ _ _ _ 45 [(2, .int x2), (3, .int ((x4 - x4 / 10 * 10) - 1)), (4, .int (x4 / 10)), (5, .int (x5 + 1))] _ _ _
      refine wp_goto 16 dX8_roomAfter_45 (by decide) ?_
      exact K
theorem bX8_roomsCameTo_0 {E : tp_E} {d : Nat} {Q : Int32 → tp_M → Prop} {σ : tp_M}   (x1 : Int32) (x2 : Int32) (K : Ci E TC yX8_routeOf iX8_routeOf d [.ref 9, .int x1] σ (fun v2 σ1 => Wi E TC iX8_roomsCameTo (d + 1) Q 12 [(2, .int x2), (3, .int 0), (4, .int v2), (5, .int 0)] [] σ1)) : Wi E TC iX8_roomsCameTo (d + 1) Q 0 [(0, .ref 9), (1, .int x1), (2, .int x2)] [] σ := by
  refine wp_iconst (v := 0) dX8_roomsCameTo_0 rfl (by decide) ?_
  refine wp_istore_n [1, 2, 3, 0] dX8_roomsCameTo_1 rfl rfl (by decide) rfl ?_
  show WP _ _ _ _ _ _ _ 2 [(0, .ref 9), (1, .int x1), (2, .int x2), (3, .int 0)] _ _ _
  refine wp_aload_n 0 dX8_roomsCameTo_2 rfl rfl rfl ?_
  refine wp_iload_n 1 dX8_roomsCameTo_3 rfl rfl rfl ?_
  refine wn_callVi (As := [.int x1]) (rest := []) 8 kmX8_66 (by decide) rfl rfl (Nat.le_of_ble_eq_true rfl) lC_9 (congrArg Prod.fst gC_9) dX8_roomsCameTo_4 rfl ?_
  refine Ci.mono K (fun v2 σ1 K => ?_)
  refine wp_istore [1, 2, 3, 4, 0] dX8_roomsCameTo_7 rfl (by decide) rfl ?_
  show WP _ _ _ _ _ _ _ 9 [(0, .ref 9), (1, .int x1), (2, .int x2), (3, .int 0), (4, .int v2)] _ _ _
  refine wp_iconst (v := 0) dX8_roomsCameTo_9 rfl (by decide) ?_
  refine wp_istore [1, 2, 3, 4, 5, 0] dX8_roomsCameTo_10 rfl (by decide) rfl ?_
  show WP _ _ _ _ _ _ _ 12 [(0, .ref 9), (1, .int x1), (2, .int x2), (3, .int 0), (4, .int v2), (5, .int 0)] _ _ _
  refine wp_lv [2, 3, 4, 5] rfl ?_
  exact K
theorem eX8_roomsCameTo {E : tp_E} {d : Nat} {Q : Int32 → tp_M → Prop} {σ : tp_M}   (x1 : Int32) (x2 : Int32) (K : Ci E TC yX8_routeOf iX8_routeOf d [.ref 9, .int x1] σ (fun v2 σ1 => Wi E TC iX8_roomsCameTo (d + 1) Q 12 [(2, .int x2), (3, .int 0), (4, .int v2), (5, .int 0)] [] σ1)) : Ci E TC yX8_roomsCameTo iX8_roomsCameTo (d + 1) [.ref 9, .int x1, .int x2] σ Q := Ci.of ⟨by decide +kernel, rfl, rfl⟩ (Nat.le_of_ble_eq_true rfl) (bX8_roomsCameTo_0  x1 x2 K)
theorem bX8_roomsCameTo_12 {E : tp_E} {d : Nat} {Q : Int32 → tp_M → Prop} {σ : tp_M}   (x2 : Int32) (x3 : Int32) (x4 : Int32) (x5 : Int32) (K : if x2 ≤ x5 then (Q x3 σ) else (if x4 ≤ 0 then (Q x3 σ) else (Wi E TC iX8_roomsCameTo (d + 1) Q 12 [(2, .int x2), (3, .int (x3 ||| (1 <<< (((x4 - x4 / 10 * 10) - 1) &&& 31)))), (4, .int (x4 / 10)), (5, .int (x5 + 1))] [] σ))) : Wi E TC iX8_roomsCameTo (d + 1) Q 12 [(2, .int x2), (3, .int x3), (4, .int x4), (5, .int x5)] [] σ := by
  refine wp_iload 3 dX8_roomsCameTo_12 rfl rfl ?_
  refine wp_iload_n 0 dX8_roomsCameTo_14 rfl rfl rfl ?_
  refine wp_icmp_ge 48 dX8_roomsCameTo_15 (by decide) rfl (fun h1 => ?_) (fun h1 => ?_)
  · rw [if_pos h1] at K
    refine wp_iload_n 1 dX8_roomsCameTo_48 rfl rfl rfl ?_
    exact wp_ret .int rfl rfl (Nat.le_refl 0) (Nat.le_refl 0) dX8_roomsCameTo_49 ⟨rfl, _, rfl, K⟩
  · rw [if_neg h1] at K
    refine wp_iload 2 dX8_roomsCameTo_18 rfl rfl ?_
    refine wp_if_le 48 dX8_roomsCameTo_20 (by decide) rfl (fun h2 => ?_) (fun h2 => ?_)
    · rw [if_pos h2] at K
      refine wp_iload_n 1 dX8_roomsCameTo_48 rfl rfl rfl ?_
      exact wp_ret .int rfl rfl (Nat.le_refl 0) (Nat.le_refl 0) dX8_roomsCameTo_49 ⟨rfl, _, rfl, K⟩
    · rw [if_neg h2] at K
      refine wp_iload_n 1 dX8_roomsCameTo_23 rfl rfl rfl ?_
      refine wp_iconst (v := 1) dX8_roomsCameTo_24 rfl (by decide) ?_
      refine wp_iload 2 dX8_roomsCameTo_25 rfl rfl ?_
      refine wp_bipush (v := 10) dX8_roomsCameTo_27 rfl (by decide) ?_
      refine wp_irem dX8_roomsCameTo_29 rfl (by decide) ?_
      refine wp_iconst (v := 1) dX8_roomsCameTo_30 rfl (by decide) ?_
      refine wp_isub dX8_roomsCameTo_31 rfl ?_
      refine wp_ishl dX8_roomsCameTo_32 rfl ?_
      refine wp_ior dX8_roomsCameTo_33 rfl ?_
      refine wp_istore_n [1, 0, 2, 3] dX8_roomsCameTo_34 rfl rfl (by decide) rfl ?_
      show WP _ _ _ _ _ _ _ 35 [(2, .int x2), (3, .int (x3 ||| (1 <<< (((x4 - x4 / 10 * 10) - 1) &&& 31)))), (4, .int x4), (5, .int x5)] _ _ _
      refine wp_iload 2 dX8_roomsCameTo_35 rfl rfl ?_
      refine wp_bipush (v := 10) dX8_roomsCameTo_37 rfl (by decide) ?_
      refine wp_idiv dX8_roomsCameTo_39 rfl (by decide) ?_
      refine wp_istore [1, 2, 0, 3] dX8_roomsCameTo_40 rfl (by decide) rfl ?_
      show WP _ _ _ _ _ _ _ 42 [(2, .int x2), (3, .int (x3 ||| (1 <<< (((x4 - x4 / 10 * 10) - 1) &&& 31)))), (4, .int (x4 / 10)), (5, .int x5)] _ _ _
      refine wp_iinc (v := x5 + 1) 3 [1, 2, 3, 0] dX8_roomsCameTo_42 rfl (by decide) rfl rfl rfl ?_
      show WP _ _ _ _ _ _ _ 45 [(2, .int x2), (3, .int (x3 ||| (1 <<< (((x4 - x4 / 10 * 10) - 1) &&& 31)))), (4, .int (x4 / 10)), (5, .int (x5 + 1))] _ _ _
      refine wp_goto 12 dX8_roomsCameTo_45 (by decide) ?_
      exact K
theorem bX8_become_0 {E : tp_E} {d : Nat} {Q : tp_M → Prop} {σ : tp_M} (o p : Nat) (ho : isSt o) (hp : isSt p)  (K : Q (tp_cp (tp_cp (tp_cp (tp_cp (tp_u (tp_u σ o 0 (σ p 0)) o 1 ((tp_u σ o 0 (σ p 0)) p 1)) (p + 1) (o + 1) (Int32.toNatClampNeg 0) (Int32.toNatClampNeg 0) (Int32.toNatClampNeg 4)) (p + 2) (o + 2) (Int32.toNatClampNeg 0) (Int32.toNatClampNeg 0) (Int32.toNatClampNeg 4)) (p + 3) (o + 3) (Int32.toNatClampNeg 0) (Int32.toNatClampNeg 0) (Int32.toNatClampNeg 4)) (p + 4) (o + 4) (Int32.toNatClampNeg 0) (Int32.toNatClampNeg 0) (Int32.toNatClampNeg 8))) : Wv E TC iX8_become (d + 1) Q 0 [(0, .ref o), (1, .ref p)] [] σ := by
  refine wp_aload_n 0 dX8_become_0 rfl rfl rfl ?_
  refine wp_aload_n 1 dX8_become_1 rfl rfl rfl ?_
  refine wp_getI 8 0 kcX8 kfX8_24 rfl (st_l0 hp) (congrArg Prod.fst (st_g0 hp)) dX8_become_2 rfl ?_
  refine wp_putI 8 0 kcX8 kfX8_24 rfl rfl rfl rfl (st_l0 ho) (congrArg Prod.fst (st_g0 ho)) dX8_become_5 rfl ?_
  refine wp_aload_n 0 dX8_become_8 rfl rfl rfl ?_
  refine wp_aload_n 1 dX8_become_9 rfl rfl rfl ?_
  refine wp_getI 8 1 kcX8 kfX8_28 rfl (st_l0 hp) (congrArg Prod.fst (st_g0 hp)) dX8_become_10 rfl ?_
  refine wp_putI 8 1 kcX8 kfX8_28 rfl rfl rfl rfl (st_l0 ho) (congrArg Prod.fst (st_g0 ho)) dX8_become_13 rfl ?_
  refine wp_aload_n 1 dX8_become_16 rfl rfl rfl ?_
  refine wp_getR 8 2 kcX8 kfX8_9 rfl (st_l0 hp) (congrArg Prod.fst (st_g0 hp)) (st_r2 hp) dX8_become_17 rfl ?_
  refine wp_iconst (v := 0) dX8_become_20 rfl (by decide) ?_
  refine wp_aload_n 0 dX8_become_21 rfl rfl rfl ?_
  refine wp_getR 8 2 kcX8 kfX8_9 rfl (st_l0 ho) (congrArg Prod.fst (st_g0 ho)) (st_r2 ho) dX8_become_22 rfl ?_
  refine wp_iconst (v := 0) dX8_become_25 rfl (by decide) ?_
  refine wp_iconst (v := 4) dX8_become_26 rfl (by decide) ?_
  refine wn_copy tw_600 tw_473 tw_472 tw_50 (Nat.le_of_ble_eq_true rfl) (st_l1 hp) (congrArg Prod.fst (st_g1 hp)) (st_l1 ho) (congrArg Prod.fst (st_g1 ho)) (by decide) (by decide) (by decide) (by rw [(st_g1 hp)]; decide) (by rw [(st_g1 ho)]; decide) dX8_become_27 rfl ?_
  refine wp_aload_n 1 dX8_become_30 rfl rfl rfl ?_
  refine wp_getR 8 3 kcX8 kfX8_15 rfl (st_l0 hp) (congrArg Prod.fst (st_g0 hp)) (st_r3 hp) dX8_become_31 rfl ?_
  refine wp_iconst (v := 0) dX8_become_34 rfl (by decide) ?_
  refine wp_aload_n 0 dX8_become_35 rfl rfl rfl ?_
  refine wp_getR 8 3 kcX8 kfX8_15 rfl (st_l0 ho) (congrArg Prod.fst (st_g0 ho)) (st_r3 ho) dX8_become_36 rfl ?_
  refine wp_iconst (v := 0) dX8_become_39 rfl (by decide) ?_
  refine wp_iconst (v := 4) dX8_become_40 rfl (by decide) ?_
  refine wn_copy tw_600 tw_473 tw_472 tw_50 (Nat.le_of_ble_eq_true rfl) (st_l2 hp) (congrArg Prod.fst (st_g2 hp)) (st_l2 ho) (congrArg Prod.fst (st_g2 ho)) (by decide) (by decide) (by decide) (by rw [(st_g2 hp)]; decide) (by rw [(st_g2 ho)]; decide) dX8_become_41 rfl ?_
  refine wp_aload_n 1 dX8_become_44 rfl rfl rfl ?_
  refine wp_getR 8 4 kcX8 kfX8_18 rfl (st_l0 hp) (congrArg Prod.fst (st_g0 hp)) (st_r4 hp) dX8_become_45 rfl ?_
  refine wp_iconst (v := 0) dX8_become_48 rfl (by decide) ?_
  refine wp_aload_n 0 dX8_become_49 rfl rfl rfl ?_
  refine wp_getR 8 4 kcX8 kfX8_18 rfl (st_l0 ho) (congrArg Prod.fst (st_g0 ho)) (st_r4 ho) dX8_become_50 rfl ?_
  refine wp_iconst (v := 0) dX8_become_53 rfl (by decide) ?_
  refine wp_iconst (v := 4) dX8_become_54 rfl (by decide) ?_
  refine wn_copy tw_600 tw_473 tw_472 tw_50 (Nat.le_of_ble_eq_true rfl) (st_l3 hp) (congrArg Prod.fst (st_g3 hp)) (st_l3 ho) (congrArg Prod.fst (st_g3 ho)) (by decide) (by decide) (by decide) (by rw [(st_g3 hp)]; decide) (by rw [(st_g3 ho)]; decide) dX8_become_55 rfl ?_
  refine wp_aload_n 1 dX8_become_58 rfl rfl rfl ?_
  refine wp_getR 8 5 kcX8 kfX8_21 rfl (st_l0 hp) (congrArg Prod.fst (st_g0 hp)) (st_r5 hp) dX8_become_59 rfl ?_
  refine wp_iconst (v := 0) dX8_become_62 rfl (by decide) ?_
  refine wp_aload_n 0 dX8_become_63 rfl rfl rfl ?_
  refine wp_getR 8 5 kcX8 kfX8_21 rfl (st_l0 ho) (congrArg Prod.fst (st_g0 ho)) (st_r5 ho) dX8_become_64 rfl ?_
  refine wp_iconst (v := 0) dX8_become_67 rfl (by decide) ?_
  refine wp_bipush (v := 8) dX8_become_68 rfl (by decide) ?_
  refine wn_copy tw_600 tw_473 tw_472 tw_50 (Nat.le_of_ble_eq_true rfl) (st_l4 hp) (congrArg Prod.fst (st_g4 hp)) (st_l4 ho) (congrArg Prod.fst (st_g4 ho)) (by decide) (by decide) (by decide) (by rw [(st_g4 hp)]; decide) (by rw [(st_g4 ho)]; decide) dX8_become_70 rfl ?_
  exact wp_vret rfl (Nat.le_refl 0) (Nat.le_refl 0) dX8_become_73 ⟨rfl, rfl, K⟩
theorem eX8_become {E : tp_E} {d : Nat} {Q : tp_M → Prop} {σ : tp_M} (o p : Nat) (ho : isSt o) (hp : isSt p)  (K : Q (tp_cp (tp_cp (tp_cp (tp_cp (tp_u (tp_u σ o 0 (σ p 0)) o 1 ((tp_u σ o 0 (σ p 0)) p 1)) (p + 1) (o + 1) (Int32.toNatClampNeg 0) (Int32.toNatClampNeg 0) (Int32.toNatClampNeg 4)) (p + 2) (o + 2) (Int32.toNatClampNeg 0) (Int32.toNatClampNeg 0) (Int32.toNatClampNeg 4)) (p + 3) (o + 3) (Int32.toNatClampNeg 0) (Int32.toNatClampNeg 0) (Int32.toNatClampNeg 4)) (p + 4) (o + 4) (Int32.toNatClampNeg 0) (Int32.toNatClampNeg 0) (Int32.toNatClampNeg 8))) : Cv E TC yX8_become iX8_become (d + 1) [.ref o, .ref p] σ Q := Cv.of ⟨by decide +kernel, rfl, rfl⟩ (Nat.le_of_ble_eq_true rfl) (bX8_become_0 o p ho hp  K)
theorem bX8_open_0 {E : tp_E} {d : Nat} {Q : tp_M → Prop} {σ : tp_M}    (K : Wv E TC iX8_open d Q 12 [(0, .ref 9), (1, .ref 1), (2, .int 0)] [] (tp_u (tp_u σ 9 0 0) 9 1 0)) : Wv E TC iX8_open d Q 0 [(0, .ref 9), (1, .ref 1)] [] σ := by
  refine wp_aload_n 0 dX8_open_0 rfl rfl rfl ?_
  refine wp_iconst (v := 0) dX8_open_1 rfl (by decide) ?_
  refine wp_putI 8 0 kcX8 kfX8_24 rfl rfl rfl rfl lC_9 (congrArg Prod.fst gC_9) dX8_open_2 rfl ?_
  refine wp_aload_n 0 dX8_open_5 rfl rfl rfl ?_
  refine wp_iconst (v := 0) dX8_open_6 rfl (by decide) ?_
  refine wp_putI 8 1 kcX8 kfX8_28 rfl rfl rfl rfl lC_9 (congrArg Prod.fst gC_9) dX8_open_7 rfl ?_
  refine wp_iconst (v := 0) dX8_open_10 rfl (by decide) ?_
  refine wp_istore_n [1, 2, 0] dX8_open_11 rfl rfl (by decide) rfl ?_
  show WP _ _ _ _ _ _ _ 12 [(0, .ref 9), (1, .ref 1), (2, .int 0)] _ _ _
  exact K
theorem eX8_open {E : tp_E} {d : Nat} {Q : tp_M → Prop} {σ : tp_M}    (K : Wv E TC iX8_open d Q 12 [(0, .ref 9), (1, .ref 1), (2, .int 0)] [] (tp_u (tp_u σ 9 0 0) 9 1 0)) : Cv E TC yX8_open iX8_open d [.ref 9, .ref 1] σ Q := Cv.of ⟨by decide +kernel, rfl, rfl⟩ (Nat.le_of_ble_eq_true rfl) (bX8_open_0   K)
theorem bX8_open_12 {E : tp_E} {d : Nat} {Q : tp_M → Prop} {σ : tp_M}   (x2 : Int32) (K : if 4 ≤ x2 then (Wv E TC iX8_open d Q 51 [(0, .ref 9), (1, .ref 1), (2, .int 0)] [] σ) else (vp_in x2 4 ∧ (vp_in x2 4 ∧ (vp_in x2 4 ∧ (vp_in x2 4 ∧ (Wv E TC iX8_open d Q 12 [(0, .ref 9), (1, .ref 1), (2, .int (x2 + 1))] [] (tp_u (tp_u (tp_u σ 10 (Int32.toNatClampNeg x2) (σ 3 (Int32.toNatClampNeg x2))) 11 (Int32.toNatClampNeg x2) 0) 12 (Int32.toNatClampNeg x2) 0))))))) : Wv E TC iX8_open d Q 12 [(0, .ref 9), (1, .ref 1), (2, .int x2)] [] σ := by
  refine wp_iload_n 2 dX8_open_12 rfl rfl rfl ?_
  refine wp_iconst (v := 4) dX8_open_13 rfl (by decide) ?_
  refine wp_icmp_ge 49 dX8_open_14 (by decide) rfl (fun h1 => ?_) (fun h1 => ?_)
  · rw [if_pos h1] at K
    refine wp_iconst (v := 0) dX8_open_49 rfl (by decide) ?_
    refine wp_istore_n [1, 2, 0] dX8_open_50 rfl rfl (by decide) rfl ?_
    show WP _ _ _ _ _ _ _ 51 [(0, .ref 9), (1, .ref 1), (2, .int 0)] _ _ _
    exact K
  · rw [if_neg h1] at K
    refine wp_aload_n 0 dX8_open_17 rfl rfl rfl ?_
    refine wp_getR 8 2 kcX8 kfX8_9 rfl lC_9 (congrArg Prod.fst gC_9) rC_9_2 dX8_open_18 rfl ?_
    refine wp_iload_n 2 dX8_open_21 rfl rfl rfl ?_
    refine wp_aload_n 1 dX8_open_22 rfl rfl rfl ?_
    refine wp_getR 5 7 kcX5 kfX8_37 rfl lC_1 (congrArg Prod.fst gC_1) rC_1_7 dX8_open_23 rfl ?_
    refine wp_iload_n 2 dX8_open_26 rfl rfl rfl ?_
    obtain ⟨k2, K⟩ := K
    refine wn_iald lC_3 gC_3 k2 dX8_open_27 rfl ?_
    obtain ⟨k3, K⟩ := K
    refine wn_iast lC_10 gC_10 k3 dX8_open_28 rfl ?_
    refine wp_aload_n 0 dX8_open_29 rfl rfl rfl ?_
    refine wp_getR 8 3 kcX8 kfX8_15 rfl lC_9 (congrArg Prod.fst gC_9) rC_9_3 dX8_open_30 rfl ?_
    refine wp_iload_n 2 dX8_open_33 rfl rfl rfl ?_
    refine wp_iconst (v := 0) dX8_open_34 rfl (by decide) ?_
    obtain ⟨k4, K⟩ := K
    refine wn_iast lC_11 gC_11 k4 dX8_open_35 rfl ?_
    refine wp_aload_n 0 dX8_open_36 rfl rfl rfl ?_
    refine wp_getR 8 4 kcX8 kfX8_18 rfl lC_9 (congrArg Prod.fst gC_9) rC_9_4 dX8_open_37 rfl ?_
    refine wp_iload_n 2 dX8_open_40 rfl rfl rfl ?_
    refine wp_iconst (v := 0) dX8_open_41 rfl (by decide) ?_
    obtain ⟨k5, K⟩ := K
    refine wn_iast lC_12 gC_12 k5 dX8_open_42 rfl ?_
    refine wp_iinc (v := x2 + 1) 2 [1, 2, 0] dX8_open_43 rfl (by decide) rfl rfl rfl ?_
    show WP _ _ _ _ _ _ _ 46 [(0, .ref 9), (1, .ref 1), (2, .int (x2 + 1))] _ _ _
    refine wp_goto 12 dX8_open_46 (by decide) ?_
    exact K
theorem bX8_open_51 {E : tp_E} {d : Nat} {Q : tp_M → Prop} {σ : tp_M}   (x2 : Int32) (K : if 8 ≤ x2 then (Q σ) else (if (σ 1 4) ≤ x2 then (vp_in x2 8 ∧ (Wv E TC iX8_open d Q 51 [(0, .ref 9), (1, .ref 1), (2, .int (x2 + 1))] [] (tp_u σ 13 (Int32.toNatClampNeg x2) (-3)))) else (vp_in x2 8 ∧ (Wv E TC iX8_open d Q 51 [(0, .ref 9), (1, .ref 1), (2, .int (x2 + 1))] [] (tp_u σ 13 (Int32.toNatClampNeg x2) (-1)))))) : Wv E TC iX8_open d Q 51 [(0, .ref 9), (1, .ref 1), (2, .int x2)] [] σ := by
  refine wp_iload_n 2 dX8_open_51 rfl rfl rfl ?_
  refine wp_bipush (v := 8) dX8_open_52 rfl (by decide) ?_
  refine wp_icmp_ge 83 dX8_open_54 (by decide) rfl (fun h1 => ?_) (fun h1 => ?_)
  · rw [if_pos h1] at K
    exact wp_vret rfl (Nat.le_refl 0) (Nat.le_refl 0) dX8_open_83 ⟨rfl, rfl, K⟩
  · rw [if_neg h1] at K
    refine wp_aload_n 0 dX8_open_57 rfl rfl rfl ?_
    refine wp_getR 8 5 kcX8 kfX8_21 rfl lC_9 (congrArg Prod.fst gC_9) rC_9_5 dX8_open_58 rfl ?_
    refine wp_iload_n 2 dX8_open_61 rfl rfl rfl ?_
    refine wp_iload_n 2 dX8_open_62 rfl rfl rfl ?_
    refine wp_aload_n 1 dX8_open_63 rfl rfl rfl ?_
    refine wp_getI 5 4 kcX5 kfX8_42 rfl lC_1 (congrArg Prod.fst gC_1) dX8_open_64 rfl ?_
    refine wp_icmp_ge 74 dX8_open_67 (by decide) rfl (fun h2 => ?_) (fun h2 => ?_)
    · rw [if_pos h2] at K
      refine wp_bipush (v := (-3)) dX8_open_74 rfl (by decide) ?_
      obtain ⟨k3, K⟩ := K
      refine wn_iast lC_13 gC_13 k3 dX8_open_76 rfl ?_
      refine wp_iinc (v := x2 + 1) 2 [1, 2, 0] dX8_open_77 rfl (by decide) rfl rfl rfl ?_
      show WP _ _ _ _ _ _ _ 80 [(0, .ref 9), (1, .ref 1), (2, .int (x2 + 1))] _ _ _
      refine wp_goto 51 dX8_open_80 (by decide) ?_
      exact K
    · rw [if_neg h2] at K
      refine wp_iconst (v := (-1)) dX8_open_70 rfl (by decide) ?_
      refine wp_goto 76 dX8_open_71 (by decide) ?_
      obtain ⟨k4, K⟩ := K
      refine wn_iast lC_13 gC_13 k4 dX8_open_76 rfl ?_
      refine wp_iinc (v := x2 + 1) 2 [1, 2, 0] dX8_open_77 rfl (by decide) rfl rfl rfl ?_
      show WP _ _ _ _ _ _ _ 80 [(0, .ref 9), (1, .ref 1), (2, .int (x2 + 1))] _ _ _
      refine wp_goto 51 dX8_open_80 (by decide) ?_
      exact K

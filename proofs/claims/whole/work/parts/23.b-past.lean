theorem bX4_forget_0 {E : tp_E} {d : Nat} {Q : tp_M → Prop} {σ : tp_M}    (K : Q (tp_u σ 37 2 0)) : Wv E TC iX4_forget d Q 0 [(0, .ref 37)] [] σ := by
  refine wp_aload_n 0 dX4_forget_0 rfl rfl rfl ?_
  refine wp_iconst (v := 0) dX4_forget_1 rfl (by decide) ?_
  refine wp_putI 4 2 kcX4 kfX4_18 rfl rfl rfl rfl lC_37 (congrArg Prod.fst gC_37) dX4_forget_2 rfl ?_
  exact wp_vret rfl (Nat.le_refl 0) (Nat.le_refl 0) dX4_forget_5 ⟨rfl, rfl, K⟩
theorem eX4_forget {E : tp_E} {d : Nat} {Q : tp_M → Prop} {σ : tp_M}    (K : Q (tp_u σ 37 2 0)) : Cv E TC yX4_forget iX4_forget d [.ref 37] σ Q := Cv.of ⟨by decide +kernel, rfl, rfl⟩ (Nat.le_of_ble_eq_true rfl) (bX4_forget_0   K)
theorem bX4_remember_0 {E : tp_E} {d : Nat} {Q : tp_M → Prop} {σ : tp_M}    (K : if (σ 37 1) < 0 then (Q σ) else (if (σ 37 1) < 20 then (vp_in (σ 37 1) 20 ∧ (∀ o4 : Nat, 39 + 5 * (Int32.toNatClampNeg (σ 37 1)) = o4 → (Cv E TC yX8_become iX8_become d [.ref o4, .ref 9] σ (fun σ5 => Q (tp_u (tp_u σ5 37 1 (((σ5 37 1) + 1) - ((σ5 37 1) + 1) / 20 * 20)) 37 2 (if 20 < (((tp_u σ5 37 1 (((σ5 37 1) + 1) - ((σ5 37 1) + 1) / 20 * 20)) 37 2) + 1) then 20 else (((tp_u σ5 37 1 (((σ5 37 1) + 1) - ((σ5 37 1) + 1) / 20 * 20)) 37 2) + 1))))))) else (Q σ))) : Wv E TC iX4_remember (d + 1) Q 0 [(0, .ref 37), (1, .ref 9)] [] σ := by
  refine wp_aload_n 0 dX4_remember_0 rfl rfl rfl ?_
  refine wp_getI 4 1 kcX4 kfX4_22 rfl lC_37 (congrArg Prod.fst gC_37) dX4_remember_1 rfl ?_
  refine wp_if_lt 16 dX4_remember_4 (by decide) rfl (fun h1 => ?_) (fun h1 => ?_)
  · rw [if_pos h1] at K
    exact wp_vret rfl (Nat.le_refl 0) (Nat.le_refl 0) dX4_remember_16 ⟨rfl, rfl, K⟩
  · rw [if_neg h1] at K
    refine wp_aload_n 0 dX4_remember_7 rfl rfl rfl ?_
    refine wp_getI 4 1 kcX4 kfX4_22 rfl lC_37 (congrArg Prod.fst gC_37) dX4_remember_8 rfl ?_
    refine wp_bipush (v := 20) dX4_remember_11 rfl (by decide) ?_
    refine wp_icmp_lt 17 dX4_remember_13 (by decide) rfl (fun h2 => ?_) (fun h2 => ?_)
    · rw [if_pos h2] at K
      refine wp_aload_n 0 dX4_remember_17 rfl rfl rfl ?_
      refine wp_getR 4 0 kcX4 kfX4_11 rfl lC_37 (congrArg Prod.fst gC_37) rC_37_0 dX4_remember_18 rfl ?_
      refine wp_aload_n 0 dX4_remember_21 rfl rfl rfl ?_
      refine wp_getI 4 1 kcX4 kfX4_22 rfl lC_37 (congrArg Prod.fst gC_37) dX4_remember_22 rfl ?_
      obtain ⟨k3, K⟩ := K
      obtain ⟨o4, hzo4⟩ : ∃ z, 39 + 5 * (Int32.toNatClampNeg (σ 37 1)) = z := ⟨_, rfl⟩
      have ho4 : isSt o4 := by rw [← hzo4]; exact past_ok k3
      refine wp_aald 3 (by decide) lC_38 (congrArg Prod.fst gC_38) (by rw [gC_38]; exact k3) ((past_rf k3).trans (by rw [hzo4])) dX4_remember_25 rfl ?_
      replace K := K o4 hzo4
      refine wp_aload_n 1 dX4_remember_26 rfl rfl rfl ?_
      refine wn_callVv (As := [.ref 9]) (rest := []) 8 kmX4_25 (by decide) rfl rfl (Nat.le_of_ble_eq_true rfl) (st_l0 ho4) (congrArg Prod.fst (st_g0 ho4)) dX4_remember_27 rfl ?_
      refine Cv.mono K (fun σ5 K => ?_)
      refine wp_aload_n 0 dX4_remember_30 rfl rfl rfl ?_
      refine wp_aload_n 0 dX4_remember_31 rfl rfl rfl ?_
      refine wp_getI 4 1 kcX4 kfX4_22 rfl lC_37 (congrArg Prod.fst gC_37) dX4_remember_32 rfl ?_
      refine wp_iconst (v := 1) dX4_remember_35 rfl (by decide) ?_
      refine wp_iadd dX4_remember_36 rfl ?_
      refine wp_bipush (v := 20) dX4_remember_37 rfl (by decide) ?_
      refine wp_irem dX4_remember_39 rfl (by decide) ?_
      refine wp_putI 4 1 kcX4 kfX4_22 rfl rfl rfl rfl lC_37 (congrArg Prod.fst gC_37) dX4_remember_40 rfl ?_
      refine wp_aload_n 0 dX4_remember_43 rfl rfl rfl ?_
      refine wp_aload_n 0 dX4_remember_44 rfl rfl rfl ?_
      refine wp_getI 4 2 kcX4 kfX4_18 rfl lC_37 (congrArg Prod.fst gC_37) dX4_remember_45 rfl ?_
      refine wp_iconst (v := 1) dX4_remember_48 rfl (by decide) ?_
      refine wp_iadd dX4_remember_49 rfl ?_
      refine wp_bipush (v := 20) dX4_remember_50 rfl (by decide) ?_
      refine wn_min tw_601 tw_602 tw_51 tw_603 (Nat.le_of_ble_eq_true rfl) dX4_remember_52 rfl ?_
      refine wp_putI 4 2 kcX4 kfX4_18 rfl rfl rfl rfl lC_37 (congrArg Prod.fst gC_37) dX4_remember_55 rfl ?_
      exact wp_vret rfl (Nat.le_refl 0) (Nat.le_refl 0) dX4_remember_58 ⟨rfl, rfl, K⟩
    · rw [if_neg h2] at K
      exact wp_vret rfl (Nat.le_refl 0) (Nat.le_refl 0) dX4_remember_16 ⟨rfl, rfl, K⟩
theorem eX4_remember {E : tp_E} {d : Nat} {Q : tp_M → Prop} {σ : tp_M}    (K : if (σ 37 1) < 0 then (Q σ) else (if (σ 37 1) < 20 then (vp_in (σ 37 1) 20 ∧ (∀ o4 : Nat, 39 + 5 * (Int32.toNatClampNeg (σ 37 1)) = o4 → (Cv E TC yX8_become iX8_become d [.ref o4, .ref 9] σ (fun σ5 => Q (tp_u (tp_u σ5 37 1 (((σ5 37 1) + 1) - ((σ5 37 1) + 1) / 20 * 20)) 37 2 (if 20 < (((tp_u σ5 37 1 (((σ5 37 1) + 1) - ((σ5 37 1) + 1) / 20 * 20)) 37 2) + 1) then 20 else (((tp_u σ5 37 1 (((σ5 37 1) + 1) - ((σ5 37 1) + 1) / 20 * 20)) 37 2) + 1))))))) else (Q σ))) : Cv E TC yX4_remember iX4_remember (d + 1) [.ref 37, .ref 9] σ Q := Cv.of ⟨by decide +kernel, rfl, rfl⟩ (Nat.le_of_ble_eq_true rfl) (bX4_remember_0   K)
theorem bX4_bringBack_0 {E : tp_E} {d : Nat} {Q : Int32 → tp_M → Prop} {σ : tp_M}    (K : if (σ 37 2) = 0 then (Q 0 σ) else (if 0 ≤ ((((σ 37 1) + 20) - 1) - (((σ 37 1) + 20) - 1) / 20 * 20) then (vp_in ((((σ 37 1) + 20) - 1) - (((σ 37 1) + 20) - 1) / 20 * 20) 20 ∧ (∀ o4 : Nat, 39 + 5 * (Int32.toNatClampNeg ((((σ 37 1) + 20) - 1) - (((σ 37 1) + 20) - 1) / 20 * 20)) = o4 → (Cv E TC yX8_become iX8_become d [.ref 9, .ref o4] σ (fun σ5 => Q 1 (tp_u (tp_u σ5 37 1 ((((σ 37 1) + 20) - 1) - (((σ 37 1) + 20) - 1) / 20 * 20)) 37 2 (((tp_u σ5 37 1 ((((σ 37 1) + 20) - 1) - (((σ 37 1) + 20) - 1) / 20 * 20)) 37 2) - 1)))))) else (Q 0 σ))) : Wi E TC iX4_bringBack (d + 1) Q 0 [(0, .ref 37), (1, .ref 9)] [] σ := by
  refine wp_aload_n 0 dX4_bringBack_0 rfl rfl rfl ?_
  refine wp_getI 4 1 kcX4 kfX4_22 rfl lC_37 (congrArg Prod.fst gC_37) dX4_bringBack_1 rfl ?_
  refine wp_bipush (v := 20) dX4_bringBack_4 rfl (by decide) ?_
  refine wp_iadd dX4_bringBack_6 rfl ?_
  refine wp_iconst (v := 1) dX4_bringBack_7 rfl (by decide) ?_
  refine wp_isub dX4_bringBack_8 rfl ?_
  refine wp_bipush (v := 20) dX4_bringBack_9 rfl (by decide) ?_
  refine wp_irem dX4_bringBack_11 rfl (by decide) ?_
  refine wp_istore_n [1, 2, 0] dX4_bringBack_12 rfl rfl (by decide) rfl ?_
  show WP _ _ _ _ _ _ _ 13 [(0, .ref 37), (1, .ref 9), (2, .int ((((σ 37 1) + 20) - 1) - (((σ 37 1) + 20) - 1) / 20 * 20))] _ _ _
  refine wp_aload_n 0 dX4_bringBack_13 rfl rfl rfl ?_
  refine wp_getI 4 2 kcX4 kfX4_18 rfl lC_37 (congrArg Prod.fst gC_37) dX4_bringBack_14 rfl ?_
  refine wp_if_eq 24 dX4_bringBack_17 (by decide) rfl (fun h1 => ?_) (fun h1 => ?_)
  · rw [if_pos h1] at K
    refine wp_iconst (v := 0) dX4_bringBack_24 rfl (by decide) ?_
    exact wp_ret .boolean rfl rfl (Nat.le_refl 0) (Nat.le_refl 0) dX4_bringBack_25 ⟨rfl, _, rfl, K⟩
  · rw [if_neg h1] at K
    refine wp_iload_n 2 dX4_bringBack_20 rfl rfl rfl ?_
    refine wp_if_ge 26 dX4_bringBack_21 (by decide) rfl (fun h2 => ?_) (fun h2 => ?_)
    · rw [if_pos h2] at K
      refine wp_aload_n 1 dX4_bringBack_26 rfl rfl rfl ?_
      refine wp_aload_n 0 dX4_bringBack_27 rfl rfl rfl ?_
      refine wp_getR 4 0 kcX4 kfX4_11 rfl lC_37 (congrArg Prod.fst gC_37) rC_37_0 dX4_bringBack_28 rfl ?_
      refine wp_iload_n 2 dX4_bringBack_31 rfl rfl rfl ?_
      obtain ⟨k3, K⟩ := K
      obtain ⟨o4, hzo4⟩ : ∃ z, 39 + 5 * (Int32.toNatClampNeg ((((σ 37 1) + 20) - 1) - (((σ 37 1) + 20) - 1) / 20 * 20)) = z := ⟨_, rfl⟩
      have ho4 : isSt o4 := by rw [← hzo4]; exact past_ok k3
      refine wp_aald 3 (by decide) lC_38 (congrArg Prod.fst gC_38) (by rw [gC_38]; exact k3) ((past_rf k3).trans (by rw [hzo4])) dX4_bringBack_32 rfl ?_
      replace K := K o4 hzo4
      refine wn_callVv (As := [.ref o4]) (rest := []) 8 kmX4_25 (by decide) rfl rfl (Nat.le_of_ble_eq_true rfl) lC_9 (congrArg Prod.fst gC_9) dX4_bringBack_33 rfl ?_
      refine Cv.mono K (fun σ5 K => ?_)
      refine wp_aload_n 0 dX4_bringBack_36 rfl rfl rfl ?_
      refine wp_iload_n 2 dX4_bringBack_37 rfl rfl rfl ?_
      refine wp_putI 4 1 kcX4 kfX4_22 rfl rfl rfl rfl lC_37 (congrArg Prod.fst gC_37) dX4_bringBack_38 rfl ?_
      refine wp_aload_n 0 dX4_bringBack_41 rfl rfl rfl ?_
      refine wp_dup dX4_bringBack_42 rfl rfl ?_
      refine wp_getI 4 2 kcX4 kfX4_18 rfl lC_37 (congrArg Prod.fst gC_37) dX4_bringBack_43 rfl ?_
      refine wp_iconst (v := 1) dX4_bringBack_46 rfl (by decide) ?_
      refine wp_isub dX4_bringBack_47 rfl ?_
      refine wp_putI 4 2 kcX4 kfX4_18 rfl rfl rfl rfl lC_37 (congrArg Prod.fst gC_37) dX4_bringBack_48 rfl ?_
      refine wp_iconst (v := 1) dX4_bringBack_51 rfl (by decide) ?_
      exact wp_ret .boolean rfl rfl (Nat.le_refl 0) (Nat.le_refl 0) dX4_bringBack_52 ⟨rfl, _, rfl, K⟩
    · rw [if_neg h2] at K
      refine wp_iconst (v := 0) dX4_bringBack_24 rfl (by decide) ?_
      exact wp_ret .boolean rfl rfl (Nat.le_refl 0) (Nat.le_refl 0) dX4_bringBack_25 ⟨rfl, _, rfl, K⟩
theorem eX4_bringBack {E : tp_E} {d : Nat} {Q : Int32 → tp_M → Prop} {σ : tp_M}    (K : if (σ 37 2) = 0 then (Q 0 σ) else (if 0 ≤ ((((σ 37 1) + 20) - 1) - (((σ 37 1) + 20) - 1) / 20 * 20) then (vp_in ((((σ 37 1) + 20) - 1) - (((σ 37 1) + 20) - 1) / 20 * 20) 20 ∧ (∀ o4 : Nat, 39 + 5 * (Int32.toNatClampNeg ((((σ 37 1) + 20) - 1) - (((σ 37 1) + 20) - 1) / 20 * 20)) = o4 → (Cv E TC yX8_become iX8_become d [.ref 9, .ref o4] σ (fun σ5 => Q 1 (tp_u (tp_u σ5 37 1 ((((σ 37 1) + 20) - 1) - (((σ 37 1) + 20) - 1) / 20 * 20)) 37 2 (((tp_u σ5 37 1 ((((σ 37 1) + 20) - 1) - (((σ 37 1) + 20) - 1) / 20 * 20)) 37 2) - 1)))))) else (Q 0 σ))) : Ci E TC yX4_bringBack iX4_bringBack (d + 1) [.ref 37, .ref 9] σ Q := Ci.of ⟨by decide +kernel, rfl, rfl⟩ (Nat.le_of_ble_eq_true rfl) (bX4_bringBack_0   K)

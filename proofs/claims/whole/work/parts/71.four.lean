/-! ===== the four that rest on plan and state are made (laid by wip/gen/ctors.py) ===== -/
def mkTX0 (T : tp_T) (o p w : Nat) : tp_T := (tp_ur (tp_ur (addA o T (2, 11, 4)) o 0 p) o 1 w)
theorem mk_X0 {E : tp_E} {T : tp_T} {σ : tp_M} {o p w d : Nat} {Q : Option Int32 → tp_T → tp_M → Prop} (ho : o < T.1) (hk : (T.2.1 o).1 = 0) (K : ∀ σ', nw σ T.1 1 σ' → Q none (mkTX0 T o p w) σ') : Ct E true (rmk (d + 1) 1 4) yX0_init iX0_init [.ref o, .ref p, .ref w] T σ Q := by
  refine Ct.of (by decide +kernel) rfl (fun _ => rfl) (Nat.le_of_ble_eq_true rfl) ?_
  refine wp_aload_n 0 dX0_init_0 rfl rfl rfl ?_
  refine wp_objInit tw_238 tw_59 tw_60 (show 1 ≤ d + 1 by omega) (show 0 + 12 ≤ 32 * (d + 1) by omega) dX0_init_1 rfl ?_
  refine wp_aload_n 0 dX0_init_4 rfl rfl rfl ?_
  refine wp_iconst (v := 4) dX0_init_5 rfl (by decide) ?_
  refine wp_na (N := 4) 0 2 (by decide) rfl (by decide) (show 0 + 1 ≤ 1 by decide) (show 0 + 4 ≤ 4 by decide) dX0_init_6 kcX0 kfX0_9 rfl rfl rfl rfl (fun z => rfl) (fun z => rfl) ho hk dX0_init_8 ?_
  have l1 : o < (addA o T (2, 11, 4)).1 := addA_l (T := T) (2, 11, 4) ho
  have k1 : ((addA o T (2, 11, 4)).2.1 o).1 = 0 := addA_k (T := T) (2, 11, 4) ho hk
  refine wp_aload_n 0 dX0_init_11 rfl rfl rfl ?_
  refine wp_aload_n 1 dX0_init_12 rfl rfl rfl ?_
  refine wp_putR 0 0 kcX0 kfX0_15 rfl rfl rfl rfl (fun z => rfl) (fun z => rfl) l1 k1 dX0_init_13 rfl ?_
  refine wp_aload_n 0 dX0_init_16 rfl rfl rfl ?_
  refine wp_aload_n 2 dX0_init_17 rfl rfl rfl ?_
  refine wp_putR 0 1 kcX0 kfX0_19 rfl rfl rfl rfl (fun z => rfl) (fun z => rfl) l1 k1 dX0_init_18 rfl ?_
  exact wp_vret rfl (show 0 + 1 ≤ 1 by decide) (show 0 + 4 ≤ 4 by decide) dX0_init_21 (K _ ((nw_0 σ T.1).n))
def mkTX1 (T : tp_T) (o p w : Nat) : tp_T := (tp_ur (tp_ur (addA o (addA o (addA o (addA o (addA o T (2, 11, 84)) (3, 11, 4)) (4, 11, 16)) (5, 11, 4)) (6, 11, 4)) o 0 p) o 1 w)
theorem mk_X1 {E : tp_E} {T : tp_T} {σ : tp_M} {o p w d : Nat} {Q : Option Int32 → tp_T → tp_M → Prop} (ho : o < T.1) (hk : (T.2.1 o).1 = 1) (K : ∀ σ', nw σ T.1 5 σ' → Q none (mkTX1 T o p w) σ') : Ct E true (rmk (d + 1) 5 112) yX1_init iX1_init [.ref o, .ref p, .ref w] T σ Q := by
  refine Ct.of (by decide +kernel) rfl (fun _ => rfl) (Nat.le_of_ble_eq_true rfl) ?_
  refine wp_aload_n 0 dX1_init_0 rfl rfl rfl ?_
  refine wp_objInit tw_258 tw_59 tw_60 (show 1 ≤ d + 1 by omega) (show 0 + 12 ≤ 32 * (d + 1) by omega) dX1_init_1 rfl ?_
  refine wp_aload_n 0 dX1_init_4 rfl rfl rfl ?_
  refine wp_bipush (v := 84) dX1_init_5 rfl (by decide) ?_
  refine wp_na (N := 84) 1 2 (by decide) rfl (by decide) (show 0 + 1 ≤ 5 by decide) (show 0 + 84 ≤ 112 by decide) dX1_init_7 kcX1 kfX1_9 rfl rfl rfl rfl (fun z => rfl) (fun z => rfl) ho hk dX1_init_9 ?_
  have l1 : o < (addA o T (2, 11, 84)).1 := addA_l (T := T) (2, 11, 84) ho
  have k1 : ((addA o T (2, 11, 84)).2.1 o).1 = 1 := addA_k (T := T) (2, 11, 84) ho hk
  refine wp_aload_n 0 dX1_init_12 rfl rfl rfl ?_
  refine wp_iconst (v := 4) dX1_init_13 rfl (by decide) ?_
  refine wp_na (N := 4) 1 3 (by decide) rfl (by decide) (show 0 + 1 + 1 ≤ 5 by decide) (show 0 + 84 + 4 ≤ 112 by decide) dX1_init_14 kcX1 kfX1_15 rfl rfl rfl rfl (fun z => rfl) (fun z => rfl) l1 k1 dX1_init_16 ?_
  have l2 : o < (addA o (addA o T (2, 11, 84)) (3, 11, 4)).1 := addA_l (T := (addA o T (2, 11, 84))) (3, 11, 4) l1
  have k2 : ((addA o (addA o T (2, 11, 84)) (3, 11, 4)).2.1 o).1 = 1 := addA_k (T := (addA o T (2, 11, 84))) (3, 11, 4) l1 k1
  refine wp_aload_n 0 dX1_init_19 rfl rfl rfl ?_
  refine wp_bipush (v := 16) dX1_init_20 rfl (by decide) ?_
  refine wp_na (N := 16) 1 4 (by decide) rfl (by decide) (show 0 + 1 + 1 + 1 ≤ 5 by decide) (show 0 + 84 + 4 + 16 ≤ 112 by decide) dX1_init_22 kcX1 kfX1_18 rfl rfl rfl rfl (fun z => rfl) (fun z => rfl) l2 k2 dX1_init_24 ?_
  have l3 : o < (addA o (addA o (addA o T (2, 11, 84)) (3, 11, 4)) (4, 11, 16)).1 := addA_l (T := (addA o (addA o T (2, 11, 84)) (3, 11, 4))) (4, 11, 16) l2
  have k3 : ((addA o (addA o (addA o T (2, 11, 84)) (3, 11, 4)) (4, 11, 16)).2.1 o).1 = 1 := addA_k (T := (addA o (addA o T (2, 11, 84)) (3, 11, 4))) (4, 11, 16) l2 k2
  refine wp_aload_n 0 dX1_init_27 rfl rfl rfl ?_
  refine wp_iconst (v := 4) dX1_init_28 rfl (by decide) ?_
  refine wp_na (N := 4) 1 5 (by decide) rfl (by decide) (show 0 + 1 + 1 + 1 + 1 ≤ 5 by decide) (show 0 + 84 + 4 + 16 + 4 ≤ 112 by decide) dX1_init_29 kcX1 kfX1_21 rfl rfl rfl rfl (fun z => rfl) (fun z => rfl) l3 k3 dX1_init_31 ?_
  have l4 : o < (addA o (addA o (addA o (addA o T (2, 11, 84)) (3, 11, 4)) (4, 11, 16)) (5, 11, 4)).1 := addA_l (T := (addA o (addA o (addA o T (2, 11, 84)) (3, 11, 4)) (4, 11, 16))) (5, 11, 4) l3
  have k4 : ((addA o (addA o (addA o (addA o T (2, 11, 84)) (3, 11, 4)) (4, 11, 16)) (5, 11, 4)).2.1 o).1 = 1 := addA_k (T := (addA o (addA o (addA o T (2, 11, 84)) (3, 11, 4)) (4, 11, 16))) (5, 11, 4) l3 k3
  refine wp_aload_n 0 dX1_init_34 rfl rfl rfl ?_
  refine wp_iconst (v := 4) dX1_init_35 rfl (by decide) ?_
  refine wp_na (N := 4) 1 6 (by decide) rfl (by decide) (show 0 + 1 + 1 + 1 + 1 + 1 ≤ 5 by decide) (show 0 + 84 + 4 + 16 + 4 + 4 ≤ 112 by decide) dX1_init_36 kcX1 kfX1_24 rfl rfl rfl rfl (fun z => rfl) (fun z => rfl) l4 k4 dX1_init_38 ?_
  have l5 : o < (addA o (addA o (addA o (addA o (addA o T (2, 11, 84)) (3, 11, 4)) (4, 11, 16)) (5, 11, 4)) (6, 11, 4)).1 := addA_l (T := (addA o (addA o (addA o (addA o T (2, 11, 84)) (3, 11, 4)) (4, 11, 16)) (5, 11, 4))) (6, 11, 4) l4
  have k5 : ((addA o (addA o (addA o (addA o (addA o T (2, 11, 84)) (3, 11, 4)) (4, 11, 16)) (5, 11, 4)) (6, 11, 4)).2.1 o).1 = 1 := addA_k (T := (addA o (addA o (addA o (addA o T (2, 11, 84)) (3, 11, 4)) (4, 11, 16)) (5, 11, 4))) (6, 11, 4) l4 k4
  refine wp_aload_n 0 dX1_init_41 rfl rfl rfl ?_
  refine wp_aload_n 1 dX1_init_42 rfl rfl rfl ?_
  refine wp_putR 1 0 kcX1 kfX1_27 rfl rfl rfl rfl (fun z => rfl) (fun z => rfl) l5 k5 dX1_init_43 rfl ?_
  refine wp_aload_n 0 dX1_init_46 rfl rfl rfl ?_
  refine wp_aload_n 2 dX1_init_47 rfl rfl rfl ?_
  refine wp_putR 1 1 kcX1 kfX1_31 rfl rfl rfl rfl (fun z => rfl) (fun z => rfl) l5 k5 dX1_init_48 rfl ?_
  exact wp_vret rfl (show 0 + 1 + 1 + 1 + 1 + 1 ≤ 5 by decide) (show 0 + 84 + 4 + 16 + 4 + 4 ≤ 112 by decide) dX1_init_51 (K _ ((((((nw_0 σ T.1).n).n).n).n).n))
def mkTX7 (T : tp_T) (o p w : Nat) : tp_T := (tp_ur (tp_ur (addA o (addA o (addA o T (2, 11, 4)) (3, 11, 4)) (4, 11, 4)) o 0 p) o 1 w)
theorem mk_X7 {E : tp_E} {T : tp_T} {σ : tp_M} {o p w d : Nat} {Q : Option Int32 → tp_T → tp_M → Prop} (ho : o < T.1) (hk : (T.2.1 o).1 = 7) (K : ∀ σ', nw σ T.1 3 σ' → Q none (mkTX7 T o p w) σ') : Ct E true (rmk (d + 1) 3 12) yX7_init iX7_init [.ref o, .ref p, .ref w] T σ Q := by
  refine Ct.of (by decide +kernel) rfl (fun _ => rfl) (Nat.le_of_ble_eq_true rfl) ?_
  refine wp_aload_n 0 dX7_init_0 rfl rfl rfl ?_
  refine wp_objInit tw_289 tw_59 tw_60 (show 1 ≤ d + 1 by omega) (show 0 + 12 ≤ 32 * (d + 1) by omega) dX7_init_1 rfl ?_
  refine wp_aload_n 0 dX7_init_4 rfl rfl rfl ?_
  refine wp_iconst (v := 4) dX7_init_5 rfl (by decide) ?_
  refine wp_na (N := 4) 7 2 (by decide) rfl (by decide) (show 0 + 1 ≤ 3 by decide) (show 0 + 4 ≤ 12 by decide) dX7_init_6 kcX7 kfX7_9 rfl rfl rfl rfl (fun z => rfl) (fun z => rfl) ho hk dX7_init_8 ?_
  have l1 : o < (addA o T (2, 11, 4)).1 := addA_l (T := T) (2, 11, 4) ho
  have k1 : ((addA o T (2, 11, 4)).2.1 o).1 = 7 := addA_k (T := T) (2, 11, 4) ho hk
  refine wp_aload_n 0 dX7_init_11 rfl rfl rfl ?_
  refine wp_iconst (v := 4) dX7_init_12 rfl (by decide) ?_
  refine wp_na (N := 4) 7 3 (by decide) rfl (by decide) (show 0 + 1 + 1 ≤ 3 by decide) (show 0 + 4 + 4 ≤ 12 by decide) dX7_init_13 kcX7 kfX7_15 rfl rfl rfl rfl (fun z => rfl) (fun z => rfl) l1 k1 dX7_init_15 ?_
  have l2 : o < (addA o (addA o T (2, 11, 4)) (3, 11, 4)).1 := addA_l (T := (addA o T (2, 11, 4))) (3, 11, 4) l1
  have k2 : ((addA o (addA o T (2, 11, 4)) (3, 11, 4)).2.1 o).1 = 7 := addA_k (T := (addA o T (2, 11, 4))) (3, 11, 4) l1 k1
  refine wp_aload_n 0 dX7_init_18 rfl rfl rfl ?_
  refine wp_iconst (v := 4) dX7_init_19 rfl (by decide) ?_
  refine wp_na (N := 4) 7 4 (by decide) rfl (by decide) (show 0 + 1 + 1 + 1 ≤ 3 by decide) (show 0 + 4 + 4 + 4 ≤ 12 by decide) dX7_init_20 kcX7 kfX7_18 rfl rfl rfl rfl (fun z => rfl) (fun z => rfl) l2 k2 dX7_init_22 ?_
  have l3 : o < (addA o (addA o (addA o T (2, 11, 4)) (3, 11, 4)) (4, 11, 4)).1 := addA_l (T := (addA o (addA o T (2, 11, 4)) (3, 11, 4))) (4, 11, 4) l2
  have k3 : ((addA o (addA o (addA o T (2, 11, 4)) (3, 11, 4)) (4, 11, 4)).2.1 o).1 = 7 := addA_k (T := (addA o (addA o T (2, 11, 4)) (3, 11, 4))) (4, 11, 4) l2 k2
  refine wp_aload_n 0 dX7_init_25 rfl rfl rfl ?_
  refine wp_aload_n 1 dX7_init_26 rfl rfl rfl ?_
  refine wp_putR 7 0 kcX7 kfX7_21 rfl rfl rfl rfl (fun z => rfl) (fun z => rfl) l3 k3 dX7_init_27 rfl ?_
  refine wp_aload_n 0 dX7_init_30 rfl rfl rfl ?_
  refine wp_aload_n 2 dX7_init_31 rfl rfl rfl ?_
  refine wp_putR 7 1 kcX7 kfX7_25 rfl rfl rfl rfl (fun z => rfl) (fun z => rfl) l3 k3 dX7_init_32 rfl ?_
  exact wp_vret rfl (show 0 + 1 + 1 + 1 ≤ 3 by decide) (show 0 + 4 + 4 + 4 ≤ 12 by decide) dX7_init_35 (K _ ((((nw_0 σ T.1).n).n).n))
def mkTX3 (T : tp_T) (o p w : Nat) : tp_T := (tp_ur (tp_ur (addA o (addA o (addA o (addA o (addA o T (2, 11, 6)) (3, 11, 6)) (4, 13, 6)) (5, 11, 15)) (6, 11, 15)) o 0 p) o 1 w)
theorem mk_X3 {E : tp_E} {T : tp_T} {σ : tp_M} {o p w d : Nat} {Q : Option Int32 → tp_T → tp_M → Prop} (ho : o < T.1) (hk : (T.2.1 o).1 = 3) (K : ∀ σ', nw σ T.1 5 σ' → Q none (mkTX3 T o p w) σ') : Ct E true (rmk (d + 1) 5 48) yX3_init iX3_init [.ref o, .ref p, .ref w] T σ Q := by
  refine Ct.of (by decide +kernel) rfl (fun _ => rfl) (Nat.le_of_ble_eq_true rfl) ?_
  refine wp_aload_n 0 dX3_init_0 rfl rfl rfl ?_
  refine wp_objInit tw_314 tw_59 tw_60 (show 1 ≤ d + 1 by omega) (show 0 + 12 ≤ 32 * (d + 1) by omega) dX3_init_1 rfl ?_
  refine wp_aload_n 0 dX3_init_4 rfl rfl rfl ?_
  refine wp_bipush (v := 6) dX3_init_5 rfl (by decide) ?_
  refine wp_na (N := 6) 3 2 (by decide) rfl (by decide) (show 0 + 1 ≤ 5 by decide) (show 0 + 6 ≤ 48 by decide) dX3_init_7 kcX3 kfX3_9 rfl rfl rfl rfl (fun z => rfl) (fun z => rfl) ho hk dX3_init_9 ?_
  have l1 : o < (addA o T (2, 11, 6)).1 := addA_l (T := T) (2, 11, 6) ho
  have k1 : ((addA o T (2, 11, 6)).2.1 o).1 = 3 := addA_k (T := T) (2, 11, 6) ho hk
  refine wp_aload_n 0 dX3_init_12 rfl rfl rfl ?_
  refine wp_bipush (v := 6) dX3_init_13 rfl (by decide) ?_
  refine wp_na (N := 6) 3 3 (by decide) rfl (by decide) (show 0 + 1 + 1 ≤ 5 by decide) (show 0 + 6 + 6 ≤ 48 by decide) dX3_init_15 kcX3 kfX3_15 rfl rfl rfl rfl (fun z => rfl) (fun z => rfl) l1 k1 dX3_init_17 ?_
  have l2 : o < (addA o (addA o T (2, 11, 6)) (3, 11, 6)).1 := addA_l (T := (addA o T (2, 11, 6))) (3, 11, 6) l1
  have k2 : ((addA o (addA o T (2, 11, 6)) (3, 11, 6)).2.1 o).1 = 3 := addA_k (T := (addA o T (2, 11, 6))) (3, 11, 6) l1 k1
  refine wp_aload_n 0 dX3_init_20 rfl rfl rfl ?_
  refine wp_bipush (v := 6) dX3_init_21 rfl (by decide) ?_
  refine wp_nb (N := 6) 3 4 (by decide) rfl (by decide) (show 0 + 1 + 1 + 1 ≤ 5 by decide) (show 0 + 6 + 6 + 6 ≤ 48 by decide) dX3_init_23 kcX3 kfX3_18 rfl rfl rfl rfl (fun z => rfl) (fun z => rfl) l2 k2 dX3_init_25 ?_
  have l3 : o < (addA o (addA o (addA o T (2, 11, 6)) (3, 11, 6)) (4, 13, 6)).1 := addA_l (T := (addA o (addA o T (2, 11, 6)) (3, 11, 6))) (4, 13, 6) l2
  have k3 : ((addA o (addA o (addA o T (2, 11, 6)) (3, 11, 6)) (4, 13, 6)).2.1 o).1 = 3 := addA_k (T := (addA o (addA o T (2, 11, 6)) (3, 11, 6))) (4, 13, 6) l2 k2
  refine wp_aload_n 0 dX3_init_28 rfl rfl rfl ?_
  refine wp_bipush (v := 15) dX3_init_29 rfl (by decide) ?_
  refine wp_na (N := 15) 3 5 (by decide) rfl (by decide) (show 0 + 1 + 1 + 1 + 1 ≤ 5 by decide) (show 0 + 6 + 6 + 6 + 15 ≤ 48 by decide) dX3_init_31 kcX3 kfX3_22 rfl rfl rfl rfl (fun z => rfl) (fun z => rfl) l3 k3 dX3_init_33 ?_
  have l4 : o < (addA o (addA o (addA o (addA o T (2, 11, 6)) (3, 11, 6)) (4, 13, 6)) (5, 11, 15)).1 := addA_l (T := (addA o (addA o (addA o T (2, 11, 6)) (3, 11, 6)) (4, 13, 6))) (5, 11, 15) l3
  have k4 : ((addA o (addA o (addA o (addA o T (2, 11, 6)) (3, 11, 6)) (4, 13, 6)) (5, 11, 15)).2.1 o).1 = 3 := addA_k (T := (addA o (addA o (addA o T (2, 11, 6)) (3, 11, 6)) (4, 13, 6))) (5, 11, 15) l3 k3
  refine wp_aload_n 0 dX3_init_36 rfl rfl rfl ?_
  refine wp_bipush (v := 15) dX3_init_37 rfl (by decide) ?_
  refine wp_na (N := 15) 3 6 (by decide) rfl (by decide) (show 0 + 1 + 1 + 1 + 1 + 1 ≤ 5 by decide) (show 0 + 6 + 6 + 6 + 15 + 15 ≤ 48 by decide) dX3_init_39 kcX3 kfX3_25 rfl rfl rfl rfl (fun z => rfl) (fun z => rfl) l4 k4 dX3_init_41 ?_
  have l5 : o < (addA o (addA o (addA o (addA o (addA o T (2, 11, 6)) (3, 11, 6)) (4, 13, 6)) (5, 11, 15)) (6, 11, 15)).1 := addA_l (T := (addA o (addA o (addA o (addA o T (2, 11, 6)) (3, 11, 6)) (4, 13, 6)) (5, 11, 15))) (6, 11, 15) l4
  have k5 : ((addA o (addA o (addA o (addA o (addA o T (2, 11, 6)) (3, 11, 6)) (4, 13, 6)) (5, 11, 15)) (6, 11, 15)).2.1 o).1 = 3 := addA_k (T := (addA o (addA o (addA o (addA o T (2, 11, 6)) (3, 11, 6)) (4, 13, 6)) (5, 11, 15))) (6, 11, 15) l4 k4
  refine wp_aload_n 0 dX3_init_44 rfl rfl rfl ?_
  refine wp_aload_n 1 dX3_init_45 rfl rfl rfl ?_
  refine wp_putR 3 0 kcX3 kfX3_28 rfl rfl rfl rfl (fun z => rfl) (fun z => rfl) l5 k5 dX3_init_46 rfl ?_
  refine wp_aload_n 0 dX3_init_49 rfl rfl rfl ?_
  refine wp_aload_n 2 dX3_init_50 rfl rfl rfl ?_
  refine wp_putR 3 1 kcX3 kfX3_32 rfl rfl rfl rfl (fun z => rfl) (fun z => rfl) l5 k5 dX3_init_51 rfl ?_
  exact wp_vret rfl (show 0 + 1 + 1 + 1 + 1 + 1 ≤ 5 by decide) (show 0 + 6 + 6 + 6 + 15 + 15 ≤ 48 by decide) dX3_init_54 (K _ ((((((nw_0 σ T.1).n).n).n).n).n))

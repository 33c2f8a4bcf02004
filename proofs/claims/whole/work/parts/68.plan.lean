/-! ===== arrays made into fields ===== -/
def addA (o : Nat) (T : tp_T) (f : Nat × Nat × Nat) : tp_T := tp_ur (tp_nT T f.2.1 f.2.2) o f.1 T.1
theorem addA_k {o ci : Nat} {T : tp_T} (f : Nat × Nat × Nat) (ho : o < T.1) (h : (T.2.1 o).1 = ci) : ((addA o T f).2.1 o).1 = ci := by
  show ((tp_nT T f.2.1 f.2.2).2.1 o).1 = ci
  rw [nT_old ho]
  exact h
theorem addA_l {o : Nat} {T : tp_T} (f : Nat × Nat × Nat) (ho : o < T.1) : o < (addA o T f).1 := Nat.lt_succ_of_lt ho
/-- int arrays: newarray, putfield -/
theorem wp_na {E : tp_E} {R : Room} {M : tp_I} {ce sl pc o idx N : Nat} {Q : Option Int32 → tp_T → tp_M → Prop} {lv : List (Nat × Value)} {st : List Value} {T : tp_T} {σ : tp_M} {n : Int32} (ci k : Nat) {r : vw_C} {ty : Nat → FieldType} (hn : ¬ n < 0) (hN : n.toNatClampNeg = N) (hby : N * componentBytes (Op.newarray.typeOf .int) ≤ 536870912) (hce : ce + 1 ≤ R.cells) (hsl : sl + N ≤ R.slots) (hd : decode M.2.1 pc = .ok (.newarray .int, 2)) (hC : cv_C ci r ty) (hF : cv_F M.1 idx k r) (hr : tp_isr ci k = true) (hfin : (r.2.1 k).2.2.2 = true) (hown : (r.2.1 k).1 = M.1) (hin0 : M.2.2.2.2 = true) (hnr : ∀ z : Nat, narrow (ty k) (.ref z) = .ref z) (hfit : ∀ z : Nat, fits (ty k) (.ref z) = true) (ho : o < T.1) (ht : (T.2.1 o).1 = ci) (hd2 : decode M.2.1 (pc + 2) = .ok (.putfield idx, 3))
    (kk : WP E true R M (ce + 1) (sl + N) Q (pc + 2 + 3) lv st (addA o T (k, 11, N)) (tp_nM σ T.1)) : WP E true R M ce sl Q pc lv (.int n :: .ref o :: st) T σ :=
  wp_newa (N := N) (atype := .int) 0 (by decide) rfl rfl (fun s cA h => h) tw_127 hn hN hby hce hsl hd rfl
    (wp_putR ci k hC hF hr hfin hown hin0 hnr hfit (show o < T.1 + 1 by omega) (by rw [nT_old ho]; exact ht) hd2 rfl kk)
def plT (T : tp_T) (o : Nat) : tp_T := addA o (addA o (addA o (addA o (addA o (addA o (addA o T (6, 11, 8)) (7, 11, 4)) (8, 11, 4)) (9, 11, 8)) (10, 11, 8)) (11, 11, 4)) (12, 11, 4)
theorem mk_plan {E : tp_E} {T : tp_T} {σ : tp_M} {o d : Nat} {Q : Option Int32 → tp_T → tp_M → Prop} (ho : o < T.1) (hk : (T.2.1 o).1 = 5) (K : ∀ σ', (∀ q, q < T.1 → σ' q = σ q) → (∀ j, j < 7 → ∀ k, σ' (T.1 + j) k = 0) → Q none (plT T o) σ') : Ct E true (rmk (d + 1) 7 40) yX5_init iX5_init [.ref o] T σ Q := by
  refine Ct.of (by decide +kernel) rfl (fun _ => rfl) (Nat.le_of_ble_eq_true rfl) ?_
  refine wp_aload_n 0 dX5_init_0 rfl rfl rfl ?_
  refine wp_objInit tw_66 tw_59 tw_60 (show 1 ≤ d + 1 by omega) (show 0 + 12 ≤ 32 * (d + 1) by omega) dX5_init_1 rfl ?_
  refine wp_aload_n 0 dX5_init_4 rfl rfl rfl ?_
  refine wp_bipush (v := 8) dX5_init_5 rfl (by decide) ?_
  refine wp_na (N := 8) 5 6 (by decide) rfl (by decide) (show 0 + 1 ≤ 7 by decide) (show 0 + 8 ≤ 40 by decide) dX5_init_7 kcX5 kfX5_9 rfl rfl rfl rfl (fun z => rfl) (fun z => rfl) ho hk dX5_init_9 ?_
  have l1 := addA_l (6, 11, 8) ho
  have k1 := addA_k (6, 11, 8) ho hk
  refine wp_aload_n 0 dX5_init_12 rfl rfl rfl ?_
  refine wp_iconst (v := 4) dX5_init_13 rfl (by decide) ?_
  refine wp_na (N := 4) 5 7 (by decide) rfl (by decide) (show 0 + 1 + 1 ≤ 7 by decide) (show 0 + 8 + 4 ≤ 40 by decide) dX5_init_14 kcX5 kfX5_15 rfl rfl rfl rfl (fun z => rfl) (fun z => rfl) l1 k1 dX5_init_16 ?_
  have l2 := addA_l (7, 11, 4) l1
  have k2 := addA_k (7, 11, 4) l1 k1
  refine wp_aload_n 0 dX5_init_19 rfl rfl rfl ?_
  refine wp_iconst (v := 4) dX5_init_20 rfl (by decide) ?_
  refine wp_na (N := 4) 5 8 (by decide) rfl (by decide) (show 0 + 1 + 1 + 1 ≤ 7 by decide) (show 0 + 8 + 4 + 4 ≤ 40 by decide) dX5_init_21 kcX5 kfX5_18 rfl rfl rfl rfl (fun z => rfl) (fun z => rfl) l2 k2 dX5_init_23 ?_
  have l3 := addA_l (8, 11, 4) l2
  have k3 := addA_k (8, 11, 4) l2 k2
  refine wp_aload_n 0 dX5_init_26 rfl rfl rfl ?_
  refine wp_bipush (v := 8) dX5_init_27 rfl (by decide) ?_
  refine wp_na (N := 8) 5 9 (by decide) rfl (by decide) (show 0 + 1 + 1 + 1 + 1 ≤ 7 by decide) (show 0 + 8 + 4 + 4 + 8 ≤ 40 by decide) dX5_init_29 kcX5 kfX5_21 rfl rfl rfl rfl (fun z => rfl) (fun z => rfl) l3 k3 dX5_init_31 ?_
  have l4 := addA_l (9, 11, 8) l3
  have k4 := addA_k (9, 11, 8) l3 k3
  refine wp_aload_n 0 dX5_init_34 rfl rfl rfl ?_
  refine wp_bipush (v := 8) dX5_init_35 rfl (by decide) ?_
  refine wp_na (N := 8) 5 10 (by decide) rfl (by decide) (show 0 + 1 + 1 + 1 + 1 + 1 ≤ 7 by decide) (show 0 + 8 + 4 + 4 + 8 + 8 ≤ 40 by decide) dX5_init_37 kcX5 kfX5_24 rfl rfl rfl rfl (fun z => rfl) (fun z => rfl) l4 k4 dX5_init_39 ?_
  have l5 := addA_l (10, 11, 8) l4
  have k5 := addA_k (10, 11, 8) l4 k4
  refine wp_aload_n 0 dX5_init_42 rfl rfl rfl ?_
  refine wp_iconst (v := 4) dX5_init_43 rfl (by decide) ?_
  refine wp_na (N := 4) 5 11 (by decide) rfl (by decide) (show 0 + 1 + 1 + 1 + 1 + 1 + 1 ≤ 7 by decide) (show 0 + 8 + 4 + 4 + 8 + 8 + 4 ≤ 40 by decide) dX5_init_44 kcX5 kfX5_27 rfl rfl rfl rfl (fun z => rfl) (fun z => rfl) l5 k5 dX5_init_46 ?_
  have l6 := addA_l (11, 11, 4) l5
  have k6 := addA_k (11, 11, 4) l5 k5
  refine wp_aload_n 0 dX5_init_49 rfl rfl rfl ?_
  refine wp_iconst (v := 4) dX5_init_50 rfl (by decide) ?_
  refine wp_na (N := 4) 5 12 (by decide) rfl (by decide) (show 0 + 1 + 1 + 1 + 1 + 1 + 1 + 1 ≤ 7 by decide) (show 0 + 8 + 4 + 4 + 8 + 8 + 4 + 4 ≤ 40 by decide) dX5_init_51 kcX5 kfX5_30 rfl rfl rfl rfl (fun z => rfl) (fun z => rfl) l6 k6 dX5_init_53 ?_
  refine wp_vret rfl (show 0 + 1 + 1 + 1 + 1 + 1 + 1 + 1 ≤ 7 by decide) (show 0 + 8 + 4 + 4 + 8 + 8 + 4 + 4 ≤ 40 by decide) dX5_init_56 (K _ (fun q hq => ?_) (fun j hj k => ?_))
  · show tp_nM (tp_nM (tp_nM (tp_nM (tp_nM (tp_nM (tp_nM σ T.1) (T.1 + 1)) (T.1 + 1 + 1)) (T.1 + 1 + 1 + 1)) (T.1 + 1 + 1 + 1 + 1)) (T.1 + 1 + 1 + 1 + 1 + 1)) (T.1 + 1 + 1 + 1 + 1 + 1 + 1) q = σ q
    rw [nM_old (by omega), nM_old (by omega), nM_old (by omega), nM_old (by omega), nM_old (by omega), nM_old (by omega), nM_old (by omega)]
  · show tp_nM (tp_nM (tp_nM (tp_nM (tp_nM (tp_nM (tp_nM σ T.1) (T.1 + 1)) (T.1 + 1 + 1)) (T.1 + 1 + 1 + 1)) (T.1 + 1 + 1 + 1 + 1)) (T.1 + 1 + 1 + 1 + 1 + 1)) (T.1 + 1 + 1 + 1 + 1 + 1 + 1) (T.1 + j) k = 0
    rcases (show j = 0 ∨ j = 1 ∨ j = 2 ∨ j = 3 ∨ j = 4 ∨ j = 5 ∨ j = 6 by omega) with rfl | rfl | rfl | rfl | rfl | rfl | rfl
    · rw [nM_old (by omega), nM_old (by omega), nM_old (by omega), nM_old (by omega), nM_old (by omega), nM_old (by omega)]; exact nM_new
    · rw [nM_old (by omega), nM_old (by omega), nM_old (by omega), nM_old (by omega), nM_old (by omega)]; exact nM_new
    · rw [nM_old (by omega), nM_old (by omega), nM_old (by omega), nM_old (by omega)]; exact nM_new
    · rw [nM_old (by omega), nM_old (by omega), nM_old (by omega)]; exact nM_new
    · rw [nM_old (by omega), nM_old (by omega)]; exact nM_new
    · rw [nM_old (by omega)]; exact nM_new
    · exact nM_new

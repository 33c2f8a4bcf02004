/-! ===== the reader is made ===== -/
theorem addA_old {o q : Nat} {T : tp_T} (f : Nat × Nat × Nat) (h : q < T.1) : (addA o T f).2.1 q = T.2.1 q := nT_old (T := T) (kd := f.2.1) (n := f.2.2) h
theorem plT_old {T : tp_T} {o q : Nat} (h : q < T.1) : (plT T o).2.1 q = T.2.1 q := by
  unfold plT
  rw [addA_old _ (show q < T.1 + 1 + 1 + 1 + 1 + 1 + 1 by omega), addA_old _ (show q < T.1 + 1 + 1 + 1 + 1 + 1 by omega), addA_old _ (show q < T.1 + 1 + 1 + 1 + 1 by omega), addA_old _ (show q < T.1 + 1 + 1 + 1 by omega), addA_old _ (show q < T.1 + 1 + 1 by omega), addA_old _ (show q < T.1 + 1 by omega), addA_old _ h]
def reT (T : tp_T) (o : Nat) : tp_T := tp_ur (tp_nT (tp_ur (plT (tp_nT T 5 0) T.1) o 0 T.1) 12 240) o 1 (T.1 + 1 + 1 + 1 + 1 + 1 + 1 + 1 + 1)
theorem mk_reader {E : tp_E} {T : tp_T} {σ : tp_M} {o d : Nat} {Q : Option Int32 → tp_T → tp_M → Prop} (ho : o < T.1) (hk : (T.2.1 o).1 = 6) (K : ∀ σ', nw (tp_u σ o 3 (-1)) T.1 9 σ' → Q none (reT T o) σ') : Ct E true (rmk (d + 1 + 1) 9 293) yX6_init iX6_init [.ref o] T σ Q := by
  refine Ct.of (by decide +kernel) rfl (fun _ => rfl) (Nat.le_of_ble_eq_true rfl) ?_
  refine wp_aload_n 0 dX6_init_0 rfl rfl rfl ?_
  refine wp_objInit tw_184 tw_59 tw_60 (show 1 ≤ d + 1 + 1 by omega) (show 0 + 12 ≤ 32 * (d + 1 + 1) by omega) dX6_init_1 rfl ?_
  refine wp_aload_n 0 dX6_init_4 rfl rfl rfl ?_
  refine wp_new 5 kcX5 tw_185 tw_62 tw_40 (by decide) (show 0 + 1 ≤ 9 by decide) (show 0 + 13 ≤ 293 by decide) dX6_init_5 rfl ?_
  refine wp_dup dX6_init_8 rfl rfl ?_
  refine wp_callIN (As := []) (rest := [.ref T.1, .ref o]) (rm := rmk (d + 1) 7 40) kmX6_11 rfl rfl (Nat.le_of_ble_eq_true rfl) ⟨Nat.le_refl _, show 8 + (1 + 11) + 32 * (d + 1) ≤ 32 * (d + 1 + 1) by omega⟩ ⟨show 0 + 1 + 7 ≤ 9 by decide, show 0 + 13 + 40 ≤ 293 by decide⟩ dX6_init_9 rfl
    (mk_plan (Q := fun r T' σ' => r = none ∧ T' = plT (tp_nT T 5 0) T.1 ∧ (∀ q, q < T.1 + 1 → σ' q = tp_nM σ T.1 q) ∧ (∀ j, j < 7 → ∀ k, σ' (T.1 + 1 + j) k = 0)) (show T.1 < T.1 + 1 by omega) (by rw [nT_new]) (fun σ' a b => ⟨rfl, rfl, a, b⟩)) (fun r T' s hq => ?_)
  obtain ⟨rfl, rfl, a, b⟩ := hq
  have h8 : nw σ T.1 8 s := ⟨fun q hq => by rw [a q (by omega), nM_old (by omega)], fun j hj k => by
    by_cases e : j = 0
    · subst e; rw [Nat.add_zero, a T.1 (by omega), nM_new]
    · have := b (j - 1) (by omega) k
      rw [show T.1 + 1 + (j - 1) = T.1 + j by omega] at this
      exact this⟩
  have kk : ((plT (tp_nT T 5 0) T.1).2.1 o).1 = 6 := by rw [plT_old (show o < T.1 + 1 by omega), nT_old ho]; exact hk
  have lo : o < (plT (tp_nT T 5 0) T.1).1 := show o < T.1 + 1 + 1 + 1 + 1 + 1 + 1 + 1 + 1 by omega
  refine wp_putR 6 0 kcX6 kfX6_12 rfl rfl rfl rfl (fun z => rfl) (fun z => rfl) lo kk dX6_init_12 rfl ?_
  refine wp_aload_n 0 dX6_init_15 rfl rfl rfl ?_
  refine wp_sipush (v := 240) dX6_init_16 rfl (by decide) ?_
  refine wp_newa (N := 240) (atype := .char) 1 (by decide) rfl rfl (fun s cA h => h) tw_212 (by decide) rfl (by decide) (show 0 + 1 + 7 + 1 ≤ 9 by decide) (show 0 + 13 + 40 + 240 ≤ 293 by decide) dX6_init_19 rfl ?_
  have kk2 : ((tp_nT (tp_ur (plT (tp_nT T 5 0) T.1) o 0 T.1) 12 240).2.1 o).1 = 6 := by rw [nT_old (T := tp_ur (plT (tp_nT T 5 0) T.1) o 0 T.1) lo]; exact kk
  have lo2 : o < (tp_nT (tp_ur (plT (tp_nT T 5 0) T.1) o 0 T.1) 12 240).1 := Nat.lt_succ_of_lt lo
  refine wp_putR 6 1 kcX6 kfX6_18 rfl rfl rfl rfl (fun z => rfl) (fun z => rfl) lo2 kk2 dX6_init_21 rfl ?_
  refine wp_aload_n 0 dX6_init_24 rfl rfl rfl ?_
  refine wp_iconst (v := -1) dX6_init_25 rfl (by decide) ?_
  refine wp_putI 6 3 kcX6 kfX6_22 rfl rfl rfl rfl lo2 kk2 dX6_init_26 rfl ?_
  exact wp_vret rfl (show 0 + 1 + 7 + 1 ≤ 9 by decide) (show 0 + 13 + 40 + 240 ≤ 293 by decide) dX6_init_29 (K _ ((h8.n).u ho 3 (-1)))

/-! ===== the reference is made (laid by wip/gen/ctor10.py) ===== -/
def nw (σ : tp_M) (T0 j : Nat) (s : tp_M) : Prop := (∀ q, q < T0 → s q = σ q) ∧ ∀ i, i < j → ∀ k, s (T0 + i) k = 0
theorem nw_0 (σ : tp_M) (T0 : Nat) : nw σ T0 0 σ := ⟨fun q _ => rfl, fun i hi => absurd hi (Nat.not_lt_zero i)⟩
theorem nw.n {σ s : tp_M} {T0 j : Nat} (h : nw σ T0 j s) : nw σ T0 (j + 1) (tp_nM s (T0 + j)) := ⟨fun q hq => by rw [nM_old (by omega)]; exact h.1 q hq, fun i hi k => by
  by_cases e : i = j
  · subst e; exact nM_new
  · rw [nM_old (by omega)]; exact h.2 i (by omega) k⟩
theorem nw.u {σ s : tp_M} {T0 j o : Nat} (h : nw σ T0 j s) (ho : o < T0) (k : Nat) (v : Int32) : nw (tp_u σ o k v) T0 j (tp_u s o k v) := ⟨fun q hq => by
  by_cases e : q = o
  · subst e; simp only [tp_u, if_true]; rw [h.1 q hq]
  · rw [uu3 _ _ _ e, uu3 _ _ _ e]; exact h.1 q hq, fun i hi k' => by rw [uu3 _ _ _ (by omega)]; exact h.2 i hi k'⟩
theorem wp_nb {E : tp_E} {R : Room} {M : tp_I} {ce sl pc o idx N : Nat} {Q : Option Int32 → tp_T → tp_M → Prop} {lv : List (Nat × Value)} {st : List Value} {T : tp_T} {σ : tp_M} {n : Int32} (ci k : Nat) {r : vw_C} {ty : Nat → FieldType} (hn : ¬ n < 0) (hN : n.toNatClampNeg = N) (hby : N * componentBytes (Op.newarray.typeOf .boolean) ≤ 536870912) (hce : ce + 1 ≤ R.cells) (hsl : sl + N ≤ R.slots) (hd : decode M.2.1 pc = .ok (.newarray .boolean, 2)) (hC : cv_C ci r ty) (hF : cv_F M.1 idx k r) (hr : tp_isr ci k = true) (hfin : (r.2.1 k).2.2.2 = true) (hown : (r.2.1 k).1 = M.1) (hin0 : M.2.2.2.2 = true) (hnr : ∀ z : Nat, narrow (ty k) (.ref z) = .ref z) (hfit : ∀ z : Nat, fits (ty k) (.ref z) = true) (ho : o < T.1) (ht : (T.2.1 o).1 = ci) (hd2 : decode M.2.1 (pc + 2) = .ok (.putfield idx, 3))
    (kk : WP E true R M (ce + 1) (sl + N) Q (pc + 2 + 3) lv st (addA o T (k, 13, N)) (tp_nM σ T.1)) : WP E true R M ce sl Q pc lv (.int n :: .ref o :: st) T σ :=
  wp_newa (N := N) (atype := .boolean) 2 (by decide) rfl rfl (fun s cA h => h) tw_345 hn hN hby hce hsl hd rfl
    (wp_putR ci k hC hF hr hfin hown hin0 hnr hfit (show o < T.1 + 1 by omega) (by rw [nT_old ho]; exact ht) hd2 rfl kk)
def rfT (T : tp_T) (o : Nat) : tp_T := addA o (addA o (addA o (addA o (addA o (addA o (addA o (addA o (addA o (addA o (addA o (addA o (addA o (addA o (addA o (addA o (addA o (addA o (addA o (addA o (addA o (addA o (addA o (addA o (addA o T (0, 11, 1416)) (1, 13, 2)) (6, 11, 8)) (8, 11, 4)) (10, 11, 8)) (11, 11, 8)) (13, 11, 4)) (14, 11, 4)) (15, 11, 240)) (25, 11, 8)) (27, 11, 8)) (29, 11, 16)) (31, 11, 8)) (32, 11, 4)) (33, 13, 4)) (34, 11, 9)) (35, 11, 4)) (36, 11, 4)) (37, 11, 4)) (38, 11, 4)) (40, 11, 6)) (41, 11, 6)) (42, 13, 6)) (44, 11, 15)) (45, 11, 15)
theorem mk_ref {E : tp_E} {T : tp_T} {σ : tp_M} {o d : Nat} {Q : Option Int32 → tp_T → tp_M → Prop} (ho : o < T.1) (hk : (T.2.1 o).1 = 10) (K : ∀ σ', nw (tp_u (tp_u σ o 21 (-1)) o 3 0) T.1 25 σ' → Q none (rfT T o) σ') : Ct E true (rmk (d + 1) 25 1815) yX10_init iX10_init [.ref o] T σ Q := by
  refine Ct.of (by decide +kernel) rfl (fun _ => rfl) (Nat.le_of_ble_eq_true rfl) ?_
  refine wp_aload_n 0 dX10_init_0 rfl rfl rfl ?_
  refine wp_objInit tw_960 tw_59 tw_60 (show 1 ≤ d + 1 by omega) (show 0 + 12 ≤ 32 * (d + 1) by omega) dX10_init_1 rfl ?_
  refine wp_aload_n 0 dX10_init_4 rfl rfl rfl ?_
  refine wp_sipush (v := 1416) dX10_init_5 rfl (by decide) ?_
  refine wp_na (N := 1416) 10 0 (by decide) rfl (by decide) (show 0 + 1 ≤ 25 by decide) (show 0 + 1416 ≤ 1815 by decide) dX10_init_8 kcX10 kfX10_7 rfl rfl rfl rfl (fun z => rfl) (fun z => rfl) ho hk dX10_init_10 ?_
  have l1 := addA_l (0, 11, 1416) ho
  have k1 := addA_k (0, 11, 1416) ho hk
  refine wp_aload_n 0 dX10_init_13 rfl rfl rfl ?_
  refine wp_iconst (v := 2) dX10_init_14 rfl (by decide) ?_
  refine wp_nb (N := 2) 10 1 (by decide) rfl (by decide) (show 0 + 1 + 1 ≤ 25 by decide) (show 0 + 1416 + 2 ≤ 1815 by decide) dX10_init_15 kcX10 kfX10_13 rfl rfl rfl rfl (fun z => rfl) (fun z => rfl) l1 k1 dX10_init_17 ?_
  have l2 := addA_l (1, 13, 2) l1
  have k2 := addA_k (1, 13, 2) l1 k1
  refine wp_aload_n 0 dX10_init_20 rfl rfl rfl ?_
  refine wp_bipush (v := 8) dX10_init_21 rfl (by decide) ?_
  refine wp_na (N := 8) 10 6 (by decide) rfl (by decide) (show 0 + 1 + 1 + 1 ≤ 25 by decide) (show 0 + 1416 + 2 + 8 ≤ 1815 by decide) dX10_init_23 kcX10 kfX10_17 rfl rfl rfl rfl (fun z => rfl) (fun z => rfl) l2 k2 dX10_init_25 ?_
  have l3 := addA_l (6, 11, 8) l2
  have k3 := addA_k (6, 11, 8) l2 k2
  refine wp_aload_n 0 dX10_init_28 rfl rfl rfl ?_
  refine wp_iconst (v := 4) dX10_init_29 rfl (by decide) ?_
  refine wp_na (N := 4) 10 8 (by decide) rfl (by decide) (show 0 + 1 + 1 + 1 + 1 ≤ 25 by decide) (show 0 + 1416 + 2 + 8 + 4 ≤ 1815 by decide) dX10_init_30 kcX10 kfX10_20 rfl rfl rfl rfl (fun z => rfl) (fun z => rfl) l3 k3 dX10_init_32 ?_
  have l4 := addA_l (8, 11, 4) l3
  have k4 := addA_k (8, 11, 4) l3 k3
  refine wp_aload_n 0 dX10_init_35 rfl rfl rfl ?_
  refine wp_bipush (v := 8) dX10_init_36 rfl (by decide) ?_
  refine wp_na (N := 8) 10 10 (by decide) rfl (by decide) (show 0 + 1 + 1 + 1 + 1 + 1 ≤ 25 by decide) (show 0 + 1416 + 2 + 8 + 4 + 8 ≤ 1815 by decide) dX10_init_38 kcX10 kfX10_23 rfl rfl rfl rfl (fun z => rfl) (fun z => rfl) l4 k4 dX10_init_40 ?_
  have l5 := addA_l (10, 11, 8) l4
  have k5 := addA_k (10, 11, 8) l4 k4
  refine wp_aload_n 0 dX10_init_43 rfl rfl rfl ?_
  refine wp_bipush (v := 8) dX10_init_44 rfl (by decide) ?_
  refine wp_na (N := 8) 10 11 (by decide) rfl (by decide) (show 0 + 1 + 1 + 1 + 1 + 1 + 1 ≤ 25 by decide) (show 0 + 1416 + 2 + 8 + 4 + 8 + 8 ≤ 1815 by decide) dX10_init_46 kcX10 kfX10_26 rfl rfl rfl rfl (fun z => rfl) (fun z => rfl) l5 k5 dX10_init_48 ?_
  have l6 := addA_l (11, 11, 8) l5
  have k6 := addA_k (11, 11, 8) l5 k5
  refine wp_aload_n 0 dX10_init_51 rfl rfl rfl ?_
  refine wp_iconst (v := 4) dX10_init_52 rfl (by decide) ?_
  refine wp_na (N := 4) 10 13 (by decide) rfl (by decide) (show 0 + 1 + 1 + 1 + 1 + 1 + 1 + 1 ≤ 25 by decide) (show 0 + 1416 + 2 + 8 + 4 + 8 + 8 + 4 ≤ 1815 by decide) dX10_init_53 kcX10 kfX10_29 rfl rfl rfl rfl (fun z => rfl) (fun z => rfl) l6 k6 dX10_init_55 ?_
  have l7 := addA_l (13, 11, 4) l6
  have k7 := addA_k (13, 11, 4) l6 k6
  refine wp_aload_n 0 dX10_init_58 rfl rfl rfl ?_
  refine wp_iconst (v := 4) dX10_init_59 rfl (by decide) ?_
  refine wp_na (N := 4) 10 14 (by decide) rfl (by decide) (show 0 + 1 + 1 + 1 + 1 + 1 + 1 + 1 + 1 ≤ 25 by decide) (show 0 + 1416 + 2 + 8 + 4 + 8 + 8 + 4 + 4 ≤ 1815 by decide) dX10_init_60 kcX10 kfX10_32 rfl rfl rfl rfl (fun z => rfl) (fun z => rfl) l7 k7 dX10_init_62 ?_
  have l8 := addA_l (14, 11, 4) l7
  have k8 := addA_k (14, 11, 4) l7 k7
  refine wp_aload_n 0 dX10_init_65 rfl rfl rfl ?_
  refine wp_sipush (v := 240) dX10_init_66 rfl (by decide) ?_
  refine wp_na (N := 240) 10 15 (by decide) rfl (by decide) (show 0 + 1 + 1 + 1 + 1 + 1 + 1 + 1 + 1 + 1 ≤ 25 by decide) (show 0 + 1416 + 2 + 8 + 4 + 8 + 8 + 4 + 4 + 240 ≤ 1815 by decide) dX10_init_69 kcX10 kfX10_35 rfl rfl rfl rfl (fun z => rfl) (fun z => rfl) l8 k8 dX10_init_71 ?_
  have l9 := addA_l (15, 11, 240) l8
  have k9 := addA_k (15, 11, 240) l8 k8
  refine wp_aload_n 0 dX10_init_74 rfl rfl rfl ?_
  refine wp_iconst (v := -1) dX10_init_75 rfl (by decide) ?_
  refine wp_putI 10 21 kcX10 kfX10_38 rfl rfl rfl rfl l9 k9 dX10_init_76 rfl ?_
  refine wp_aload_n 0 dX10_init_79 rfl rfl rfl ?_
  refine wp_bipush (v := 8) dX10_init_80 rfl (by decide) ?_
  refine wp_na (N := 8) 10 25 (by decide) rfl (by decide) (show 0 + 1 + 1 + 1 + 1 + 1 + 1 + 1 + 1 + 1 + 1 ≤ 25 by decide) (show 0 + 1416 + 2 + 8 + 4 + 8 + 8 + 4 + 4 + 240 + 8 ≤ 1815 by decide) dX10_init_82 kcX10 kfX10_42 rfl rfl rfl rfl (fun z => rfl) (fun z => rfl) l9 k9 dX10_init_84 ?_
  have l10 := addA_l (25, 11, 8) l9
  have k10 := addA_k (25, 11, 8) l9 k9
  refine wp_aload_n 0 dX10_init_87 rfl rfl rfl ?_
  refine wp_bipush (v := 8) dX10_init_88 rfl (by decide) ?_
  refine wp_na (N := 8) 10 27 (by decide) rfl (by decide) (show 0 + 1 + 1 + 1 + 1 + 1 + 1 + 1 + 1 + 1 + 1 + 1 ≤ 25 by decide) (show 0 + 1416 + 2 + 8 + 4 + 8 + 8 + 4 + 4 + 240 + 8 + 8 ≤ 1815 by decide) dX10_init_90 kcX10 kfX10_45 rfl rfl rfl rfl (fun z => rfl) (fun z => rfl) l10 k10 dX10_init_92 ?_
  have l11 := addA_l (27, 11, 8) l10
  have k11 := addA_k (27, 11, 8) l10 k10
  refine wp_aload_n 0 dX10_init_95 rfl rfl rfl ?_
  refine wp_bipush (v := 16) dX10_init_96 rfl (by decide) ?_
  refine wp_na (N := 16) 10 29 (by decide) rfl (by decide) (show 0 + 1 + 1 + 1 + 1 + 1 + 1 + 1 + 1 + 1 + 1 + 1 + 1 ≤ 25 by decide) (show 0 + 1416 + 2 + 8 + 4 + 8 + 8 + 4 + 4 + 240 + 8 + 8 + 16 ≤ 1815 by decide) dX10_init_98 kcX10 kfX10_48 rfl rfl rfl rfl (fun z => rfl) (fun z => rfl) l11 k11 dX10_init_100 ?_
  have l12 := addA_l (29, 11, 16) l11
  have k12 := addA_k (29, 11, 16) l11 k11
  refine wp_aload_n 0 dX10_init_103 rfl rfl rfl ?_
  refine wp_bipush (v := 8) dX10_init_104 rfl (by decide) ?_
  refine wp_na (N := 8) 10 31 (by decide) rfl (by decide) (show 0 + 1 + 1 + 1 + 1 + 1 + 1 + 1 + 1 + 1 + 1 + 1 + 1 + 1 ≤ 25 by decide) (show 0 + 1416 + 2 + 8 + 4 + 8 + 8 + 4 + 4 + 240 + 8 + 8 + 16 + 8 ≤ 1815 by decide) dX10_init_106 kcX10 kfX10_51 rfl rfl rfl rfl (fun z => rfl) (fun z => rfl) l12 k12 dX10_init_108 ?_
  have l13 := addA_l (31, 11, 8) l12
  have k13 := addA_k (31, 11, 8) l12 k12
  refine wp_aload_n 0 dX10_init_111 rfl rfl rfl ?_
  refine wp_iconst (v := 4) dX10_init_112 rfl (by decide) ?_
  refine wp_na (N := 4) 10 32 (by decide) rfl (by decide) (show 0 + 1 + 1 + 1 + 1 + 1 + 1 + 1 + 1 + 1 + 1 + 1 + 1 + 1 + 1 ≤ 25 by decide) (show 0 + 1416 + 2 + 8 + 4 + 8 + 8 + 4 + 4 + 240 + 8 + 8 + 16 + 8 + 4 ≤ 1815 by decide) dX10_init_113 kcX10 kfX10_54 rfl rfl rfl rfl (fun z => rfl) (fun z => rfl) l13 k13 dX10_init_115 ?_
  have l14 := addA_l (32, 11, 4) l13
  have k14 := addA_k (32, 11, 4) l13 k13
  refine wp_aload_n 0 dX10_init_118 rfl rfl rfl ?_
  refine wp_iconst (v := 4) dX10_init_119 rfl (by decide) ?_
  refine wp_nb (N := 4) 10 33 (by decide) rfl (by decide) (show 0 + 1 + 1 + 1 + 1 + 1 + 1 + 1 + 1 + 1 + 1 + 1 + 1 + 1 + 1 + 1 ≤ 25 by decide) (show 0 + 1416 + 2 + 8 + 4 + 8 + 8 + 4 + 4 + 240 + 8 + 8 + 16 + 8 + 4 + 4 ≤ 1815 by decide) dX10_init_120 kcX10 kfX10_57 rfl rfl rfl rfl (fun z => rfl) (fun z => rfl) l14 k14 dX10_init_122 ?_
  have l15 := addA_l (33, 13, 4) l14
  have k15 := addA_k (33, 13, 4) l14 k14
  refine wp_aload_n 0 dX10_init_125 rfl rfl rfl ?_
  refine wp_bipush (v := 9) dX10_init_126 rfl (by decide) ?_
  refine wp_na (N := 9) 10 34 (by decide) rfl (by decide) (show 0 + 1 + 1 + 1 + 1 + 1 + 1 + 1 + 1 + 1 + 1 + 1 + 1 + 1 + 1 + 1 + 1 ≤ 25 by decide) (show 0 + 1416 + 2 + 8 + 4 + 8 + 8 + 4 + 4 + 240 + 8 + 8 + 16 + 8 + 4 + 4 + 9 ≤ 1815 by decide) dX10_init_128 kcX10 kfX10_60 rfl rfl rfl rfl (fun z => rfl) (fun z => rfl) l15 k15 dX10_init_130 ?_
  have l16 := addA_l (34, 11, 9) l15
  have k16 := addA_k (34, 11, 9) l15 k15
  refine wp_aload_n 0 dX10_init_133 rfl rfl rfl ?_
  refine wp_iconst (v := 4) dX10_init_134 rfl (by decide) ?_
  refine wp_na (N := 4) 10 35 (by decide) rfl (by decide) (show 0 + 1 + 1 + 1 + 1 + 1 + 1 + 1 + 1 + 1 + 1 + 1 + 1 + 1 + 1 + 1 + 1 + 1 ≤ 25 by decide) (show 0 + 1416 + 2 + 8 + 4 + 8 + 8 + 4 + 4 + 240 + 8 + 8 + 16 + 8 + 4 + 4 + 9 + 4 ≤ 1815 by decide) dX10_init_135 kcX10 kfX10_63 rfl rfl rfl rfl (fun z => rfl) (fun z => rfl) l16 k16 dX10_init_137 ?_
  have l17 := addA_l (35, 11, 4) l16
  have k17 := addA_k (35, 11, 4) l16 k16
  refine wp_aload_n 0 dX10_init_140 rfl rfl rfl ?_
  refine wp_iconst (v := 4) dX10_init_141 rfl (by decide) ?_
  refine wp_na (N := 4) 10 36 (by decide) rfl (by decide) (show 0 + 1 + 1 + 1 + 1 + 1 + 1 + 1 + 1 + 1 + 1 + 1 + 1 + 1 + 1 + 1 + 1 + 1 + 1 ≤ 25 by decide) (show 0 + 1416 + 2 + 8 + 4 + 8 + 8 + 4 + 4 + 240 + 8 + 8 + 16 + 8 + 4 + 4 + 9 + 4 + 4 ≤ 1815 by decide) dX10_init_142 kcX10 kfX10_66 rfl rfl rfl rfl (fun z => rfl) (fun z => rfl) l17 k17 dX10_init_144 ?_
  have l18 := addA_l (36, 11, 4) l17
  have k18 := addA_k (36, 11, 4) l17 k17
  refine wp_aload_n 0 dX10_init_147 rfl rfl rfl ?_
  refine wp_iconst (v := 4) dX10_init_148 rfl (by decide) ?_
  refine wp_na (N := 4) 10 37 (by decide) rfl (by decide) (show 0 + 1 + 1 + 1 + 1 + 1 + 1 + 1 + 1 + 1 + 1 + 1 + 1 + 1 + 1 + 1 + 1 + 1 + 1 + 1 ≤ 25 by decide) (show 0 + 1416 + 2 + 8 + 4 + 8 + 8 + 4 + 4 + 240 + 8 + 8 + 16 + 8 + 4 + 4 + 9 + 4 + 4 + 4 ≤ 1815 by decide) dX10_init_149 kcX10 kfX10_69 rfl rfl rfl rfl (fun z => rfl) (fun z => rfl) l18 k18 dX10_init_151 ?_
  have l19 := addA_l (37, 11, 4) l18
  have k19 := addA_k (37, 11, 4) l18 k18
  refine wp_aload_n 0 dX10_init_154 rfl rfl rfl ?_
  refine wp_iconst (v := 4) dX10_init_155 rfl (by decide) ?_
  refine wp_na (N := 4) 10 38 (by decide) rfl (by decide) (show 0 + 1 + 1 + 1 + 1 + 1 + 1 + 1 + 1 + 1 + 1 + 1 + 1 + 1 + 1 + 1 + 1 + 1 + 1 + 1 + 1 ≤ 25 by decide) (show 0 + 1416 + 2 + 8 + 4 + 8 + 8 + 4 + 4 + 240 + 8 + 8 + 16 + 8 + 4 + 4 + 9 + 4 + 4 + 4 + 4 ≤ 1815 by decide) dX10_init_156 kcX10 kfX10_72 rfl rfl rfl rfl (fun z => rfl) (fun z => rfl) l19 k19 dX10_init_158 ?_
  have l20 := addA_l (38, 11, 4) l19
  have k20 := addA_k (38, 11, 4) l19 k19
  refine wp_aload_n 0 dX10_init_161 rfl rfl rfl ?_
  refine wp_bipush (v := 6) dX10_init_162 rfl (by decide) ?_
  refine wp_na (N := 6) 10 40 (by decide) rfl (by decide) (show 0 + 1 + 1 + 1 + 1 + 1 + 1 + 1 + 1 + 1 + 1 + 1 + 1 + 1 + 1 + 1 + 1 + 1 + 1 + 1 + 1 + 1 ≤ 25 by decide) (show 0 + 1416 + 2 + 8 + 4 + 8 + 8 + 4 + 4 + 240 + 8 + 8 + 16 + 8 + 4 + 4 + 9 + 4 + 4 + 4 + 4 + 6 ≤ 1815 by decide) dX10_init_164 kcX10 kfX10_75 rfl rfl rfl rfl (fun z => rfl) (fun z => rfl) l20 k20 dX10_init_166 ?_
  have l21 := addA_l (40, 11, 6) l20
  have k21 := addA_k (40, 11, 6) l20 k20
  refine wp_aload_n 0 dX10_init_169 rfl rfl rfl ?_
  refine wp_bipush (v := 6) dX10_init_170 rfl (by decide) ?_
  refine wp_na (N := 6) 10 41 (by decide) rfl (by decide) (show 0 + 1 + 1 + 1 + 1 + 1 + 1 + 1 + 1 + 1 + 1 + 1 + 1 + 1 + 1 + 1 + 1 + 1 + 1 + 1 + 1 + 1 + 1 ≤ 25 by decide) (show 0 + 1416 + 2 + 8 + 4 + 8 + 8 + 4 + 4 + 240 + 8 + 8 + 16 + 8 + 4 + 4 + 9 + 4 + 4 + 4 + 4 + 6 + 6 ≤ 1815 by decide) dX10_init_172 kcX10 kfX10_78 rfl rfl rfl rfl (fun z => rfl) (fun z => rfl) l21 k21 dX10_init_174 ?_
  have l22 := addA_l (41, 11, 6) l21
  have k22 := addA_k (41, 11, 6) l21 k21
  refine wp_aload_n 0 dX10_init_177 rfl rfl rfl ?_
  refine wp_bipush (v := 6) dX10_init_178 rfl (by decide) ?_
  refine wp_nb (N := 6) 10 42 (by decide) rfl (by decide) (show 0 + 1 + 1 + 1 + 1 + 1 + 1 + 1 + 1 + 1 + 1 + 1 + 1 + 1 + 1 + 1 + 1 + 1 + 1 + 1 + 1 + 1 + 1 + 1 ≤ 25 by decide) (show 0 + 1416 + 2 + 8 + 4 + 8 + 8 + 4 + 4 + 240 + 8 + 8 + 16 + 8 + 4 + 4 + 9 + 4 + 4 + 4 + 4 + 6 + 6 + 6 ≤ 1815 by decide) dX10_init_180 kcX10 kfX10_81 rfl rfl rfl rfl (fun z => rfl) (fun z => rfl) l22 k22 dX10_init_182 ?_
  have l23 := addA_l (42, 13, 6) l22
  have k23 := addA_k (42, 13, 6) l22 k22
  refine wp_aload_n 0 dX10_init_185 rfl rfl rfl ?_
  refine wp_bipush (v := 15) dX10_init_186 rfl (by decide) ?_
  refine wp_na (N := 15) 10 44 (by decide) rfl (by decide) (show 0 + 1 + 1 + 1 + 1 + 1 + 1 + 1 + 1 + 1 + 1 + 1 + 1 + 1 + 1 + 1 + 1 + 1 + 1 + 1 + 1 + 1 + 1 + 1 + 1 ≤ 25 by decide) (show 0 + 1416 + 2 + 8 + 4 + 8 + 8 + 4 + 4 + 240 + 8 + 8 + 16 + 8 + 4 + 4 + 9 + 4 + 4 + 4 + 4 + 6 + 6 + 6 + 15 ≤ 1815 by decide) dX10_init_188 kcX10 kfX10_84 rfl rfl rfl rfl (fun z => rfl) (fun z => rfl) l23 k23 dX10_init_190 ?_
  have l24 := addA_l (44, 11, 15) l23
  have k24 := addA_k (44, 11, 15) l23 k23
  refine wp_aload_n 0 dX10_init_193 rfl rfl rfl ?_
  refine wp_bipush (v := 15) dX10_init_194 rfl (by decide) ?_
  refine wp_na (N := 15) 10 45 (by decide) rfl (by decide) (show 0 + 1 + 1 + 1 + 1 + 1 + 1 + 1 + 1 + 1 + 1 + 1 + 1 + 1 + 1 + 1 + 1 + 1 + 1 + 1 + 1 + 1 + 1 + 1 + 1 + 1 ≤ 25 by decide) (show 0 + 1416 + 2 + 8 + 4 + 8 + 8 + 4 + 4 + 240 + 8 + 8 + 16 + 8 + 4 + 4 + 9 + 4 + 4 + 4 + 4 + 6 + 6 + 6 + 15 + 15 ≤ 1815 by decide) dX10_init_196 kcX10 kfX10_87 rfl rfl rfl rfl (fun z => rfl) (fun z => rfl) l24 k24 dX10_init_198 ?_
  have l25 := addA_l (45, 11, 15) l24
  have k25 := addA_k (45, 11, 15) l24 k24
  refine wp_aload_n 0 dX10_init_201 rfl rfl rfl ?_
  refine wp_iconst (v := 0) dX10_init_202 rfl (by decide) ?_
  refine wp_putI 10 3 kcX10 kfX10_90 rfl rfl rfl rfl l25 k25 dX10_init_203 rfl ?_
  exact wp_vret rfl (show 0 + 1 + 1 + 1 + 1 + 1 + 1 + 1 + 1 + 1 + 1 + 1 + 1 + 1 + 1 + 1 + 1 + 1 + 1 + 1 + 1 + 1 + 1 + 1 + 1 + 1 ≤ 25 by decide) (show 0 + 1416 + 2 + 8 + 4 + 8 + 8 + 4 + 4 + 240 + 8 + 8 + 16 + 8 + 4 + 4 + 9 + 4 + 4 + 4 + 4 + 6 + 6 + 6 + 15 + 15 ≤ 1815 by decide) dX10_init_206 (K _ ((((((((((((((((((((((((((((nw_0 σ T.1).n).n).n).n).n).n).n).n).n).u ho 21 (-1)).n).n).n).n).n).n).n).n).n).n).n).n).n).n).n).n).u ho 3 0))

/-! ===== a state is made ===== -/
def rmk (d c s : Nat) : Room := { frames := d, cells := c, slots := s, locals := 32 * d }
theorem nT_old {T : tp_T} {kd n o : Nat} (h : o < T.1) : (tp_nT T kd n).2.1 o = T.2.1 o := va_up_ne _ _ (by omega)
theorem nT_new {T : tp_T} {kd n : Nat} : (tp_nT T kd n).2.1 T.1 = (kd, n) := va_up_self _ _ _
theorem nM_old {σ : tp_M} {n q : Nat} (h : q ≠ n) : tp_nM σ n q = σ q := va_up_ne _ _ h
theorem nM_new {σ : tp_M} {n k : Nat} : tp_nM σ n n k = 0 := by unfold tp_nM; rw [va_up_self]
def stT (T : tp_T) (o : Nat) : tp_T := tp_ur (tp_nT (tp_ur (tp_nT (tp_ur (tp_nT (tp_ur (tp_nT T 11 4) o 2 T.1) 11 4) o 3 (T.1 + 1)) 11 4) o 4 (T.1 + 1 + 1)) 11 8) o 5 (T.1 + 1 + 1 + 1)
theorem mk_state {E : tp_E} {T : tp_T} {σ : tp_M} {o d : Nat} {Q : Option Int32 → tp_T → tp_M → Prop} (ho : o < T.1) (hk : (T.2.1 o).1 = 8) (K : ∀ σ', (∀ q, q < T.1 → σ' q = σ q) → (∀ j, j < 3 → ∀ k, σ' (T.1 + j) k = 0) → (∀ t, t < 8 → σ' (T.1 + 3) t = -3) → Q none (stT T o) σ') : Ct E true (rmk (d + 1) 4 20) yX8_init iX8_init [.ref o] T σ Q := by
  refine Ct.of (by decide +kernel) rfl (fun _ => rfl) (Nat.le_of_ble_eq_true rfl) ?_
  refine wp_aload_n 0 dX8_init_0 rfl rfl rfl ?_
  refine wp_objInit tw_133 tw_59 tw_60 (show 1 ≤ d + 1 by omega) (show 0 + 12 ≤ 32 * (d + 1) by omega) dX8_init_1 rfl ?_
  refine wp_aload_n 0 dX8_init_4 rfl rfl rfl ?_
  refine wp_iconst (v := 4) dX8_init_5 rfl (by decide) ?_
  refine wp_newa (N := 4) (atype := .int) 0 (by decide) rfl rfl (fun s cA h => h) tw_127 (by decide) rfl (by decide) (show 0 + 1 ≤ 4 by decide) (show 0 + 4 ≤ 20 by decide) dX8_init_6 rfl ?_
  refine wp_putR 8 2 kcX8 kfX8_9 rfl rfl rfl rfl (fun z => rfl) (fun z => rfl) (show o < T.1 + 1 by omega) (by rw [nT_old ho]; exact hk) dX8_init_8 rfl ?_
  refine wp_aload_n 0 dX8_init_11 rfl rfl rfl ?_
  refine wp_iconst (v := 4) dX8_init_12 rfl (by decide) ?_
  refine wp_newa (N := 4) (atype := .int) 0 (by decide) rfl rfl (fun s cA h => h) tw_127 (by decide) rfl (by decide) (show 0 + 1 + 1 ≤ 4 by decide) (show 0 + 4 + 4 ≤ 20 by decide) dX8_init_13 rfl ?_
  refine wp_putR 8 3 kcX8 kfX8_15 rfl rfl rfl rfl (fun z => rfl) (fun z => rfl) (show o < T.1 + 1 + 1 by omega) (by rw [nT_old (show o < T.1 + 1 by omega)]; show ((tp_nT T 11 4).2.1 o).1 = 8; rw [nT_old ho]; exact hk) dX8_init_15 rfl ?_
  refine wp_aload_n 0 dX8_init_18 rfl rfl rfl ?_
  refine wp_iconst (v := 4) dX8_init_19 rfl (by decide) ?_
  refine wp_newa (N := 4) (atype := .int) 0 (by decide) rfl rfl (fun s cA h => h) tw_127 (by decide) rfl (by decide) (show 0 + 1 + 1 + 1 ≤ 4 by decide) (show 0 + 4 + 4 + 4 ≤ 20 by decide) dX8_init_20 rfl ?_
  have k3 : ((tp_ur (tp_nT (tp_ur (tp_nT T 11 4) o 2 T.1) 11 4) o 3 (T.1 + 1)).2.1 o).1 = 8 := by
    show ((tp_nT (tp_ur (tp_nT T 11 4) o 2 T.1) 11 4).2.1 o).1 = 8
    rw [nT_old (show o < T.1 + 1 by omega)]
    show ((tp_nT T 11 4).2.1 o).1 = 8
    rw [nT_old ho]
    exact hk
  refine wp_putR 8 4 kcX8 kfX8_18 rfl rfl rfl rfl (fun z => rfl) (fun z => rfl) (show o < T.1 + 1 + 1 + 1 by omega) (by rw [nT_old (show o < T.1 + 1 + 1 by omega)]; exact k3) dX8_init_22 rfl ?_
  refine wp_aload_n 0 dX8_init_25 rfl rfl rfl ?_
  refine wp_bipush (v := 8) dX8_init_26 rfl (by decide) ?_
  refine wp_newa (N := 8) (atype := .int) 0 (by decide) rfl rfl (fun s cA h => h) tw_127 (by decide) rfl (by decide) (show 0 + 1 + 1 + 1 + 1 ≤ 4 by decide) (show 0 + 4 + 4 + 4 + 8 ≤ 20 by decide) dX8_init_28 rfl ?_
  have k4 : ((tp_ur (tp_nT (tp_ur (tp_nT (tp_ur (tp_nT T 11 4) o 2 T.1) 11 4) o 3 (T.1 + 1)) 11 4) o 4 (T.1 + 1 + 1)).2.1 o).1 = 8 := by
    show ((tp_nT (tp_ur (tp_nT (tp_ur (tp_nT T 11 4) o 2 T.1) 11 4) o 3 (T.1 + 1)) 11 4).2.1 o).1 = 8
    rw [nT_old (show o < T.1 + 1 + 1 by omega)]
    exact k3
  refine wp_putR 8 5 kcX8 kfX8_21 rfl rfl rfl rfl (fun z => rfl) (fun z => rfl) (show o < T.1 + 1 + 1 + 1 + 1 by omega) (by rw [nT_old (show o < T.1 + 1 + 1 + 1 by omega)]; exact k4) dX8_init_30 rfl ?_
  refine wp_iconst (v := 0) dX8_init_33 rfl (by decide) ?_
  refine wp_istore_n [1, 0] dX8_init_34 rfl rfl (by decide) rfl ?_
  have k5 : ((stT T o).2.1 o).1 = 8 := by
    show ((tp_nT (tp_ur (tp_nT (tp_ur (tp_nT (tp_ur (tp_nT T 11 4) o 2 T.1) 11 4) o 3 (T.1 + 1)) 11 4) o 4 (T.1 + 1 + 1)) 11 8).2.1 o).1 = 8
    rw [nT_old (show o < T.1 + 1 + 1 + 1 by omega)]
    exact k4
  have r5 : (stT T o).2.2 o 5 = some (T.1 + 1 + 1 + 1) := by
    unfold stT
    simp [tp_ur, va_up]
  have g5 : (stT T o).2.1 (T.1 + 1 + 1 + 1) = (11, 8) := nT_new (T := tp_ur (tp_nT (tp_ur (tp_nT (tp_ur (tp_nT T 11 4) o 2 T.1) 11 4) o 3 (T.1 + 1)) 11 4) o 4 (T.1 + 1 + 1))
  have s5 : (stT T o).1 = T.1 + 4 := rfl
  show WP E true (rmk (d + 1) 4 20) iX8_init 4 20 Q 35 [(0, .ref o), (1, .int (nI 0))] [] (stT T o) _
  refine lup (fun j s => WP E true (rmk (d + 1) 4 20) iX8_init 4 20 Q 35 [(0, .ref o), (1, .int (nI j))] [] (stT T o) s) (fun j s => (∀ q, q < T.1 → s q = σ q) ∧ (∀ i, i < 3 → ∀ k, s (T.1 + i) k = 0) ∧ ∀ t, t < j → s (T.1 + 3) t = -3) 8 ?_ ?_ 0 _ (by omega) ⟨fun q hq => ?_, fun i hi k => ?_, fun t ht => absurd ht (Nat.not_lt_zero t)⟩
  · intro s ⟨a1, a2, a3⟩
    refine wp_iload_n 1 dX8_init_35 rfl rfl rfl ?_
    refine wp_bipush (v := 8) dX8_init_36 rfl (by decide) ?_
    refine wp_icmp_ge 55 dX8_init_38 (by decide) rfl (fun h => ?_) (fun h => absurd (show (8 : Int32) ≤ nI 8 by decide) h)
    exact wp_vret rfl (show 4 ≤ 4 by decide) (show 20 ≤ 20 by decide) dX8_init_55 (K s a1 a2 a3)
  · intro j s hj ⟨a1, a2, a3⟩ ih
    refine wp_iload_n 1 dX8_init_35 rfl rfl rfl ?_
    refine wp_bipush (v := 8) dX8_init_36 rfl (by decide) ?_
    refine wp_icmp_ge 55 dX8_init_38 (by decide) rfl (fun h => absurd h (nle_lit 8 hj (by decide))) (fun h => ?_)
    refine wp_aload_n 0 dX8_init_41 rfl rfl rfl ?_
    refine wp_getR 8 5 kcX8 kfX8_21 rfl (by rw [s5]; omega) k5 r5 dX8_init_42 rfl ?_
    refine wp_iload_n 1 dX8_init_45 rfl rfl rfl ?_
    refine wp_bipush (v := -3) dX8_init_46 rfl (by decide) ?_
    refine wp_iast (by rw [s5]; omega) (by rw [g5]) (by rw [g5]; exact vin hj (by decide)) dX8_init_48 rfl ?_
    refine wp_iinc 1 [1, 0] (v := nI (j + 1)) dX8_init_49 rfl (by decide) rfl (nI_1 j) rfl ?_
    refine wp_goto 35 dX8_init_52 (by decide) (ih _ ⟨fun q hq => ?_, fun i hi k => ?_, fun t ht => ?_⟩)
    · rw [uu3 _ _ _ (by omega)]; exact a1 q hq
    · rw [uu3 _ _ _ (by omega)]; exact a2 i hi k
    · rw [vcl (by omega)]
      by_cases q : t = j
      · subst q; exact uu1 _ _ _ _
      · rw [show T.1 + 3 = T.1 + 1 + 1 + 1 from rfl, uu2 _ _ _ q]; exact a3 t (by omega)
  · show tp_nM (tp_nM (tp_nM (tp_nM σ T.1) (T.1 + 1)) (T.1 + 1 + 1)) (T.1 + 1 + 1 + 1) q = σ q
    rw [nM_old (by omega), nM_old (by omega), nM_old (by omega), nM_old (by omega)]
  · show tp_nM (tp_nM (tp_nM (tp_nM σ T.1) (T.1 + 1)) (T.1 + 1 + 1)) (T.1 + 1 + 1 + 1) (T.1 + i) k = 0
    rcases (show i = 0 ∨ i = 1 ∨ i = 2 by omega) with rfl | rfl | rfl
    · rw [nM_old (by omega), nM_old (by omega), nM_old (by omega), Nat.add_zero, nM_new]
    · rw [nM_old (by omega), nM_old (by omega), nM_new]
    · rw [nM_old (by omega)]; exact nM_new

/-! ===== an image is made ===== -/
theorem stT_old {T : tp_T} {o q : Nat} (h : q < T.1) : (stT T o).2.1 q = T.2.1 q := by
  show (tp_nT (tp_ur (tp_nT (tp_ur (tp_nT (tp_ur (tp_nT T 11 4) o 2 T.1) 11 4) o 3 (T.1 + 1)) 11 4) o 4 (T.1 + 1 + 1)) 11 8).2.1 q = T.2.1 q
  rw [nT_old (show q < T.1 + 1 + 1 + 1 by omega)]
  show (tp_nT (tp_ur (tp_nT (tp_ur (tp_nT T 11 4) o 2 T.1) 11 4) o 3 (T.1 + 1)) 11 4).2.1 q = T.2.1 q
  rw [nT_old (show q < T.1 + 1 + 1 by omega)]
  show (tp_nT (tp_ur (tp_nT T 11 4) o 2 T.1) 11 4).2.1 q = T.2.1 q
  rw [nT_old (show q < T.1 + 1 by omega)]
  show (tp_nT T 11 4).2.1 q = T.2.1 q
  rw [nT_old h]
def imT (T : tp_T) (o : Nat) : tp_T := tp_ur (stT (tp_nT T 8 0) T.1) o 0 T.1
theorem mk_image {E : tp_E} {T : tp_T} {σ : tp_M} {o d : Nat} {Q : Option Int32 → tp_T → tp_M → Prop} (ho : o < T.1) (hk : (T.2.1 o).1 = 2) (K : ∀ σ', (∀ q, q < T.1 → σ' q = σ q) → (∀ j, j < 4 → ∀ k, σ' (T.1 + j) k = 0) → (∀ t, t < 8 → σ' (T.1 + 4) t = -3) → Q none (imT T o) σ') : Ct E true (rmk (d + 1 + 1) 5 26) yX2_init iX2_init [.ref o] T σ Q := by
  refine Ct.of (by decide +kernel) rfl (fun _ => rfl) (Nat.le_of_ble_eq_true rfl) ?_
  refine wp_aload_n 0 dX2_init_0 rfl rfl rfl ?_
  refine wp_objInit tw_165 tw_59 tw_60 (show 1 ≤ d + 1 + 1 by omega) (show 0 + 12 ≤ 32 * (d + 1 + 1) by omega) dX2_init_1 rfl ?_
  refine wp_aload_n 0 dX2_init_4 rfl rfl rfl ?_
  refine wp_new 8 kcX8 tw_166 tw_129 tw_41 (by decide) (show 0 + 1 ≤ 5 by decide) (show 0 + 6 ≤ 26 by decide) dX2_init_5 rfl ?_
  refine wp_dup dX2_init_8 rfl rfl ?_
  refine wp_callI (As := []) (rest := [.ref T.1, .ref o]) (rm := rmk (d + 1) 4 20) kmX2_9 rfl rfl (Nat.le_of_ble_eq_true rfl) ⟨Nat.le_refl _, show 8 + (2 + 11) + 32 * (d + 1) ≤ 32 * (d + 1 + 1) by omega⟩ ⟨show 0 + 1 + 4 ≤ 5 by decide, show 0 + 6 + 20 ≤ 26 by decide⟩ dX2_init_9 rfl
    (mk_state (Q := fun r T' σ' => r = none ∧ T' = stT (tp_nT T 8 0) T.1 ∧ (∀ q, q < T.1 + 1 → σ' q = tp_nM σ T.1 q) ∧ (∀ j, j < 3 → ∀ k, σ' (T.1 + 1 + j) k = 0) ∧ ∀ t, t < 8 → σ' (T.1 + 1 + 3) t = -3) (show T.1 < T.1 + 1 by omega) (by rw [nT_new]) (fun σ' a b c => ⟨rfl, rfl, a, b, c⟩)) (fun r T' σ' hq => ?_)
  obtain ⟨rfl, rfl, a, b, c⟩ := hq
  refine wp_putR 2 0 kcX2 kfX2_10 rfl rfl rfl rfl (fun z => rfl) (fun z => rfl) (show o < T.1 + 1 + 1 + 1 + 1 + 1 by omega) (by rw [stT_old (show o < T.1 + 1 by omega), nT_old ho]; exact hk) dX2_init_12 rfl ?_
  refine wp_vret rfl (show 0 + 1 + 4 ≤ 5 by decide) (show 0 + 6 + 20 ≤ 26 by decide) dX2_init_15 (K σ' (fun q hq => ?_) (fun j hj k => ?_) (fun t ht => ?_))
  · rw [a q (by omega), nM_old (by omega)]
  · by_cases e : j = 0
    · subst e; rw [Nat.add_zero, a T.1 (by omega), nM_new]
    · have := b (j - 1) (by omega) k
      rw [show T.1 + 1 + (j - 1) = T.1 + j by omega] at this
      exact this
  · exact c t ht

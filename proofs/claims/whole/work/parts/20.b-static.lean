theorem bX9_isForeseen_0 {E : tp_E} {d : Nat} {Q : Int32 → tp_M → Prop} {σ : tp_M}   (x0 : Int32) (x1 : Int32) (K : if x0 < x1 then (Q 0 σ) else (if 20 < x0 then (Q 0 σ) else (Q 1 σ))) : Wi E TC iX9_isForeseen d Q 0 [(0, .int x0), (1, .int x1)] [] σ := by
  refine wp_iload_n 0 dX9_isForeseen_0 rfl rfl rfl ?_
  refine wp_iload_n 1 dX9_isForeseen_1 rfl rfl rfl ?_
  refine wp_icmp_lt 15 dX9_isForeseen_2 (by decide) rfl (fun h1 => ?_) (fun h1 => ?_)
  · rw [if_pos h1] at K
    refine wp_iconst (v := 0) dX9_isForeseen_15 rfl (by decide) ?_
    exact wp_ret .boolean rfl rfl (Nat.le_refl 0) (Nat.le_refl 0) dX9_isForeseen_16 ⟨rfl, _, rfl, K⟩
  · rw [if_neg h1] at K
    refine wp_iload_n 0 dX9_isForeseen_5 rfl rfl rfl ?_
    refine wp_bipush (v := 20) dX9_isForeseen_6 rfl (by decide) ?_
    refine wp_icmp_gt 15 dX9_isForeseen_8 (by decide) rfl (fun h2 => ?_) (fun h2 => ?_)
    · rw [if_pos h2] at K
      refine wp_iconst (v := 0) dX9_isForeseen_15 rfl (by decide) ?_
      exact wp_ret .boolean rfl rfl (Nat.le_refl 0) (Nat.le_refl 0) dX9_isForeseen_16 ⟨rfl, _, rfl, K⟩
    · rw [if_neg h2] at K
      refine wp_iconst (v := 1) dX9_isForeseen_11 rfl (by decide) ?_
      refine wp_goto 16 dX9_isForeseen_12 (by decide) ?_
      exact wp_ret .boolean rfl rfl (Nat.le_refl 0) (Nat.le_refl 0) dX9_isForeseen_16 ⟨rfl, _, rfl, K⟩
theorem eX9_isForeseen {E : tp_E} {d : Nat} {Q : Int32 → tp_M → Prop} {σ : tp_M}   (x0 : Int32) (x1 : Int32) (K : if x0 < x1 then (Q 0 σ) else (if 20 < x0 then (Q 0 σ) else (Q 1 σ))) : Ci E TC yX9_isForeseen iX9_isForeseen d [.int x0, .int x1] σ Q := Ci.of ⟨by decide +kernel, rfl, rfl⟩ (Nat.le_of_ble_eq_true rfl) (bX9_isForeseen_0  x0 x1 K)
theorem bX9_has_0 {E : tp_E} {d : Nat} {Q : Int32 → tp_M → Prop} {σ : tp_M}   (x0 : Int32) (x1 : Int32) (K : if ((x0 >>> (x1 &&& 31)) &&& 1) = 1 then (Q 1 σ) else (Q 0 σ)) : Wi E TC iX9_has d Q 0 [(0, .int x0), (1, .int x1)] [] σ := by
  refine wp_iload_n 0 dX9_has_0 rfl rfl rfl ?_
  refine wp_iload_n 1 dX9_has_1 rfl rfl rfl ?_
  refine wp_ishr dX9_has_2 rfl ?_
  refine wp_iconst (v := 1) dX9_has_3 rfl (by decide) ?_
  refine wp_iand dX9_has_4 rfl ?_
  refine wp_iconst (v := 1) dX9_has_5 rfl (by decide) ?_
  refine wp_icmp_ne 13 dX9_has_6 (by decide) rfl (fun h1 => ?_) (fun h1 => ?_)
  · rw [if_neg h1] at K
    refine wp_iconst (v := 0) dX9_has_13 rfl (by decide) ?_
    exact wp_ret .boolean rfl rfl (Nat.le_refl 0) (Nat.le_refl 0) dX9_has_14 ⟨rfl, _, rfl, K⟩
  · rw [if_pos h1] at K
    refine wp_iconst (v := 1) dX9_has_9 rfl (by decide) ?_
    refine wp_goto 14 dX9_has_10 (by decide) ?_
    exact wp_ret .boolean rfl rfl (Nat.le_refl 0) (Nat.le_refl 0) dX9_has_14 ⟨rfl, _, rfl, K⟩
theorem eX9_has {E : tp_E} {d : Nat} {Q : Int32 → tp_M → Prop} {σ : tp_M}   (x0 : Int32) (x1 : Int32) (K : if ((x0 >>> (x1 &&& 31)) &&& 1) = 1 then (Q 1 σ) else (Q 0 σ)) : Ci E TC yX9_has iX9_has d [.int x0, .int x1] σ Q := Ci.of ⟨by decide +kernel, rfl, rfl⟩ (Nat.le_of_ble_eq_true rfl) (bX9_has_0  x0 x1 K)
theorem bX9_sideOf_0 {E : tp_E} {d : Nat} {Q : Int32 → tp_M → Prop} {σ : tp_M}   (x0 : Int32) (x1 : Int32) (K : Q ((2 * x0) + x1) σ) : Wi E TC iX9_sideOf d Q 0 [(0, .int x0), (1, .int x1)] [] σ := by
  refine wp_iconst (v := 2) dX9_sideOf_0 rfl (by decide) ?_
  refine wp_iload_n 0 dX9_sideOf_1 rfl rfl rfl ?_
  refine wp_imul dX9_sideOf_2 rfl ?_
  refine wp_iload_n 1 dX9_sideOf_3 rfl rfl rfl ?_
  refine wp_iadd dX9_sideOf_4 rfl ?_
  exact wp_ret .int rfl rfl (Nat.le_refl 0) (Nat.le_refl 0) dX9_sideOf_5 ⟨rfl, _, rfl, K⟩
theorem eX9_sideOf {E : tp_E} {d : Nat} {Q : Int32 → tp_M → Prop} {σ : tp_M}   (x0 : Int32) (x1 : Int32) (K : Q ((2 * x0) + x1) σ) : Ci E TC yX9_sideOf iX9_sideOf d [.int x0, .int x1] σ Q := Ci.of ⟨by decide +kernel, rfl, rfl⟩ (Nat.le_of_ble_eq_true rfl) (bX9_sideOf_0  x0 x1 K)
theorem bX9_stepsOf_0 {E : tp_E} {d : Nat} {Q : Int32 → tp_M → Prop} {σ : tp_M}   (x0 : Int32) (K : Wi E TC iX9_stepsOf d Q 4 [(1, .int 0), (2, .int x0)] [] σ) : Wi E TC iX9_stepsOf d Q 0 [(0, .int x0)] [] σ := by
  refine wp_iconst (v := 0) dX9_stepsOf_0 rfl (by decide) ?_
  refine wp_istore_n [1, 0] dX9_stepsOf_1 rfl rfl (by decide) rfl ?_
  show WP _ _ _ _ _ _ _ 2 [(0, .int x0), (1, .int 0)] _ _ _
  refine wp_iload_n 0 dX9_stepsOf_2 rfl rfl rfl ?_
  refine wp_istore_n [1, 2, 0] dX9_stepsOf_3 rfl rfl (by decide) rfl ?_
  show WP _ _ _ _ _ _ _ 4 [(0, .int x0), (1, .int 0), (2, .int x0)] _ _ _
  refine wp_lv [1, 2] rfl ?_
  exact K
theorem eX9_stepsOf {E : tp_E} {d : Nat} {Q : Int32 → tp_M → Prop} {σ : tp_M}   (x0 : Int32) (K : Wi E TC iX9_stepsOf d Q 4 [(1, .int 0), (2, .int x0)] [] σ) : Ci E TC yX9_stepsOf iX9_stepsOf d [.int x0] σ Q := Ci.of ⟨by decide +kernel, rfl, rfl⟩ (Nat.le_of_ble_eq_true rfl) (bX9_stepsOf_0  x0 K)
theorem bX9_stepsOf_4 {E : tp_E} {d : Nat} {Q : Int32 → tp_M → Prop} {σ : tp_M}   (x1 : Int32) (x2 : Int32) (K : if x2 ≤ 0 then (Q x1 σ) else (if 9 ≤ x1 then (Q x1 σ) else (Wi E TC iX9_stepsOf d Q 4 [(1, .int (x1 + 1)), (2, .int (x2 / 10))] [] σ))) : Wi E TC iX9_stepsOf d Q 4 [(1, .int x1), (2, .int x2)] [] σ := by
  refine wp_iload_n 1 dX9_stepsOf_4 rfl rfl rfl ?_
  refine wp_if_le 25 dX9_stepsOf_5 (by decide) rfl (fun h1 => ?_) (fun h1 => ?_)
  · rw [if_pos h1] at K
    refine wp_iload_n 0 dX9_stepsOf_25 rfl rfl rfl ?_
    exact wp_ret .int rfl rfl (Nat.le_refl 0) (Nat.le_refl 0) dX9_stepsOf_26 ⟨rfl, _, rfl, K⟩
  · rw [if_neg h1] at K
    refine wp_iload_n 0 dX9_stepsOf_8 rfl rfl rfl ?_
    refine wp_bipush (v := 9) dX9_stepsOf_9 rfl (by decide) ?_
    refine wp_icmp_ge 25 dX9_stepsOf_11 (by decide) rfl (fun h2 => ?_) (fun h2 => ?_)
    · rw [if_pos h2] at K
      refine wp_iload_n 0 dX9_stepsOf_25 rfl rfl rfl ?_
      exact wp_ret .int rfl rfl (Nat.le_refl 0) (Nat.le_refl 0) dX9_stepsOf_26 ⟨rfl, _, rfl, K⟩
    · rw [if_neg h2] at K
      refine wp_iinc (v := x1 + 1) 0 [0, 1] dX9_stepsOf_14 rfl (by decide) rfl rfl rfl ?_
      show WP _ _ _ _ _ _ _ 17 [(1, .int (x1 + 1)), (2, .int x2)] _ _ _
      refine wp_iload_n 1 dX9_stepsOf_17 rfl rfl rfl ?_
      refine wp_bipush (v := 10) dX9_stepsOf_18 rfl (by decide) ?_
      refine wp_idiv dX9_stepsOf_20 rfl (by decide) ?_
      refine wp_istore_n [1, 0] dX9_stepsOf_21 rfl rfl (by decide) rfl ?_
      show WP _ _ _ _ _ _ _ 22 [(1, .int (x1 + 1)), (2, .int (x2 / 10))] _ _ _
      refine wp_goto 4 dX9_stepsOf_22 (by decide) ?_
      exact K
theorem bX9_turnedRound_0 {E : tp_E} {d : Nat} {Q : Int32 → tp_M → Prop} {σ : tp_M}   (x0 : Int32) (K : Wi E TC iX9_turnedRound d Q 6 [(1, .int 0), (2, .int x0), (3, .int 0)] [] σ) : Wi E TC iX9_turnedRound d Q 0 [(0, .int x0)] [] σ := by
  refine wp_iconst (v := 0) dX9_turnedRound_0 rfl (by decide) ?_
  refine wp_istore_n [1, 0] dX9_turnedRound_1 rfl rfl (by decide) rfl ?_
  show WP _ _ _ _ _ _ _ 2 [(0, .int x0), (1, .int 0)] _ _ _
  refine wp_iload_n 0 dX9_turnedRound_2 rfl rfl rfl ?_
  refine wp_istore_n [1, 2, 0] dX9_turnedRound_3 rfl rfl (by decide) rfl ?_
  show WP _ _ _ _ _ _ _ 4 [(0, .int x0), (1, .int 0), (2, .int x0)] _ _ _
  refine wp_iconst (v := 0) dX9_turnedRound_4 rfl (by decide) ?_
  refine wp_istore_n [1, 2, 3, 0] dX9_turnedRound_5 rfl rfl (by decide) rfl ?_
  show WP _ _ _ _ _ _ _ 6 [(0, .int x0), (1, .int 0), (2, .int x0), (3, .int 0)] _ _ _
  refine wp_lv [1, 2, 3] rfl ?_
  exact K
theorem eX9_turnedRound {E : tp_E} {d : Nat} {Q : Int32 → tp_M → Prop} {σ : tp_M}   (x0 : Int32) (K : Wi E TC iX9_turnedRound d Q 6 [(1, .int 0), (2, .int x0), (3, .int 0)] [] σ) : Ci E TC yX9_turnedRound iX9_turnedRound d [.int x0] σ Q := Ci.of ⟨by decide +kernel, rfl, rfl⟩ (Nat.le_of_ble_eq_true rfl) (bX9_turnedRound_0  x0 K)
theorem bX9_turnedRound_6 {E : tp_E} {d : Nat} {Q : Int32 → tp_M → Prop} {σ : tp_M}   (x1 : Int32) (x2 : Int32) (x3 : Int32) (K : if 9 ≤ x3 then (Q x1 σ) else (if x2 ≤ 0 then (Q x1 σ) else (Wi E TC iX9_turnedRound d Q 6 [(1, .int ((x1 * 10) + (x2 - x2 / 10 * 10))), (2, .int (x2 / 10)), (3, .int (x3 + 1))] [] σ))) : Wi E TC iX9_turnedRound d Q 6 [(1, .int x1), (2, .int x2), (3, .int x3)] [] σ := by
  refine wp_iload_n 2 dX9_turnedRound_6 rfl rfl rfl ?_
  refine wp_bipush (v := 9) dX9_turnedRound_7 rfl (by decide) ?_
  refine wp_icmp_ge 37 dX9_turnedRound_9 (by decide) rfl (fun h1 => ?_) (fun h1 => ?_)
  · rw [if_pos h1] at K
    refine wp_iload_n 0 dX9_turnedRound_37 rfl rfl rfl ?_
    exact wp_ret .int rfl rfl (Nat.le_refl 0) (Nat.le_refl 0) dX9_turnedRound_38 ⟨rfl, _, rfl, K⟩
  · rw [if_neg h1] at K
    refine wp_iload_n 1 dX9_turnedRound_12 rfl rfl rfl ?_
    refine wp_if_le 37 dX9_turnedRound_13 (by decide) rfl (fun h2 => ?_) (fun h2 => ?_)
    · rw [if_pos h2] at K
      refine wp_iload_n 0 dX9_turnedRound_37 rfl rfl rfl ?_
      exact wp_ret .int rfl rfl (Nat.le_refl 0) (Nat.le_refl 0) dX9_turnedRound_38 ⟨rfl, _, rfl, K⟩
    · rw [if_neg h2] at K
      refine wp_iload_n 0 dX9_turnedRound_16 rfl rfl rfl ?_
      refine wp_bipush (v := 10) dX9_turnedRound_17 rfl (by decide) ?_
      refine wp_imul dX9_turnedRound_19 rfl ?_
      refine wp_iload_n 1 dX9_turnedRound_20 rfl rfl rfl ?_
      refine wp_bipush (v := 10) dX9_turnedRound_21 rfl (by decide) ?_
      refine wp_irem dX9_turnedRound_23 rfl (by decide) ?_
      refine wp_iadd dX9_turnedRound_24 rfl ?_
      refine wp_istore_n [0, 1, 2] dX9_turnedRound_25 rfl rfl (by decide) rfl ?_
      show WP _ _ _ _ _ _ _ 26 [(1, .int ((x1 * 10) + (x2 - x2 / 10 * 10))), (2, .int x2), (3, .int x3)] _ _ _
      refine wp_iload_n 1 dX9_turnedRound_26 rfl rfl rfl ?_
      refine wp_bipush (v := 10) dX9_turnedRound_27 rfl (by decide) ?_
      refine wp_idiv dX9_turnedRound_29 rfl (by decide) ?_
      refine wp_istore_n [1, 0, 2] dX9_turnedRound_30 rfl rfl (by decide) rfl ?_
      show WP _ _ _ _ _ _ _ 31 [(1, .int ((x1 * 10) + (x2 - x2 / 10 * 10))), (2, .int (x2 / 10)), (3, .int x3)] _ _ _
      refine wp_iinc (v := x3 + 1) 2 [1, 2, 0] dX9_turnedRound_31 rfl (by decide) rfl rfl rfl ?_
      show WP _ _ _ _ _ _ _ 34 [(1, .int ((x1 * 10) + (x2 - x2 / 10 * 10))), (2, .int (x2 / 10)), (3, .int (x3 + 1))] _ _ _
      refine wp_goto 6 dX9_turnedRound_34 (by decide) ?_
      exact K
theorem bX9_power_0 {E : tp_E} {d : Nat} {Q : Int32 → tp_M → Prop} {σ : tp_M}   (x0 : Int32) (x1 : Int32) (K : Wi E TC iX9_power d Q 4 [(0, .int x0), (1, .int x1), (2, .int 1), (3, .int 0)] [] σ) : Wi E TC iX9_power d Q 0 [(0, .int x0), (1, .int x1)] [] σ := by
  refine wp_iconst (v := 1) dX9_power_0 rfl (by decide) ?_
  refine wp_istore_n [1, 2, 0] dX9_power_1 rfl rfl (by decide) rfl ?_
  show WP _ _ _ _ _ _ _ 2 [(0, .int x0), (1, .int x1), (2, .int 1)] _ _ _
  refine wp_iconst (v := 0) dX9_power_2 rfl (by decide) ?_
  refine wp_istore_n [1, 2, 3, 0] dX9_power_3 rfl rfl (by decide) rfl ?_
  show WP _ _ _ _ _ _ _ 4 [(0, .int x0), (1, .int x1), (2, .int 1), (3, .int 0)] _ _ _
  exact K
theorem eX9_power {E : tp_E} {d : Nat} {Q : Int32 → tp_M → Prop} {σ : tp_M}   (x0 : Int32) (x1 : Int32) (K : Wi E TC iX9_power d Q 4 [(0, .int x0), (1, .int x1), (2, .int 1), (3, .int 0)] [] σ) : Ci E TC yX9_power iX9_power d [.int x0, .int x1] σ Q := Ci.of ⟨by decide +kernel, rfl, rfl⟩ (Nat.le_of_ble_eq_true rfl) (bX9_power_0  x0 x1 K)
theorem bX9_power_4 {E : tp_E} {d : Nat} {Q : Int32 → tp_M → Prop} {σ : tp_M}   (x0 : Int32) (x1 : Int32) (x2 : Int32) (x3 : Int32) (K : if x1 ≤ x3 then (Q x2 σ) else (Wi E TC iX9_power d Q 4 [(0, .int x0), (1, .int x1), (2, .int (x2 * x0)), (3, .int (x3 + 1))] [] σ)) : Wi E TC iX9_power d Q 4 [(0, .int x0), (1, .int x1), (2, .int x2), (3, .int x3)] [] σ := by
  refine wp_iload_n 3 dX9_power_4 rfl rfl rfl ?_
  refine wp_iload_n 1 dX9_power_5 rfl rfl rfl ?_
  refine wp_icmp_ge 19 dX9_power_6 (by decide) rfl (fun h1 => ?_) (fun h1 => ?_)
  · rw [if_pos h1] at K
    refine wp_iload_n 2 dX9_power_19 rfl rfl rfl ?_
    exact wp_ret .int rfl rfl (Nat.le_refl 0) (Nat.le_refl 0) dX9_power_20 ⟨rfl, _, rfl, K⟩
  · rw [if_neg h1] at K
    refine wp_iload_n 2 dX9_power_9 rfl rfl rfl ?_
    refine wp_iload_n 0 dX9_power_10 rfl rfl rfl ?_
    refine wp_imul dX9_power_11 rfl ?_
    refine wp_istore_n [1, 2, 0, 3] dX9_power_12 rfl rfl (by decide) rfl ?_
    show WP _ _ _ _ _ _ _ 13 [(0, .int x0), (1, .int x1), (2, .int (x2 * x0)), (3, .int x3)] _ _ _
    refine wp_iinc (v := x3 + 1) 3 [1, 2, 3, 0] dX9_power_13 rfl (by decide) rfl rfl rfl ?_
    show WP _ _ _ _ _ _ _ 16 [(0, .int x0), (1, .int x1), (2, .int (x2 * x0)), (3, .int (x3 + 1))] _ _ _
    refine wp_goto 4 dX9_power_16 (by decide) ?_
    exact K
theorem bX9_spell_0 {E : tp_E} {d : Nat} {Q : tp_M → Prop} {σ : tp_M} (row : Nat) (hl_row : row < TC.1) (hg_row : TC.2.1 row = (11, 4)) (x0 : Int32) (x1 : Int32) (x3 : Int32) (K : Wv E TC iX9_spell (d + 1) Q 13 [(1, .int x1), (2, .ref row), (4, .int x0), (5, .int ((if 4 < x3 then 4 else x3) - 1))] [] σ) : Wv E TC iX9_spell (d + 1) Q 0 [(0, .int x0), (1, .int x1), (2, .ref row), (3, .int x3)] [] σ := by
  refine wp_iload_n 0 dX9_spell_0 rfl rfl rfl ?_
  refine wp_istore [1, 2, 3, 4, 0] dX9_spell_1 rfl (by decide) rfl ?_
  show WP _ _ _ _ _ _ _ 3 [(0, .int x0), (1, .int x1), (2, .ref row), (3, .int x3), (4, .int x0)] _ _ _
  refine wp_iload_n 3 dX9_spell_3 rfl rfl rfl ?_
  refine wp_aload_n 2 dX9_spell_4 rfl rfl rfl ?_
  refine wp_alen (v := 4) 0 (by decide) hl_row hg_row rfl dX9_spell_5 rfl ?_
  refine wn_min tw_802 tw_602 tw_51 tw_603 (Nat.le_of_ble_eq_true rfl) dX9_spell_6 rfl ?_
  refine wp_iconst (v := 1) dX9_spell_9 rfl (by decide) ?_
  refine wp_isub dX9_spell_10 rfl ?_
  refine wp_istore [1, 2, 3, 4, 5, 0] dX9_spell_11 rfl (by decide) rfl ?_
  show WP _ _ _ _ _ _ _ 13 [(0, .int x0), (1, .int x1), (2, .ref row), (3, .int x3), (4, .int x0), (5, .int ((if 4 < x3 then 4 else x3) - 1))] _ _ _
  refine wp_lv [1, 2, 4, 5] rfl ?_
  exact K
theorem eX9_spell {E : tp_E} {d : Nat} {Q : tp_M → Prop} {σ : tp_M} (row : Nat) (hl_row : row < TC.1) (hg_row : TC.2.1 row = (11, 4)) (x0 : Int32) (x1 : Int32) (x3 : Int32) (K : Wv E TC iX9_spell (d + 1) Q 13 [(1, .int x1), (2, .ref row), (4, .int x0), (5, .int ((if 4 < x3 then 4 else x3) - 1))] [] σ) : Cv E TC yX9_spell iX9_spell (d + 1) [.int x0, .int x1, .ref row, .int x3] σ Q := Cv.of ⟨by decide +kernel, rfl, rfl⟩ (Nat.le_of_ble_eq_true rfl) (bX9_spell_0 row hl_row hg_row x0 x1 x3 K)
theorem bX9_spell_13 {E : tp_E} {d : Nat} {Q : tp_M → Prop} {σ : tp_M} (row : Nat) (hl_row : row < TC.1) (hg_row : TC.2.1 row = (11, 4)) (x1 : Int32) (x4 : Int32) (x5 : Int32) (K : if x5 < 0 then (Q σ) else (if x1 ≤ 0 then (Wv E TC iX9_spell (d + 1) Q 33 [(1, .int x1), (2, .ref row), (4, .int x4), (5, .int x5)] [.int 0, .int x5, .ref row] σ) else ((¬ x1 = 0) ∧ (Wv E TC iX9_spell (d + 1) Q 33 [(1, .int x1), (2, .ref row), (4, .int x4), (5, .int x5)] [.int (x4 - x4 / x1 * x1), .int x5, .ref row] σ)))) : Wv E TC iX9_spell (d + 1) Q 13 [(1, .int x1), (2, .ref row), (4, .int x4), (5, .int x5)] [] σ := by
  refine wp_iload 3 dX9_spell_13 rfl rfl ?_
  refine wp_if_lt 54 dX9_spell_15 (by decide) rfl (fun h1 => ?_) (fun h1 => ?_)
  · rw [if_pos h1] at K
    exact wp_vret rfl (Nat.le_refl 0) (Nat.le_refl 0) dX9_spell_54 ⟨rfl, rfl, K⟩
  · rw [if_neg h1] at K
    refine wp_aload_n 1 dX9_spell_18 rfl rfl rfl ?_
    refine wp_iload 3 dX9_spell_19 rfl rfl ?_
    refine wp_iload_n 0 dX9_spell_21 rfl rfl rfl ?_
    refine wp_if_le 32 dX9_spell_22 (by decide) rfl (fun h2 => ?_) (fun h2 => ?_)
    · rw [if_pos h2] at K
      refine wp_iconst (v := 0) dX9_spell_32 rfl (by decide) ?_
      exact K
    · rw [if_neg h2] at K
      refine wp_iload 2 dX9_spell_25 rfl rfl ?_
      refine wp_iload_n 0 dX9_spell_27 rfl rfl rfl ?_
      obtain ⟨k3, K⟩ := K
      refine wp_irem dX9_spell_28 rfl k3 ?_
      refine wp_goto 33 dX9_spell_29 (by decide) ?_
      exact K
theorem bX9_spell_33 {E : tp_E} {d : Nat} {Q : tp_M → Prop} {σ : tp_M} (row : Nat) (hl_row : row < TC.1) (hg_row : TC.2.1 row = (11, 4)) (x1 : Int32) (x4 : Int32) (x5 : Int32) (s1 : Int32) (s2 : Int32) (K : vp_in s1 4 ∧ (if x1 ≤ 0 then (Wv E TC iX9_spell (d + 1) Q 13 [(1, .int x1), (2, .ref row), (4, .int 0), (5, .int (x5 + (-1)))] [] (tp_u σ row (Int32.toNatClampNeg s1) s2)) else ((¬ x1 = 0) ∧ (Wv E TC iX9_spell (d + 1) Q 13 [(1, .int x1), (2, .ref row), (4, .int (x4 / x1)), (5, .int (x5 + (-1)))] [] (tp_u σ row (Int32.toNatClampNeg s1) s2))))) : Wv E TC iX9_spell (d + 1) Q 33 [(1, .int x1), (2, .ref row), (4, .int x4), (5, .int x5)] [.int s2, .int s1, .ref row] σ := by
  obtain ⟨k1, K⟩ := K
  refine wn_iast hl_row hg_row k1 dX9_spell_33 rfl ?_
  refine wp_iload_n 0 dX9_spell_34 rfl rfl rfl ?_
  refine wp_if_le 45 dX9_spell_35 (by decide) rfl (fun h2 => ?_) (fun h2 => ?_)
  · rw [if_pos h2] at K
    refine wp_iconst (v := 0) dX9_spell_45 rfl (by decide) ?_
    refine wp_istore [1, 2, 0, 3] dX9_spell_46 rfl (by decide) rfl ?_
    show WP _ _ _ _ _ _ _ 48 [(1, .int x1), (2, .ref row), (4, .int 0), (5, .int x5)] _ _ _
    refine wp_iinc (v := x5 + (-1)) 3 [1, 2, 3, 0] dX9_spell_48 rfl (by decide) rfl rfl rfl ?_
    show WP _ _ _ _ _ _ _ 51 [(1, .int x1), (2, .ref row), (4, .int 0), (5, .int (x5 + (-1)))] _ _ _
    refine wp_goto 13 dX9_spell_51 (by decide) ?_
    exact K
  · rw [if_neg h2] at K
    refine wp_iload 2 dX9_spell_38 rfl rfl ?_
    refine wp_iload_n 0 dX9_spell_40 rfl rfl rfl ?_
    obtain ⟨k3, K⟩ := K
    refine wp_idiv dX9_spell_41 rfl k3 ?_
    refine wp_goto 46 dX9_spell_42 (by decide) ?_
    refine wp_istore [1, 2, 0, 3] dX9_spell_46 rfl (by decide) rfl ?_
    show WP _ _ _ _ _ _ _ 48 [(1, .int x1), (2, .ref row), (4, .int (x4 / x1)), (5, .int x5)] _ _ _
    refine wp_iinc (v := x5 + (-1)) 3 [1, 2, 3, 0] dX9_spell_48 rfl (by decide) rfl rfl rfl ?_
    show WP _ _ _ _ _ _ _ 51 [(1, .int x1), (2, .ref row), (4, .int (x4 / x1)), (5, .int (x5 + (-1)))] _ _ _
    refine wp_goto 13 dX9_spell_51 (by decide) ?_
    exact K
theorem bX0_meetBetween_0 {E : tp_E} {d : Nat} {Q : Int32 → tp_M → Prop} {σ : tp_M}   (x0 : Int32) (x1 : Int32) (x2 : Int32) (x3 : Int32) (K : if x0 = x1 then (if x2 = x3 then (Wi E TC iX0_meetBetween d Q 15 [(0, .int x0), (1, .int x1), (2, .int x2), (3, .int x3)] [.int 0] σ) else (Wi E TC iX0_meetBetween d Q 15 [(0, .int x0), (1, .int x1), (2, .int x2), (3, .int x3)] [.int 1] σ)) else (Wi E TC iX0_meetBetween d Q 15 [(0, .int x0), (1, .int x1), (2, .int x2), (3, .int x3)] [.int 1] σ)) : Wi E TC iX0_meetBetween d Q 0 [(0, .int x0), (1, .int x1), (2, .int x2), (3, .int x3)] [] σ := by
  refine wp_iload_n 0 dX0_meetBetween_0 rfl rfl rfl ?_
  refine wp_iload_n 1 dX0_meetBetween_1 rfl rfl rfl ?_
  refine wp_icmp_ne 10 dX0_meetBetween_2 (by decide) rfl (fun h1 => ?_) (fun h1 => ?_)
  · rw [if_neg h1] at K
    refine wp_iconst (v := 1) dX0_meetBetween_10 rfl (by decide) ?_
    refine wp_goto 15 dX0_meetBetween_11 (by decide) ?_
    exact K
  · rw [if_pos h1] at K
    refine wp_iload_n 2 dX0_meetBetween_5 rfl rfl rfl ?_
    refine wp_iload_n 3 dX0_meetBetween_6 rfl rfl rfl ?_
    refine wp_icmp_eq 14 dX0_meetBetween_7 (by decide) rfl (fun h2 => ?_) (fun h2 => ?_)
    · rw [if_pos h2] at K
      refine wp_iconst (v := 0) dX0_meetBetween_14 rfl (by decide) ?_
      exact K
    · rw [if_neg h2] at K
      refine wp_iconst (v := 1) dX0_meetBetween_10 rfl (by decide) ?_
      refine wp_goto 15 dX0_meetBetween_11 (by decide) ?_
      exact K
theorem eX0_meetBetween {E : tp_E} {d : Nat} {Q : Int32 → tp_M → Prop} {σ : tp_M}   (x0 : Int32) (x1 : Int32) (x2 : Int32) (x3 : Int32) (K : if x0 = x1 then (if x2 = x3 then (Wi E TC iX0_meetBetween d Q 15 [(0, .int x0), (1, .int x1), (2, .int x2), (3, .int x3)] [.int 0] σ) else (Wi E TC iX0_meetBetween d Q 15 [(0, .int x0), (1, .int x1), (2, .int x2), (3, .int x3)] [.int 1] σ)) else (Wi E TC iX0_meetBetween d Q 15 [(0, .int x0), (1, .int x1), (2, .int x2), (3, .int x3)] [.int 1] σ)) : Ci E TC yX0_meetBetween iX0_meetBetween d [.int x0, .int x1, .int x2, .int x3] σ Q := Ci.of ⟨by decide +kernel, rfl, rfl⟩ (Nat.le_of_ble_eq_true rfl) (bX0_meetBetween_0  x0 x1 x2 x3 K)
theorem bX0_meetBetween_15 {E : tp_E} {d : Nat} {Q : Int32 → tp_M → Prop} {σ : tp_M}   (x0 : Int32) (x1 : Int32) (x2 : Int32) (x3 : Int32) (s0 : Int32) (K : if s0 = 0 then (Q 0 σ) else (if x1 = x3 then (Q 1 σ) else (if x1 = x2 then (if x3 = x0 then (Q 1 σ) else (Q 0 σ)) else (Q 0 σ)))) : Wi E TC iX0_meetBetween d Q 15 [(0, .int x0), (1, .int x1), (2, .int x2), (3, .int x3)] [.int s0] σ := by
  refine wp_istore [1, 2, 3, 4, 0] dX0_meetBetween_15 rfl (by decide) rfl ?_
  show WP _ _ _ _ _ _ _ 17 [(0, .int x0), (1, .int x1), (2, .int x2), (3, .int x3), (4, .int s0)] _ _ _
  refine wp_iload 4 dX0_meetBetween_17 rfl rfl ?_
  refine wp_if_eq 41 dX0_meetBetween_19 (by decide) rfl (fun h1 => ?_) (fun h1 => ?_)
  · rw [if_pos h1] at K
    refine wp_iconst (v := 0) dX0_meetBetween_41 rfl (by decide) ?_
    exact wp_ret .boolean rfl rfl (Nat.le_refl 0) (Nat.le_refl 0) dX0_meetBetween_42 ⟨rfl, _, rfl, K⟩
  · rw [if_neg h1] at K
    refine wp_iload_n 1 dX0_meetBetween_22 rfl rfl rfl ?_
    refine wp_iload_n 3 dX0_meetBetween_23 rfl rfl rfl ?_
    refine wp_icmp_eq 37 dX0_meetBetween_24 (by decide) rfl (fun h2 => ?_) (fun h2 => ?_)
    · rw [if_pos h2] at K
      refine wp_iconst (v := 1) dX0_meetBetween_37 rfl (by decide) ?_
      refine wp_goto 42 dX0_meetBetween_38 (by decide) ?_
      exact wp_ret .boolean rfl rfl (Nat.le_refl 0) (Nat.le_refl 0) dX0_meetBetween_42 ⟨rfl, _, rfl, K⟩
    · rw [if_neg h2] at K
      refine wp_iload_n 1 dX0_meetBetween_27 rfl rfl rfl ?_
      refine wp_iload_n 2 dX0_meetBetween_28 rfl rfl rfl ?_
      refine wp_icmp_ne 41 dX0_meetBetween_29 (by decide) rfl (fun h3 => ?_) (fun h3 => ?_)
      · rw [if_neg h3] at K
        refine wp_iconst (v := 0) dX0_meetBetween_41 rfl (by decide) ?_
        exact wp_ret .boolean rfl rfl (Nat.le_refl 0) (Nat.le_refl 0) dX0_meetBetween_42 ⟨rfl, _, rfl, K⟩
      · rw [if_pos h3] at K
        refine wp_iload_n 3 dX0_meetBetween_32 rfl rfl rfl ?_
        refine wp_iload_n 0 dX0_meetBetween_33 rfl rfl rfl ?_
        refine wp_icmp_ne 41 dX0_meetBetween_34 (by decide) rfl (fun h4 => ?_) (fun h4 => ?_)
        · rw [if_neg h4] at K
          refine wp_iconst (v := 0) dX0_meetBetween_41 rfl (by decide) ?_
          exact wp_ret .boolean rfl rfl (Nat.le_refl 0) (Nat.le_refl 0) dX0_meetBetween_42 ⟨rfl, _, rfl, K⟩
        · rw [if_pos h4] at K
          refine wp_iconst (v := 1) dX0_meetBetween_37 rfl (by decide) ?_
          refine wp_goto 42 dX0_meetBetween_38 (by decide) ?_
          exact wp_ret .boolean rfl rfl (Nat.le_refl 0) (Nat.le_refl 0) dX0_meetBetween_42 ⟨rfl, _, rfl, K⟩
theorem bX0_memberOf_0 {E : tp_E} {d : Nat} {Q : Int32 → tp_M → Prop} {σ : tp_M}   (x0 : Int32) (x1 : Int32) (K : Wi E TC iX0_memberOf (d + 1) Q 4 [(0, .int x0), (2, .int x1), (3, .int 0)] [] σ) : Wi E TC iX0_memberOf (d + 1) Q 0 [(0, .int x0), (1, .int x1)] [] σ := by
  refine wp_iload_n 1 dX0_memberOf_0 rfl rfl rfl ?_
  refine wp_istore_n [1, 2, 0] dX0_memberOf_1 rfl rfl (by decide) rfl ?_
  show WP _ _ _ _ _ _ _ 2 [(0, .int x0), (1, .int x1), (2, .int x1)] _ _ _
  refine wp_iconst (v := 0) dX0_memberOf_2 rfl (by decide) ?_
  refine wp_istore_n [1, 2, 3, 0] dX0_memberOf_3 rfl rfl (by decide) rfl ?_
  show WP _ _ _ _ _ _ _ 4 [(0, .int x0), (1, .int x1), (2, .int x1), (3, .int 0)] _ _ _
  refine wp_lv [0, 2, 3] rfl ?_
  exact K
theorem eX0_memberOf {E : tp_E} {d : Nat} {Q : Int32 → tp_M → Prop} {σ : tp_M}   (x0 : Int32) (x1 : Int32) (K : Wi E TC iX0_memberOf (d + 1) Q 4 [(0, .int x0), (2, .int x1), (3, .int 0)] [] σ) : Ci E TC yX0_memberOf iX0_memberOf (d + 1) [.int x0, .int x1] σ Q := Ci.of ⟨by decide +kernel, rfl, rfl⟩ (Nat.le_of_ble_eq_true rfl) (bX0_memberOf_0  x0 x1 K)
theorem bX0_memberOf_4 {E : tp_E} {d : Nat} {Q : Int32 → tp_M → Prop} {σ : tp_M}   (x0 : Int32) (x2 : Int32) (x3 : Int32) (K : if 8 ≤ x3 then (Q (-1) σ) else (Ci E TC yX9_has iX9_has d [.int x0, .int x3] σ (fun v3 σ2 => if v3 = 0 then (Wi E TC iX0_memberOf (d + 1) Q 4 [(0, .int x0), (2, .int x2), (3, .int (x3 + 1))] [] σ2) else (if x2 = 0 then (Q x3 σ2) else (Wi E TC iX0_memberOf (d + 1) Q 4 [(0, .int x0), (2, .int (x2 + (-1))), (3, .int (x3 + 1))] [] σ2))))) : Wi E TC iX0_memberOf (d + 1) Q 4 [(0, .int x0), (2, .int x2), (3, .int x3)] [] σ := by
  refine wp_iload_n 2 dX0_memberOf_4 rfl rfl rfl ?_
  refine wp_bipush (v := 8) dX0_memberOf_5 rfl (by decide) ?_
  refine wp_icmp_ge 33 dX0_memberOf_7 (by decide) rfl (fun h1 => ?_) (fun h1 => ?_)
  · rw [if_pos h1] at K
    refine wp_iconst (v := (-1)) dX0_memberOf_33 rfl (by decide) ?_
    exact wp_ret .int rfl rfl (Nat.le_refl 0) (Nat.le_refl 0) dX0_memberOf_34 ⟨rfl, _, rfl, K⟩
  · rw [if_neg h1] at K
    refine wp_iload_n 0 dX0_memberOf_10 rfl rfl rfl ?_
    refine wp_iload_n 2 dX0_memberOf_11 rfl rfl rfl ?_
    refine wn_callNi (As := [.int x0, .int x3]) (rest := []) kmX0_56 (by decide) rfl rfl (Nat.le_of_ble_eq_true rfl) dX0_memberOf_12 rfl ?_
    refine Ci.mono K (fun v3 σ2 K => ?_)
    refine wp_if_eq 27 dX0_memberOf_15 (by decide) rfl (fun h4 => ?_) (fun h4 => ?_)
    · rw [if_pos h4] at K
      refine wp_iinc (v := x3 + 1) 2 [1, 2, 0] dX0_memberOf_27 rfl (by decide) rfl rfl rfl ?_
      show WP _ _ _ _ _ _ _ 30 [(0, .int x0), (2, .int x2), (3, .int (x3 + 1))] _ _ _
      refine wp_goto 4 dX0_memberOf_30 (by decide) ?_
      exact K
    · rw [if_neg h4] at K
      refine wp_iload_n 1 dX0_memberOf_18 rfl rfl rfl ?_
      refine wp_if_ne 24 dX0_memberOf_19 (by decide) rfl (fun h5 => ?_) (fun h5 => ?_)
      · rw [if_neg h5] at K
        refine wp_iinc (v := x2 + (-1)) 1 [1, 0, 2] dX0_memberOf_24 rfl (by decide) rfl rfl rfl ?_
        show WP _ _ _ _ _ _ _ 27 [(0, .int x0), (2, .int (x2 + (-1))), (3, .int x3)] _ _ _
        refine wp_iinc (v := x3 + 1) 2 [1, 2, 0] dX0_memberOf_27 rfl (by decide) rfl rfl rfl ?_
        show WP _ _ _ _ _ _ _ 30 [(0, .int x0), (2, .int (x2 + (-1))), (3, .int (x3 + 1))] _ _ _
        refine wp_goto 4 dX0_memberOf_30 (by decide) ?_
        exact K
      · rw [if_pos h5] at K
        refine wp_iload_n 2 dX0_memberOf_22 rfl rfl rfl ?_
        exact wp_ret .int rfl rfl (Nat.le_refl 0) (Nat.le_refl 0) dX0_memberOf_23 ⟨rfl, _, rfl, K⟩
theorem bX6_isFigure_0 {E : tp_E} {d : Nat} {Q : Int32 → tp_M → Prop} {σ : tp_M}   (x0 : Int32) (K : if x0 < 48 then (Q 0 σ) else (if 57 < x0 then (Q 0 σ) else (Q 1 σ))) : Wi E TC iX6_isFigure d Q 0 [(0, .int x0)] [] σ := by
  refine wp_iload_n 0 dX6_isFigure_0 rfl rfl rfl ?_
  refine wp_bipush (v := 48) dX6_isFigure_1 rfl (by decide) ?_
  refine wp_icmp_lt 16 dX6_isFigure_3 (by decide) rfl (fun h1 => ?_) (fun h1 => ?_)
  · rw [if_pos h1] at K
    refine wp_iconst (v := 0) dX6_isFigure_16 rfl (by decide) ?_
    exact wp_ret .boolean rfl rfl (Nat.le_refl 0) (Nat.le_refl 0) dX6_isFigure_17 ⟨rfl, _, rfl, K⟩
  · rw [if_neg h1] at K
    refine wp_iload_n 0 dX6_isFigure_6 rfl rfl rfl ?_
    refine wp_bipush (v := 57) dX6_isFigure_7 rfl (by decide) ?_
    refine wp_icmp_gt 16 dX6_isFigure_9 (by decide) rfl (fun h2 => ?_) (fun h2 => ?_)
    · rw [if_pos h2] at K
      refine wp_iconst (v := 0) dX6_isFigure_16 rfl (by decide) ?_
      exact wp_ret .boolean rfl rfl (Nat.le_refl 0) (Nat.le_refl 0) dX6_isFigure_17 ⟨rfl, _, rfl, K⟩
    · rw [if_neg h2] at K
      refine wp_iconst (v := 1) dX6_isFigure_12 rfl (by decide) ?_
      refine wp_goto 17 dX6_isFigure_13 (by decide) ?_
      exact wp_ret .boolean rfl rfl (Nat.le_refl 0) (Nat.le_refl 0) dX6_isFigure_17 ⟨rfl, _, rfl, K⟩
theorem eX6_isFigure {E : tp_E} {d : Nat} {Q : Int32 → tp_M → Prop} {σ : tp_M}   (x0 : Int32) (K : if x0 < 48 then (Q 0 σ) else (if 57 < x0 then (Q 0 σ) else (Q 1 σ))) : Ci E TC yX6_isFigure iX6_isFigure d [.int x0] σ Q := Ci.of ⟨by decide +kernel, rfl, rfl⟩ (Nat.le_of_ble_eq_true rfl) (bX6_isFigure_0  x0 K)
theorem bX8_isSeat_0 {E : tp_E} {d : Nat} {Q : Int32 → tp_M → Prop} {σ : tp_M}   (x0 : Int32) (K : if x0 < 0 then (Q 0 σ) else (if 4 ≤ x0 then (Q 0 σ) else (Q 1 σ))) : Wi E TC iX8_isSeat d Q 0 [(0, .int x0)] [] σ := by
  refine wp_iload_n 0 dX8_isSeat_0 rfl rfl rfl ?_
  refine wp_if_lt 13 dX8_isSeat_1 (by decide) rfl (fun h1 => ?_) (fun h1 => ?_)
  · rw [if_pos h1] at K
    refine wp_iconst (v := 0) dX8_isSeat_13 rfl (by decide) ?_
    exact wp_ret .boolean rfl rfl (Nat.le_refl 0) (Nat.le_refl 0) dX8_isSeat_14 ⟨rfl, _, rfl, K⟩
  · rw [if_neg h1] at K
    refine wp_iload_n 0 dX8_isSeat_4 rfl rfl rfl ?_
    refine wp_iconst (v := 4) dX8_isSeat_5 rfl (by decide) ?_
    refine wp_icmp_ge 13 dX8_isSeat_6 (by decide) rfl (fun h2 => ?_) (fun h2 => ?_)
    · rw [if_pos h2] at K
      refine wp_iconst (v := 0) dX8_isSeat_13 rfl (by decide) ?_
      exact wp_ret .boolean rfl rfl (Nat.le_refl 0) (Nat.le_refl 0) dX8_isSeat_14 ⟨rfl, _, rfl, K⟩
    · rw [if_neg h2] at K
      refine wp_iconst (v := 1) dX8_isSeat_9 rfl (by decide) ?_
      refine wp_goto 14 dX8_isSeat_10 (by decide) ?_
      exact wp_ret .boolean rfl rfl (Nat.le_refl 0) (Nat.le_refl 0) dX8_isSeat_14 ⟨rfl, _, rfl, K⟩
theorem eX8_isSeat {E : tp_E} {d : Nat} {Q : Int32 → tp_M → Prop} {σ : tp_M}   (x0 : Int32) (K : if x0 < 0 then (Q 0 σ) else (if 4 ≤ x0 then (Q 0 σ) else (Q 1 σ))) : Ci E TC yX8_isSeat iX8_isSeat d [.int x0] σ Q := Ci.of ⟨by decide +kernel, rfl, rfl⟩ (Nat.le_of_ble_eq_true rfl) (bX8_isSeat_0  x0 K)
theorem bJ6_bitCount_0f7a4_0 {E : tp_E} {d : Nat} {Q : Int32 → tp_M → Prop} {σ : tp_M}   (x0 : Int32) (K : Q ((((((((x0 - (((Int32.toUInt32 x0 >>> (Int32.toUInt32 1 &&& Int32.toUInt32 31)).toInt32) &&& 1431655765)) &&& 858993459) + (((Int32.toUInt32 (x0 - (((Int32.toUInt32 x0 >>> (Int32.toUInt32 1 &&& Int32.toUInt32 31)).toInt32) &&& 1431655765)) >>> (Int32.toUInt32 2 &&& Int32.toUInt32 31)).toInt32) &&& 858993459)) + ((Int32.toUInt32 (((x0 - (((Int32.toUInt32 x0 >>> (Int32.toUInt32 1 &&& Int32.toUInt32 31)).toInt32) &&& 1431655765)) &&& 858993459) + (((Int32.toUInt32 (x0 - (((Int32.toUInt32 x0 >>> (Int32.toUInt32 1 &&& Int32.toUInt32 31)).toInt32) &&& 1431655765)) >>> (Int32.toUInt32 2 &&& Int32.toUInt32 31)).toInt32) &&& 858993459)) >>> (Int32.toUInt32 4 &&& Int32.toUInt32 31)).toInt32)) &&& 252645135) + ((Int32.toUInt32 (((((x0 - (((Int32.toUInt32 x0 >>> (Int32.toUInt32 1 &&& Int32.toUInt32 31)).toInt32) &&& 1431655765)) &&& 858993459) + (((Int32.toUInt32 (x0 - (((Int32.toUInt32 x0 >>> (Int32.toUInt32 1 &&& Int32.toUInt32 31)).toInt32) &&& 1431655765)) >>> (Int32.toUInt32 2 &&& Int32.toUInt32 31)).toInt32) &&& 858993459)) + ((Int32.toUInt32 (((x0 - (((Int32.toUInt32 x0 >>> (Int32.toUInt32 1 &&& Int32.toUInt32 31)).toInt32) &&& 1431655765)) &&& 858993459) + (((Int32.toUInt32 (x0 - (((Int32.toUInt32 x0 >>> (Int32.toUInt32 1 &&& Int32.toUInt32 31)).toInt32) &&& 1431655765)) >>> (Int32.toUInt32 2 &&& Int32.toUInt32 31)).toInt32) &&& 858993459)) >>> (Int32.toUInt32 4 &&& Int32.toUInt32 31)).toInt32)) &&& 252645135) >>> (Int32.toUInt32 8 &&& Int32.toUInt32 31)).toInt32)) + ((Int32.toUInt32 ((((((x0 - (((Int32.toUInt32 x0 >>> (Int32.toUInt32 1 &&& Int32.toUInt32 31)).toInt32) &&& 1431655765)) &&& 858993459) + (((Int32.toUInt32 (x0 - (((Int32.toUInt32 x0 >>> (Int32.toUInt32 1 &&& Int32.toUInt32 31)).toInt32) &&& 1431655765)) >>> (Int32.toUInt32 2 &&& Int32.toUInt32 31)).toInt32) &&& 858993459)) + ((Int32.toUInt32 (((x0 - (((Int32.toUInt32 x0 >>> (Int32.toUInt32 1 &&& Int32.toUInt32 31)).toInt32) &&& 1431655765)) &&& 858993459) + (((Int32.toUInt32 (x0 - (((Int32.toUInt32 x0 >>> (Int32.toUInt32 1 &&& Int32.toUInt32 31)).toInt32) &&& 1431655765)) >>> (Int32.toUInt32 2 &&& Int32.toUInt32 31)).toInt32) &&& 858993459)) >>> (Int32.toUInt32 4 &&& Int32.toUInt32 31)).toInt32)) &&& 252645135) + ((Int32.toUInt32 (((((x0 - (((Int32.toUInt32 x0 >>> (Int32.toUInt32 1 &&& Int32.toUInt32 31)).toInt32) &&& 1431655765)) &&& 858993459) + (((Int32.toUInt32 (x0 - (((Int32.toUInt32 x0 >>> (Int32.toUInt32 1 &&& Int32.toUInt32 31)).toInt32) &&& 1431655765)) >>> (Int32.toUInt32 2 &&& Int32.toUInt32 31)).toInt32) &&& 858993459)) + ((Int32.toUInt32 (((x0 - (((Int32.toUInt32 x0 >>> (Int32.toUInt32 1 &&& Int32.toUInt32 31)).toInt32) &&& 1431655765)) &&& 858993459) + (((Int32.toUInt32 (x0 - (((Int32.toUInt32 x0 >>> (Int32.toUInt32 1 &&& Int32.toUInt32 31)).toInt32) &&& 1431655765)) >>> (Int32.toUInt32 2 &&& Int32.toUInt32 31)).toInt32) &&& 858993459)) >>> (Int32.toUInt32 4 &&& Int32.toUInt32 31)).toInt32)) &&& 252645135) >>> (Int32.toUInt32 8 &&& Int32.toUInt32 31)).toInt32)) >>> (Int32.toUInt32 16 &&& Int32.toUInt32 31)).toInt32)) &&& 63) σ) : Wi E TC iJ6_bitCount_0f7a4 d Q 0 [(0, .int x0)] [] σ := by
  refine wp_iload_n 0 dJ6_bitCount_0f7a4_0 rfl rfl rfl ?_
  refine wp_iload_n 0 dJ6_bitCount_0f7a4_1 rfl rfl rfl ?_
  refine wp_iconst (v := 1) dJ6_bitCount_0f7a4_2 rfl (by decide) ?_
  refine wp_iushr dJ6_bitCount_0f7a4_3 rfl ?_
  refine wp_ldcw dJ6_bitCount_0f7a4_4 rfl tw_707 ?_
  refine wp_iand dJ6_bitCount_0f7a4_7 rfl ?_
  refine wp_isub dJ6_bitCount_0f7a4_8 rfl ?_
  refine wp_istore_n [0] dJ6_bitCount_0f7a4_9 rfl rfl (by decide) rfl ?_
  show WP _ _ _ _ _ _ _ 10 [(0, .int (x0 - (((Int32.toUInt32 x0 >>> (Int32.toUInt32 1 &&& Int32.toUInt32 31)).toInt32) &&& 1431655765)))] _ _ _
  refine wp_iload_n 0 dJ6_bitCount_0f7a4_10 rfl rfl rfl ?_
  refine wp_ldcw dJ6_bitCount_0f7a4_11 rfl tw_708 ?_
  refine wp_iand dJ6_bitCount_0f7a4_14 rfl ?_
  refine wp_iload_n 0 dJ6_bitCount_0f7a4_15 rfl rfl rfl ?_
  refine wp_iconst (v := 2) dJ6_bitCount_0f7a4_16 rfl (by decide) ?_
  refine wp_iushr dJ6_bitCount_0f7a4_17 rfl ?_
  refine wp_ldcw dJ6_bitCount_0f7a4_18 rfl tw_708 ?_
  refine wp_iand dJ6_bitCount_0f7a4_21 rfl ?_
  refine wp_iadd dJ6_bitCount_0f7a4_22 rfl ?_
  refine wp_istore_n [0] dJ6_bitCount_0f7a4_23 rfl rfl (by decide) rfl ?_
  show WP _ _ _ _ _ _ _ 24 [(0, .int (((x0 - (((Int32.toUInt32 x0 >>> (Int32.toUInt32 1 &&& Int32.toUInt32 31)).toInt32) &&& 1431655765)) &&& 858993459) + (((Int32.toUInt32 (x0 - (((Int32.toUInt32 x0 >>> (Int32.toUInt32 1 &&& Int32.toUInt32 31)).toInt32) &&& 1431655765)) >>> (Int32.toUInt32 2 &&& Int32.toUInt32 31)).toInt32) &&& 858993459)))] _ _ _
  refine wp_iload_n 0 dJ6_bitCount_0f7a4_24 rfl rfl rfl ?_
  refine wp_iload_n 0 dJ6_bitCount_0f7a4_25 rfl rfl rfl ?_
  refine wp_iconst (v := 4) dJ6_bitCount_0f7a4_26 rfl (by decide) ?_
  refine wp_iushr dJ6_bitCount_0f7a4_27 rfl ?_
  refine wp_iadd dJ6_bitCount_0f7a4_28 rfl ?_
  refine wp_ldcw dJ6_bitCount_0f7a4_29 rfl tw_709 ?_
  refine wp_iand dJ6_bitCount_0f7a4_32 rfl ?_
  refine wp_istore_n [0] dJ6_bitCount_0f7a4_33 rfl rfl (by decide) rfl ?_
  show WP _ _ _ _ _ _ _ 34 [(0, .int (((((x0 - (((Int32.toUInt32 x0 >>> (Int32.toUInt32 1 &&& Int32.toUInt32 31)).toInt32) &&& 1431655765)) &&& 858993459) + (((Int32.toUInt32 (x0 - (((Int32.toUInt32 x0 >>> (Int32.toUInt32 1 &&& Int32.toUInt32 31)).toInt32) &&& 1431655765)) >>> (Int32.toUInt32 2 &&& Int32.toUInt32 31)).toInt32) &&& 858993459)) + ((Int32.toUInt32 (((x0 - (((Int32.toUInt32 x0 >>> (Int32.toUInt32 1 &&& Int32.toUInt32 31)).toInt32) &&& 1431655765)) &&& 858993459) + (((Int32.toUInt32 (x0 - (((Int32.toUInt32 x0 >>> (Int32.toUInt32 1 &&& Int32.toUInt32 31)).toInt32) &&& 1431655765)) >>> (Int32.toUInt32 2 &&& Int32.toUInt32 31)).toInt32) &&& 858993459)) >>> (Int32.toUInt32 4 &&& Int32.toUInt32 31)).toInt32)) &&& 252645135))] _ _ _
  refine wp_iload_n 0 dJ6_bitCount_0f7a4_34 rfl rfl rfl ?_
  refine wp_iload_n 0 dJ6_bitCount_0f7a4_35 rfl rfl rfl ?_
  refine wp_bipush (v := 8) dJ6_bitCount_0f7a4_36 rfl (by decide) ?_
  refine wp_iushr dJ6_bitCount_0f7a4_38 rfl ?_
  refine wp_iadd dJ6_bitCount_0f7a4_39 rfl ?_
  refine wp_istore_n [0] dJ6_bitCount_0f7a4_40 rfl rfl (by decide) rfl ?_
  show WP _ _ _ _ _ _ _ 41 [(0, .int ((((((x0 - (((Int32.toUInt32 x0 >>> (Int32.toUInt32 1 &&& Int32.toUInt32 31)).toInt32) &&& 1431655765)) &&& 858993459) + (((Int32.toUInt32 (x0 - (((Int32.toUInt32 x0 >>> (Int32.toUInt32 1 &&& Int32.toUInt32 31)).toInt32) &&& 1431655765)) >>> (Int32.toUInt32 2 &&& Int32.toUInt32 31)).toInt32) &&& 858993459)) + ((Int32.toUInt32 (((x0 - (((Int32.toUInt32 x0 >>> (Int32.toUInt32 1 &&& Int32.toUInt32 31)).toInt32) &&& 1431655765)) &&& 858993459) + (((Int32.toUInt32 (x0 - (((Int32.toUInt32 x0 >>> (Int32.toUInt32 1 &&& Int32.toUInt32 31)).toInt32) &&& 1431655765)) >>> (Int32.toUInt32 2 &&& Int32.toUInt32 31)).toInt32) &&& 858993459)) >>> (Int32.toUInt32 4 &&& Int32.toUInt32 31)).toInt32)) &&& 252645135) + ((Int32.toUInt32 (((((x0 - (((Int32.toUInt32 x0 >>> (Int32.toUInt32 1 &&& Int32.toUInt32 31)).toInt32) &&& 1431655765)) &&& 858993459) + (((Int32.toUInt32 (x0 - (((Int32.toUInt32 x0 >>> (Int32.toUInt32 1 &&& Int32.toUInt32 31)).toInt32) &&& 1431655765)) >>> (Int32.toUInt32 2 &&& Int32.toUInt32 31)).toInt32) &&& 858993459)) + ((Int32.toUInt32 (((x0 - (((Int32.toUInt32 x0 >>> (Int32.toUInt32 1 &&& Int32.toUInt32 31)).toInt32) &&& 1431655765)) &&& 858993459) + (((Int32.toUInt32 (x0 - (((Int32.toUInt32 x0 >>> (Int32.toUInt32 1 &&& Int32.toUInt32 31)).toInt32) &&& 1431655765)) >>> (Int32.toUInt32 2 &&& Int32.toUInt32 31)).toInt32) &&& 858993459)) >>> (Int32.toUInt32 4 &&& Int32.toUInt32 31)).toInt32)) &&& 252645135) >>> (Int32.toUInt32 8 &&& Int32.toUInt32 31)).toInt32)))] _ _ _
  refine wp_iload_n 0 dJ6_bitCount_0f7a4_41 rfl rfl rfl ?_
  refine wp_iload_n 0 dJ6_bitCount_0f7a4_42 rfl rfl rfl ?_
  refine wp_bipush (v := 16) dJ6_bitCount_0f7a4_43 rfl (by decide) ?_
  refine wp_iushr dJ6_bitCount_0f7a4_45 rfl ?_
  refine wp_iadd dJ6_bitCount_0f7a4_46 rfl ?_
  refine wp_istore_n [0] dJ6_bitCount_0f7a4_47 rfl rfl (by decide) rfl ?_
  show WP _ _ _ _ _ _ _ 48 [(0, .int (((((((x0 - (((Int32.toUInt32 x0 >>> (Int32.toUInt32 1 &&& Int32.toUInt32 31)).toInt32) &&& 1431655765)) &&& 858993459) + (((Int32.toUInt32 (x0 - (((Int32.toUInt32 x0 >>> (Int32.toUInt32 1 &&& Int32.toUInt32 31)).toInt32) &&& 1431655765)) >>> (Int32.toUInt32 2 &&& Int32.toUInt32 31)).toInt32) &&& 858993459)) + ((Int32.toUInt32 (((x0 - (((Int32.toUInt32 x0 >>> (Int32.toUInt32 1 &&& Int32.toUInt32 31)).toInt32) &&& 1431655765)) &&& 858993459) + (((Int32.toUInt32 (x0 - (((Int32.toUInt32 x0 >>> (Int32.toUInt32 1 &&& Int32.toUInt32 31)).toInt32) &&& 1431655765)) >>> (Int32.toUInt32 2 &&& Int32.toUInt32 31)).toInt32) &&& 858993459)) >>> (Int32.toUInt32 4 &&& Int32.toUInt32 31)).toInt32)) &&& 252645135) + ((Int32.toUInt32 (((((x0 - (((Int32.toUInt32 x0 >>> (Int32.toUInt32 1 &&& Int32.toUInt32 31)).toInt32) &&& 1431655765)) &&& 858993459) + (((Int32.toUInt32 (x0 - (((Int32.toUInt32 x0 >>> (Int32.toUInt32 1 &&& Int32.toUInt32 31)).toInt32) &&& 1431655765)) >>> (Int32.toUInt32 2 &&& Int32.toUInt32 31)).toInt32) &&& 858993459)) + ((Int32.toUInt32 (((x0 - (((Int32.toUInt32 x0 >>> (Int32.toUInt32 1 &&& Int32.toUInt32 31)).toInt32) &&& 1431655765)) &&& 858993459) + (((Int32.toUInt32 (x0 - (((Int32.toUInt32 x0 >>> (Int32.toUInt32 1 &&& Int32.toUInt32 31)).toInt32) &&& 1431655765)) >>> (Int32.toUInt32 2 &&& Int32.toUInt32 31)).toInt32) &&& 858993459)) >>> (Int32.toUInt32 4 &&& Int32.toUInt32 31)).toInt32)) &&& 252645135) >>> (Int32.toUInt32 8 &&& Int32.toUInt32 31)).toInt32)) + ((Int32.toUInt32 ((((((x0 - (((Int32.toUInt32 x0 >>> (Int32.toUInt32 1 &&& Int32.toUInt32 31)).toInt32) &&& 1431655765)) &&& 858993459) + (((Int32.toUInt32 (x0 - (((Int32.toUInt32 x0 >>> (Int32.toUInt32 1 &&& Int32.toUInt32 31)).toInt32) &&& 1431655765)) >>> (Int32.toUInt32 2 &&& Int32.toUInt32 31)).toInt32) &&& 858993459)) + ((Int32.toUInt32 (((x0 - (((Int32.toUInt32 x0 >>> (Int32.toUInt32 1 &&& Int32.toUInt32 31)).toInt32) &&& 1431655765)) &&& 858993459) + (((Int32.toUInt32 (x0 - (((Int32.toUInt32 x0 >>> (Int32.toUInt32 1 &&& Int32.toUInt32 31)).toInt32) &&& 1431655765)) >>> (Int32.toUInt32 2 &&& Int32.toUInt32 31)).toInt32) &&& 858993459)) >>> (Int32.toUInt32 4 &&& Int32.toUInt32 31)).toInt32)) &&& 252645135) + ((Int32.toUInt32 (((((x0 - (((Int32.toUInt32 x0 >>> (Int32.toUInt32 1 &&& Int32.toUInt32 31)).toInt32) &&& 1431655765)) &&& 858993459) + (((Int32.toUInt32 (x0 - (((Int32.toUInt32 x0 >>> (Int32.toUInt32 1 &&& Int32.toUInt32 31)).toInt32) &&& 1431655765)) >>> (Int32.toUInt32 2 &&& Int32.toUInt32 31)).toInt32) &&& 858993459)) + ((Int32.toUInt32 (((x0 - (((Int32.toUInt32 x0 >>> (Int32.toUInt32 1 &&& Int32.toUInt32 31)).toInt32) &&& 1431655765)) &&& 858993459) + (((Int32.toUInt32 (x0 - (((Int32.toUInt32 x0 >>> (Int32.toUInt32 1 &&& Int32.toUInt32 31)).toInt32) &&& 1431655765)) >>> (Int32.toUInt32 2 &&& Int32.toUInt32 31)).toInt32) &&& 858993459)) >>> (Int32.toUInt32 4 &&& Int32.toUInt32 31)).toInt32)) &&& 252645135) >>> (Int32.toUInt32 8 &&& Int32.toUInt32 31)).toInt32)) >>> (Int32.toUInt32 16 &&& Int32.toUInt32 31)).toInt32)))] _ _ _
  refine wp_iload_n 0 dJ6_bitCount_0f7a4_48 rfl rfl rfl ?_
  refine wp_bipush (v := 63) dJ6_bitCount_0f7a4_49 rfl (by decide) ?_
  refine wp_iand dJ6_bitCount_0f7a4_51 rfl ?_
  exact wp_ret .int rfl rfl (Nat.le_refl 0) (Nat.le_refl 0) dJ6_bitCount_0f7a4_52 ⟨rfl, _, rfl, K⟩
theorem eJ6_bitCount_0f7a4 {E : tp_E} {d : Nat} {Q : Int32 → tp_M → Prop} {σ : tp_M}   (x0 : Int32) (K : Q ((((((((x0 - (((Int32.toUInt32 x0 >>> (Int32.toUInt32 1 &&& Int32.toUInt32 31)).toInt32) &&& 1431655765)) &&& 858993459) + (((Int32.toUInt32 (x0 - (((Int32.toUInt32 x0 >>> (Int32.toUInt32 1 &&& Int32.toUInt32 31)).toInt32) &&& 1431655765)) >>> (Int32.toUInt32 2 &&& Int32.toUInt32 31)).toInt32) &&& 858993459)) + ((Int32.toUInt32 (((x0 - (((Int32.toUInt32 x0 >>> (Int32.toUInt32 1 &&& Int32.toUInt32 31)).toInt32) &&& 1431655765)) &&& 858993459) + (((Int32.toUInt32 (x0 - (((Int32.toUInt32 x0 >>> (Int32.toUInt32 1 &&& Int32.toUInt32 31)).toInt32) &&& 1431655765)) >>> (Int32.toUInt32 2 &&& Int32.toUInt32 31)).toInt32) &&& 858993459)) >>> (Int32.toUInt32 4 &&& Int32.toUInt32 31)).toInt32)) &&& 252645135) + ((Int32.toUInt32 (((((x0 - (((Int32.toUInt32 x0 >>> (Int32.toUInt32 1 &&& Int32.toUInt32 31)).toInt32) &&& 1431655765)) &&& 858993459) + (((Int32.toUInt32 (x0 - (((Int32.toUInt32 x0 >>> (Int32.toUInt32 1 &&& Int32.toUInt32 31)).toInt32) &&& 1431655765)) >>> (Int32.toUInt32 2 &&& Int32.toUInt32 31)).toInt32) &&& 858993459)) + ((Int32.toUInt32 (((x0 - (((Int32.toUInt32 x0 >>> (Int32.toUInt32 1 &&& Int32.toUInt32 31)).toInt32) &&& 1431655765)) &&& 858993459) + (((Int32.toUInt32 (x0 - (((Int32.toUInt32 x0 >>> (Int32.toUInt32 1 &&& Int32.toUInt32 31)).toInt32) &&& 1431655765)) >>> (Int32.toUInt32 2 &&& Int32.toUInt32 31)).toInt32) &&& 858993459)) >>> (Int32.toUInt32 4 &&& Int32.toUInt32 31)).toInt32)) &&& 252645135) >>> (Int32.toUInt32 8 &&& Int32.toUInt32 31)).toInt32)) + ((Int32.toUInt32 ((((((x0 - (((Int32.toUInt32 x0 >>> (Int32.toUInt32 1 &&& Int32.toUInt32 31)).toInt32) &&& 1431655765)) &&& 858993459) + (((Int32.toUInt32 (x0 - (((Int32.toUInt32 x0 >>> (Int32.toUInt32 1 &&& Int32.toUInt32 31)).toInt32) &&& 1431655765)) >>> (Int32.toUInt32 2 &&& Int32.toUInt32 31)).toInt32) &&& 858993459)) + ((Int32.toUInt32 (((x0 - (((Int32.toUInt32 x0 >>> (Int32.toUInt32 1 &&& Int32.toUInt32 31)).toInt32) &&& 1431655765)) &&& 858993459) + (((Int32.toUInt32 (x0 - (((Int32.toUInt32 x0 >>> (Int32.toUInt32 1 &&& Int32.toUInt32 31)).toInt32) &&& 1431655765)) >>> (Int32.toUInt32 2 &&& Int32.toUInt32 31)).toInt32) &&& 858993459)) >>> (Int32.toUInt32 4 &&& Int32.toUInt32 31)).toInt32)) &&& 252645135) + ((Int32.toUInt32 (((((x0 - (((Int32.toUInt32 x0 >>> (Int32.toUInt32 1 &&& Int32.toUInt32 31)).toInt32) &&& 1431655765)) &&& 858993459) + (((Int32.toUInt32 (x0 - (((Int32.toUInt32 x0 >>> (Int32.toUInt32 1 &&& Int32.toUInt32 31)).toInt32) &&& 1431655765)) >>> (Int32.toUInt32 2 &&& Int32.toUInt32 31)).toInt32) &&& 858993459)) + ((Int32.toUInt32 (((x0 - (((Int32.toUInt32 x0 >>> (Int32.toUInt32 1 &&& Int32.toUInt32 31)).toInt32) &&& 1431655765)) &&& 858993459) + (((Int32.toUInt32 (x0 - (((Int32.toUInt32 x0 >>> (Int32.toUInt32 1 &&& Int32.toUInt32 31)).toInt32) &&& 1431655765)) >>> (Int32.toUInt32 2 &&& Int32.toUInt32 31)).toInt32) &&& 858993459)) >>> (Int32.toUInt32 4 &&& Int32.toUInt32 31)).toInt32)) &&& 252645135) >>> (Int32.toUInt32 8 &&& Int32.toUInt32 31)).toInt32)) >>> (Int32.toUInt32 16 &&& Int32.toUInt32 31)).toInt32)) &&& 63) σ) : Ci E TC yJ6_bitCount_0f7a4 iJ6_bitCount_0f7a4 d [.int x0] σ Q := Ci.of ⟨by decide +kernel, rfl, rfl⟩ (Nat.le_of_ble_eq_true rfl) (bJ6_bitCount_0f7a4_0  x0 K)

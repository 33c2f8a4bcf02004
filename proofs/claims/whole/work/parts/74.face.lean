/-! ===== the class is made (laid by wip/gen/face.py) ===== -/
def zC (i : Nat) : Bool := [1, 2, 9, 11, 15, 21, 37, 139, 151].contains i
def g0 (n : Nat) (σ : tp_M) : Prop := (∀ i, i < n → zC i = true → ∀ k, σ i k = 0) ∧ (13 < n → ∀ t, t < 8 → σ 13 t = -3) ∧ (27 < n → σ 27 2 = 0 ∧ σ 27 3 = -1)
theorem g0.step {n n' : Nat} {σ σ' : tp_M} (h : g0 n σ) (e : ∀ q, q < n → σ' q = σ q) (z : ∀ i, n ≤ i → i < n' → zC i = true → ∀ k, σ' i k = 0) (p : n ≤ 13 → 13 < n' → ∀ t, t < 8 → σ' 13 t = -3) (r : n ≤ 27 → 27 < n' → σ' 27 2 = 0 ∧ σ' 27 3 = -1) : g0 n' σ' := by
  refine ⟨fun i hi hz k => ?_, fun hi t ht => ?_, fun hi => ?_⟩
  · by_cases c : i < n
    · rw [e i c]; exact h.1 i c hz k
    · exact z i (by omega) hi hz k
  · by_cases c : 13 < n
    · rw [e 13 c]; exact h.2.1 c t ht
    · exact p (by omega) hi t ht
  · by_cases c : 27 < n
    · rw [e 27 c]; exact h.2.2 c
    · exact r (by omega) hi
theorem g0_cR {σ : tp_M} (h : g0 157 σ) : cR σ D0 :=
  cR_0 (fun k _ => h.1 1 (by decide) (by decide) k) (fun r _ => h.1 2 (by decide) (by decide) r) ⟨h.1 9 (by decide) (by decide) 0, h.1 9 (by decide) (by decide) 1⟩ (fun k _ => h.1 11 (by decide) (by decide) k) (fun t ht => h.2.1 (by decide) t ht) (h.1 139 (by decide) (by decide) 3) ⟨h.1 37 (by decide) (by decide) 1, h.1 37 (by decide) (by decide) 2⟩ (h.1 15 (by decide) (by decide) 2) (h.1 21 (by decide) (by decide) 2) (h.2.2 (by decide)) ⟨h.1 151 (by decide) (by decide) 7, h.1 151 (by decide) (by decide) 8⟩
theorem cut_ge {l : List (Option Nat)} {n k : Nat} (hl : l.length = n) : cut (fun k => l.getD k none) n k = l.getD k none := by
  unfold cut
  by_cases h : k < n
  · rw [if_pos h]
  · rw [if_neg h, List.getD_eq_getElem?_getD, List.getElem?_eq_none (by omega)]
    rfl
theorem cut_14 (k : Nat) : cut (rfC 14) 2 k = rfC 14 k := cut_ge (l := [some 15, some 21]) rfl
theorem cut_38 (k : Nat) : cut (rfC 38) 20 k = rfC 38 k := cut_ge (l := [some 39, some 44, some 49, some 54, some 59, some 64, some 69, some 74, some 79, some 84, some 89, some 94, some 99, some 104, some 109, some 114, some 119, some 124, some 129, some 134]) rfl
theorem rfS_r : ∀ i, i < 157 → ∀ k, k < tp_nf (tgC i).1 → rfS 9 2 20 i k = rfC i k := by decide +kernel
theorem WP.tc {E : tp_E} {al : Bool} {R : Room} {M : tp_I} {ce sl pc : Nat} {Q : Option Int32 → tp_T → tp_M → Prop} {lv : List (Nat × Value)} {st : List Value} {σ : tp_M} (kk : WP E al R M ce sl Q pc lv st TC σ) : WP E al R M ce sl Q pc lv st (TS 157 9 2 20) σ := by
  refine WP.cg (T' := TC) (σ' := σ) rfl (fun i hi => ?_) kk
  refine (tp_e_cb (T' := TS 157 9 2 20) (T := TC) rfl (rfS_r i hi) (fun h k => ?_)).symm
  rcases tgC_arr i hi h with rfl | rfl
  · exact cut_14 k
  · exact cut_38 k
theorem cut_a0 (k : Nat) : va_up (cut (rfC 14) 0) 0 (some 15) k = cut (rfC 14) 1 k := by
  by_cases e : k = 0
  · subst e; rfl
  · rw [va_up_ne _ _ e]; unfold cut; rw [if_neg (by omega), if_neg (by omega)]
theorem cut_a1 (k : Nat) : va_up (cut (rfC 14) 1) 1 (some 21) k = cut (rfC 14) 2 k := by
  by_cases e : k = 1
  · subst e; rfl
  · rw [va_up_ne _ _ e]; unfold cut
    by_cases c : k < 1
    · rw [if_pos c, if_pos (by omega)]
    · rw [if_neg c, if_neg (by omega)]
theorem none_cut (g : Nat → Option Nat) (k : Nat) : (none : Option Nat) = cut g 0 k := by unfold cut; rw [if_neg (by omega)]

theorem mk_face {E : tp_E} {T : tp_T} {σ : tp_M} {d : Nat} {Q : Option Int32 → tp_T → tp_M → Prop} (h1 : T.1 = 1) (hk : T.2.1 0 = (9, 0)) (hr : ∀ k, T.2.2 0 k = none) (K : ∀ σ', cR σ' D0 → Q none TC σ') : Ct E true (rmk (d + 1 + 1 + 1) 156 1185) yX9_init iX9_init [.ref 0] T σ Q := by
  refine Ct.of (by decide +kernel) rfl (fun _ => rfl) (Nat.le_of_ble_eq_true rfl) ?_
  refine wp_aload_n 0 dX9_init_0 rfl rfl rfl ?_
  refine wp_objInit tw_58 tw_59 tw_60 (show 1 ≤ d + 1 + 1 + 1 by omega) (show 0 + 12 ≤ 32 * (d + 1 + 1 + 1) by omega) dX9_init_1 rfl ?_
  refine WP.ts 1 0 0 0 (by decide) h1 (fun i hi => ?_) (fun i hi k hk2 => ?_) (fun h => absurd h (by decide)) (fun h => absurd h (by decide)) ?_
  · rw [show i = 0 by omega]; exact hk
  · have e : i = 0 := by omega
    subst e
    rw [hr k]; exact none_cut (rfC 0) k
  have z0 : g0 1 σ := ⟨fun i hi hz k => by rw [show i = 0 by omega] at hz; exact absurd hz (by decide), fun h => absurd h (by decide), fun h => absurd h (by decide)⟩
  generalize σ = σ0 at z0 ⊢
  refine wp_new 5 kcX5 tw_61 tw_62 tw_40 (by decide) (show 0 + 1 ≤ 156 by decide) (show 0 + 13 ≤ 1185 by decide) dX9_init_4 rfl ?_
  refine wp_dup dX9_init_7 rfl rfl ?_
  refine wp_callIN (As := []) (b := 1) (rest := [.ref 1]) (rm := rmk (d + 1 + 1) 7 40) kmX9_9 rfl rfl (Nat.le_of_ble_eq_true rfl) ⟨Nat.le_refl _, show 8 + (1 + 11) + 32 * (d + 1 + 1) ≤ 32 * (d + 1 + 1 + 1) by omega⟩ ⟨show 1 + 7 ≤ 156 by decide, show 13 + 40 ≤ 1185 by decide⟩ dX9_init_8 rfl
    (mk_plan (Q := fun r T' σ' => r = none ∧ T' = plT (tp_nT (TS 1 0 0 0) 5 0) 1 ∧ (∀ q, q < 2 → σ' q = tp_nM σ0 1 q) ∧ ∀ j, j < 7 → ∀ k, σ' (2 + j) k = 0) (show 1 < 1 + 1 by decide) rfl (fun σ' a b => ⟨rfl, rfl, a, b⟩)) (fun r T' σ' hq => ?_)
  obtain ⟨rfl, rfl, a, b⟩ := hq
  generalize σ' = σ1 at a b ⊢
  have z1 : g0 9 σ1 := by
    refine z0.step (fun q hq => by rw [a q (by omega), nM_old (by omega)]) (fun i hi1 hi2 hz k => ?_) (fun _ h => absurd h (by decide)) (fun _ h => absurd h (by decide))
    have hc : i = 1 ∨ i = 2 := (show ∀ i, i < 9 → 1 ≤ i → zC i = true → i = 1 ∨ i = 2 by decide +kernel) i hi2 hi1 hz
    rcases hc with rfl | rfl
    · exact by rw [a 1 (by decide)]; exact nM_new
    · exact b 0 (by decide) k
  clear a b
  refine WP.ts 9 0 0 0 (by decide) rfl (by decide +kernel) (by decide +kernel) (fun h => absurd h (by decide)) (fun h => absurd h (by decide)) ?_
  refine wp_astore_n [1, 0] dX9_init_11 rfl rfl (by decide) rfl ?_
  refine wp_new 8 kcX8 tw_128 tw_129 tw_41 (by decide) (show 8 + 1 ≤ 156 by decide) (show 53 + 6 ≤ 1185 by decide) dX9_init_12 rfl ?_
  refine wp_dup dX9_init_15 rfl rfl ?_
  refine wp_callI (As := []) (b := 9) (rest := [.ref 9]) (rm := rmk (d + 1 + 1) 4 20) kmX9_12 rfl rfl (Nat.le_of_ble_eq_true rfl) ⟨Nat.le_refl _, show 8 + (2 + 11) + 32 * (d + 1 + 1) ≤ 32 * (d + 1 + 1 + 1) by omega⟩ ⟨show 9 + 4 ≤ 156 by decide, show 59 + 20 ≤ 1185 by decide⟩ dX9_init_16 rfl
    (mk_state (Q := fun r T' σ' => r = none ∧ T' = stT (tp_nT (TS 9 0 0 0) 8 0) 9 ∧ (∀ q, q < 10 → σ' q = tp_nM σ1 9 q) ∧ (∀ j, j < 3 → ∀ k, σ' (10 + j) k = 0) ∧ ∀ t, t < 8 → σ' (10 + 3) t = -3) (show 9 < 9 + 1 by decide) rfl (fun σ' a b c => ⟨rfl, rfl, a, b, c⟩)) (fun r T' σ' hq => ?_)
  obtain ⟨rfl, rfl, a, b, c⟩ := hq
  generalize σ' = σ2 at a b c ⊢
  have z2 : g0 14 σ2 := by
    refine z1.step (fun q hq => by rw [a q (by omega), nM_old (by omega)]) (fun i hi1 hi2 hz k => ?_) (fun _ _ t ht => c t ht) (fun _ h => absurd h (by decide))
    have hc : i = 9 ∨ i = 11 := (show ∀ i, i < 14 → 9 ≤ i → zC i = true → i = 9 ∨ i = 11 by decide +kernel) i hi2 hi1 hz
    rcases hc with rfl | rfl
    · exact by rw [a 9 (by decide)]; exact nM_new
    · exact b 1 (by decide) k
  clear a b c
  refine WP.ts 14 0 0 0 (by decide) rfl (by decide +kernel) (by decide +kernel) (fun h => absurd h (by decide)) (fun h => absurd h (by decide)) ?_
  refine wp_astore_n [1, 2, 0] dX9_init_19 rfl rfl (by decide) rfl ?_
  refine wp_iconst (v := 2) dX9_init_20 rfl (by decide) ?_
  refine wp_anew (N := 2) 4 "TrayLands$Image" (by decide) rfl (fun s h => h.2.2) tw_159 (by decide) rfl (by decide) (show 13 + 1 ≤ 156 by decide) (show 79 + 2 ≤ 1185 by decide) dX9_init_21 rfl ?_
  have z3 : g0 15 (tp_nM σ2 14) := z2.step (fun q hq => nM_old (by omega)) (fun i hi1 hi2 hz k => by rw [show i = 14 by omega] at hz; exact absurd hz (by decide)) (fun h _ => absurd h (by decide)) (fun _ h => absurd h (by decide))
  change WP E true _ _ _ _ _ _ _ _ _ (tp_nM σ2 14) at ⊢
  generalize tp_nM σ2 14 = σ3 at z3 ⊢
  refine WP.ts 15 0 0 0 (by decide) rfl (by decide +kernel) (by decide +kernel) (fun _ k => none_cut _ k) (fun h => absurd h (by decide)) ?_
  refine wp_astore_n [1, 2, 3, 0] dX9_init_24 rfl rfl (by decide) rfl ?_
  refine wp_iconst (v := 0) dX9_init_25 rfl (by decide) ?_
  refine wp_istore [1, 2, 3, 4, 0] dX9_init_26 rfl (by decide) rfl ?_
  refine wp_iload 4 dX9_init_28 rfl rfl ?_
  refine wp_iconst (v := 2) dX9_init_30 rfl (by decide) ?_
  refine wp_icmp_ge 51 dX9_init_31 (by decide) rfl (fun h => absurd h (by decide)) (fun _ => ?_)
  refine wp_aload_n 3 dX9_init_34 rfl rfl rfl ?_
  refine wp_iload 4 dX9_init_35 rfl rfl ?_
  refine wp_new 2 kcX2 tw_159 tw_161 tw_42 (by decide) (show 14 + 1 ≤ 156 by decide) (show 81 + 3 ≤ 1185 by decide) dX9_init_37 rfl ?_
  refine wp_dup dX9_init_40 rfl rfl ?_
  refine wp_callIN (As := []) (b := 15) (rest := [.ref 15, .int 0, .ref 14]) (rm := rmk (d + 1 + 1) 5 26) kmX9_17 rfl rfl (Nat.le_of_ble_eq_true rfl) ⟨Nat.le_refl _, show 8 + (1 + 11) + 32 * (d + 1 + 1) ≤ 32 * (d + 1 + 1 + 1) by omega⟩ ⟨show 15 + 5 ≤ 156 by decide, show 84 + 26 ≤ 1185 by decide⟩ dX9_init_41 rfl
    (mk_image (Q := fun r T' σ' => r = none ∧ T' = imT (tp_nT (TS 15 0 0 0) 2 0) 15 ∧ ∀ q, q < 16 → σ' q = tp_nM σ3 15 q) (show 15 < 15 + 1 by decide) rfl (fun σ' a b c => ⟨rfl, rfl, a⟩)) (fun r T' σ' hq => ?_)
  obtain ⟨rfl, rfl, a⟩ := hq
  generalize σ' = σ4 at a ⊢
  have z4 : g0 21 σ4 := by
    refine z3.step (fun q hq => by rw [a q (by omega), nM_old (by omega)]) (fun i hi1 hi2 hz k => ?_) (fun h _ => absurd h (by decide)) (fun _ h => absurd h (by decide))
    have hc : i = 15 := (show ∀ i, i < 21 → 15 ≤ i → zC i = true → i = 15 by decide +kernel) i hi2 hi1 hz
    subst hc
    exact by rw [a 15 (by decide)]; exact nM_new
  clear a
  refine wp_aast (o := 14) (v := 15) 4 2 (by decide) kcX2.1 (by decide) rfl (show 14 < 21 by decide) rfl (show 15 < 21 by decide) rfl (vin (j := 0) (n := 2) (by decide) (by decide)) dX9_init_44 rfl ?_
  refine WP.ts 21 0 1 0 (by decide) rfl (by decide +kernel) (by decide +kernel) (fun _ k => cut_a0 k) (fun h => absurd h (by decide)) ?_
  refine wp_iinc 4 [1, 2, 3, 4, 0] (v := 1) dX9_init_45 rfl (by decide) rfl (by decide) rfl ?_
  refine wp_goto 28 dX9_init_48 (by decide) ?_
  refine wp_iload 4 dX9_init_28 rfl rfl ?_
  refine wp_iconst (v := 2) dX9_init_30 rfl (by decide) ?_
  refine wp_icmp_ge 51 dX9_init_31 (by decide) rfl (fun h => absurd h (by decide)) (fun _ => ?_)
  refine wp_aload_n 3 dX9_init_34 rfl rfl rfl ?_
  refine wp_iload 4 dX9_init_35 rfl rfl ?_
  refine wp_new 2 kcX2 tw_159 tw_161 tw_42 (by decide) (show 20 + 1 ≤ 156 by decide) (show 110 + 3 ≤ 1185 by decide) dX9_init_37 rfl ?_
  refine wp_dup dX9_init_40 rfl rfl ?_
  refine wp_callIN (As := []) (b := 21) (rest := [.ref 21, .int 1, .ref 14]) (rm := rmk (d + 1 + 1) 5 26) kmX9_17 rfl rfl (Nat.le_of_ble_eq_true rfl) ⟨Nat.le_refl _, show 8 + (1 + 11) + 32 * (d + 1 + 1) ≤ 32 * (d + 1 + 1 + 1) by omega⟩ ⟨show 21 + 5 ≤ 156 by decide, show 113 + 26 ≤ 1185 by decide⟩ dX9_init_41 rfl
    (mk_image (Q := fun r T' σ' => r = none ∧ T' = imT (tp_nT (TS 21 0 1 0) 2 0) 21 ∧ ∀ q, q < 22 → σ' q = tp_nM σ4 21 q) (show 21 < 21 + 1 by decide) rfl (fun σ' a b c => ⟨rfl, rfl, a⟩)) (fun r T' σ' hq => ?_)
  obtain ⟨rfl, rfl, a⟩ := hq
  generalize σ' = σ5 at a ⊢
  have z5 : g0 27 σ5 := by
    refine z4.step (fun q hq => by rw [a q (by omega), nM_old (by omega)]) (fun i hi1 hi2 hz k => ?_) (fun h _ => absurd h (by decide)) (fun _ h => absurd h (by decide))
    have hc : i = 21 := (show ∀ i, i < 27 → 21 ≤ i → zC i = true → i = 21 by decide +kernel) i hi2 hi1 hz
    subst hc
    exact by rw [a 21 (by decide)]; exact nM_new
  clear a
  refine wp_aast (o := 14) (v := 21) 4 2 (by decide) kcX2.1 (by decide) rfl (show 14 < 27 by decide) rfl (show 21 < 27 by decide) rfl (vin (j := 1) (n := 2) (by decide) (by decide)) dX9_init_44 rfl ?_
  refine WP.ts 27 0 2 0 (by decide) rfl (by decide +kernel) (by decide +kernel) (fun _ k => cut_a1 k) (fun h => absurd h (by decide)) ?_
  refine wp_iinc 4 [1, 2, 3, 4, 0] (v := 2) dX9_init_45 rfl (by decide) rfl (by decide) rfl ?_
  refine wp_goto 28 dX9_init_48 (by decide) ?_
  refine wp_iload 4 dX9_init_28 rfl rfl ?_
  refine wp_iconst (v := 2) dX9_init_30 rfl (by decide) ?_
  refine wp_icmp_ge 51 dX9_init_31 (by decide) rfl (fun _ => ?_) (fun h => absurd (show (2 : Int32) ≤ 2 by decide) h)
  refine wp_aload_n 0 dX9_init_51 rfl rfl rfl ?_
  refine wp_new 6 kcX6 tw_179 tw_180 tw_43 (by decide) (show 26 + 1 ≤ 156 by decide) (show 139 + 7 ≤ 1185 by decide) dX9_init_52 rfl ?_
  refine wp_dup dX9_init_55 rfl rfl ?_
  refine wp_callIN (As := []) (b := 27) (rest := [.ref 27, .ref 0]) (rm := rmk (d + 1 + 1) 9 293) kmX9_20 rfl rfl (Nat.le_of_ble_eq_true rfl) ⟨Nat.le_refl _, show 8 + (1 + 11) + 32 * (d + 1 + 1) ≤ 32 * (d + 1 + 1 + 1) by omega⟩ ⟨show 27 + 9 ≤ 156 by decide, show 146 + 293 ≤ 1185 by decide⟩ dX9_init_56 rfl
    (mk_reader (Q := fun r T' σ' => r = none ∧ T' = reT (tp_nT (TS 27 0 2 0) 6 0) 27 ∧ nw (tp_u (tp_nM σ5 27) 27 3 (-1)) 28 9 σ') (show 27 < 27 + 1 by decide) rfl (fun σ' a => ⟨rfl, rfl, a⟩)) (fun r T' σ' hq => ?_)
  obtain ⟨rfl, rfl, a⟩ := hq
  generalize σ' = σ6 at a ⊢
  have z6 : g0 37 σ6 := by
    refine z5.step (fun q hq => by rw [a.1 q (by omega), uu3 _ _ _ (by omega), nM_old (by omega)]) (fun i hi1 hi2 hz k => ?_) (fun h _ => absurd h (by decide)) (fun _ _ => ⟨by rw [a.1 27 (by decide), uu2 _ _ _ (by decide)]; exact nM_new, by rw [a.1 27 (by decide)]; exact uu1 _ _ _ _⟩)
    have hc : False := (show ∀ i, i < 37 → 27 ≤ i → zC i = true → False by decide +kernel) i hi2 hi1 hz
    exact hc.elim
  clear a
  refine WP.ts 37 0 2 0 (by decide) rfl (by decide +kernel) (by decide +kernel) (fun _ k => rfl) (fun h => absurd h (by decide)) ?_
  refine wp_putR 9 0 kcX9 kfX9_21 rfl rfl rfl rfl (fun z => rfl) (fun z => rfl) (show 0 < 37 by decide) rfl dX9_init_59 rfl ?_
  refine WP.ts 37 1 2 0 (by decide) rfl (by decide +kernel) (by decide +kernel) (fun _ k => rfl) (fun h => absurd h (by decide)) ?_
  refine wp_aload_n 0 dX9_init_62 rfl rfl rfl ?_
  refine wp_aload_n 1 dX9_init_63 rfl rfl rfl ?_
  refine wp_putR 9 1 kcX9 kfX9_25 rfl rfl rfl rfl (fun z => rfl) (fun z => rfl) (show 0 < 37 by decide) rfl dX9_init_64 rfl ?_
  refine WP.ts 37 2 2 0 (by decide) rfl (by decide +kernel) (by decide +kernel) (fun _ k => rfl) (fun h => absurd h (by decide)) ?_
  refine wp_aload_n 0 dX9_init_67 rfl rfl rfl ?_
  refine wp_aload_n 2 dX9_init_68 rfl rfl rfl ?_
  refine wp_putR 9 2 kcX9 kfX9_29 rfl rfl rfl rfl (fun z => rfl) (fun z => rfl) (show 0 < 37 by decide) rfl dX9_init_69 rfl ?_
  refine WP.ts 37 3 2 0 (by decide) rfl (by decide +kernel) (by decide +kernel) (fun _ k => rfl) (fun h => absurd h (by decide)) ?_
  refine wp_aload_n 0 dX9_init_72 rfl rfl rfl ?_
  refine wp_new 4 kcX4 tw_213 tw_214 tw_44 (by decide) (show 36 + 1 ≤ 156 by decide) (show 439 + 3 ≤ 1185 by decide) dX9_init_73 rfl ?_
  refine wp_dup dX9_init_76 rfl rfl ?_
  refine wp_callI (As := []) (b := 37) (rest := [.ref 37, .ref 0]) (rm := rmk (d + 1 + 1) 101 540) kmX9_35 rfl rfl (Nat.le_of_ble_eq_true rfl) ⟨Nat.le_refl _, show 8 + (2 + 11) + 32 * (d + 1 + 1) ≤ 32 * (d + 1 + 1 + 1) by omega⟩ ⟨show 37 + 101 ≤ 156 by decide, show 442 + 540 ≤ 1185 by decide⟩ dX9_init_77 rfl
    (mk_past (Q := fun r T' σ' => r = none ∧ T' = TS 139 3 2 20 ∧ ∀ q, q < 38 → σ' q = tp_nM σ6 37 q) (fun σ' a => ⟨rfl, rfl, a⟩)) (fun r T' σ' hq => ?_)
  obtain ⟨rfl, rfl, a⟩ := hq
  generalize σ' = σ7 at a ⊢
  have z7 : g0 139 σ7 := by
    refine z6.step (fun q hq => by rw [a q (by omega), nM_old (by omega)]) (fun i hi1 hi2 hz k => ?_) (fun h _ => absurd h (by decide)) (fun h _ => absurd h (by decide))
    have hc : i = 37 := (show ∀ i, i < 139 → 37 ≤ i → zC i = true → i = 37 by decide +kernel) i hi2 hi1 hz
    subst hc
    exact by rw [a 37 (by decide)]; exact nM_new
  clear a
  refine wp_putR 9 3 kcX9 kfX9_36 rfl rfl rfl rfl (fun z => rfl) (fun z => rfl) (show 0 < 139 by decide) rfl dX9_init_80 rfl ?_
  refine WP.ts 139 4 2 20 (by decide) rfl (by decide +kernel) (by decide +kernel) (fun _ k => rfl) (fun _ k => rfl) ?_
  refine wp_aload_n 0 dX9_init_83 rfl rfl rfl ?_
  refine wp_new 0 kcX0 tw_233 tw_234 tw_45 (by decide) (show 138 + 1 ≤ 156 by decide) (show 982 + 4 ≤ 1185 by decide) dX9_init_84 rfl ?_
  refine wp_dup dX9_init_87 rfl rfl ?_
  refine wp_aload_n 1 dX9_init_88 rfl rfl rfl ?_
  refine wp_aload_n 2 dX9_init_89 rfl rfl rfl ?_
  refine wp_callI (As := [.ref 1, .ref 9]) (b := 139) (rest := [.ref 139, .ref 0]) (rm := rmk (d + 1 + 1) 1 4) kmX9_42 rfl rfl (Nat.le_of_ble_eq_true rfl) ⟨Nat.le_refl _, show 8 + (3 + 11) + 32 * (d + 1 + 1) ≤ 32 * (d + 1 + 1 + 1) by omega⟩ ⟨show 139 + 1 ≤ 156 by decide, show 986 + 4 ≤ 1185 by decide⟩ dX9_init_90 rfl
    (mk_X0 (Q := fun r T' σ' => r = none ∧ T' = mkTX0 (tp_nT (TS 139 4 2 20) 0 0) 139 1 9 ∧ nw (tp_nM σ7 139) 140 1 σ') (show 139 < 139 + 1 by decide) rfl (fun σ' a => ⟨rfl, rfl, a⟩)) (fun r T' σ' hq => ?_)
  obtain ⟨rfl, rfl, a⟩ := hq
  generalize σ' = σ8 at a ⊢
  have z8 : g0 141 σ8 := by
    refine z7.step (fun q hq => by rw [a.1 q (by omega), nM_old (by omega)]) (fun i hi1 hi2 hz k => ?_) (fun h _ => absurd h (by decide)) (fun h _ => absurd h (by decide))
    have hc : i = 139 := (show ∀ i, i < 141 → 139 ≤ i → zC i = true → i = 139 by decide +kernel) i hi2 hi1 hz
    subst hc
    exact by rw [a.1 139 (by decide)]; exact nM_new
  clear a
  refine WP.ts 141 4 2 20 (by decide) rfl (by decide +kernel) (by decide +kernel) (fun _ k => rfl) (fun _ k => rfl) ?_
  refine wp_putR 9 4 kcX9 kfX9_45 rfl rfl rfl rfl (fun z => rfl) (fun z => rfl) (show 0 < 141 by decide) rfl dX9_init_93 rfl ?_
  refine WP.ts 141 5 2 20 (by decide) rfl (by decide +kernel) (by decide +kernel) (fun _ k => rfl) (fun _ k => rfl) ?_
  refine wp_aload_n 0 dX9_init_96 rfl rfl rfl ?_
  refine wp_new 1 kcX1 tw_253 tw_254 tw_46 (by decide) (show 140 + 1 ≤ 156 by decide) (show 990 + 8 ≤ 1185 by decide) dX9_init_97 rfl ?_
  refine wp_dup dX9_init_100 rfl rfl ?_
  refine wp_aload_n 1 dX9_init_101 rfl rfl rfl ?_
  refine wp_aload_n 2 dX9_init_102 rfl rfl rfl ?_
  refine wp_callI (As := [.ref 1, .ref 9]) (b := 141) (rest := [.ref 141, .ref 0]) (rm := rmk (d + 1 + 1) 5 112) kmX9_51 rfl rfl (Nat.le_of_ble_eq_true rfl) ⟨Nat.le_refl _, show 8 + (3 + 11) + 32 * (d + 1 + 1) ≤ 32 * (d + 1 + 1 + 1) by omega⟩ ⟨show 141 + 5 ≤ 156 by decide, show 998 + 112 ≤ 1185 by decide⟩ dX9_init_103 rfl
    (mk_X1 (Q := fun r T' σ' => r = none ∧ T' = mkTX1 (tp_nT (TS 141 5 2 20) 1 0) 141 1 9 ∧ nw (tp_nM σ8 141) 142 5 σ') (show 141 < 141 + 1 by decide) rfl (fun σ' a => ⟨rfl, rfl, a⟩)) (fun r T' σ' hq => ?_)
  obtain ⟨rfl, rfl, a⟩ := hq
  generalize σ' = σ9 at a ⊢
  have z9 : g0 147 σ9 := by
    refine z8.step (fun q hq => by rw [a.1 q (by omega), nM_old (by omega)]) (fun i hi1 hi2 hz k => ?_) (fun h _ => absurd h (by decide)) (fun h _ => absurd h (by decide))
    have hc : False := (show ∀ i, i < 147 → 141 ≤ i → zC i = true → False by decide +kernel) i hi2 hi1 hz
    exact hc.elim
  clear a
  refine WP.ts 147 5 2 20 (by decide) rfl (by decide +kernel) (by decide +kernel) (fun _ k => rfl) (fun _ k => rfl) ?_
  refine wp_putR 9 5 kcX9 kfX9_52 rfl rfl rfl rfl (fun z => rfl) (fun z => rfl) (show 0 < 147 by decide) rfl dX9_init_106 rfl ?_
  refine WP.ts 147 6 2 20 (by decide) rfl (by decide +kernel) (by decide +kernel) (fun _ k => rfl) (fun _ k => rfl) ?_
  refine wp_aload_n 0 dX9_init_109 rfl rfl rfl ?_
  refine wp_new 7 kcX7 tw_284 tw_285 tw_47 (by decide) (show 146 + 1 ≤ 156 by decide) (show 1110 + 6 ≤ 1185 by decide) dX9_init_110 rfl ?_
  refine wp_dup dX9_init_113 rfl rfl ?_
  refine wp_aload_n 1 dX9_init_114 rfl rfl rfl ?_
  refine wp_aload_n 2 dX9_init_115 rfl rfl rfl ?_
  refine wp_callI (As := [.ref 1, .ref 9]) (b := 147) (rest := [.ref 147, .ref 0]) (rm := rmk (d + 1 + 1) 3 12) kmX9_58 rfl rfl (Nat.le_of_ble_eq_true rfl) ⟨Nat.le_refl _, show 8 + (3 + 11) + 32 * (d + 1 + 1) ≤ 32 * (d + 1 + 1 + 1) by omega⟩ ⟨show 147 + 3 ≤ 156 by decide, show 1116 + 12 ≤ 1185 by decide⟩ dX9_init_116 rfl
    (mk_X7 (Q := fun r T' σ' => r = none ∧ T' = mkTX7 (tp_nT (TS 147 6 2 20) 7 0) 147 1 9 ∧ nw (tp_nM σ9 147) 148 3 σ') (show 147 < 147 + 1 by decide) rfl (fun σ' a => ⟨rfl, rfl, a⟩)) (fun r T' σ' hq => ?_)
  obtain ⟨rfl, rfl, a⟩ := hq
  generalize σ' = σ10 at a ⊢
  have z10 : g0 151 σ10 := by
    refine z9.step (fun q hq => by rw [a.1 q (by omega), nM_old (by omega)]) (fun i hi1 hi2 hz k => ?_) (fun h _ => absurd h (by decide)) (fun h _ => absurd h (by decide))
    have hc : False := (show ∀ i, i < 151 → 147 ≤ i → zC i = true → False by decide +kernel) i hi2 hi1 hz
    exact hc.elim
  clear a
  refine WP.ts 151 6 2 20 (by decide) rfl (by decide +kernel) (by decide +kernel) (fun _ k => rfl) (fun _ k => rfl) ?_
  refine wp_putR 9 6 kcX9 kfX9_59 rfl rfl rfl rfl (fun z => rfl) (fun z => rfl) (show 0 < 151 by decide) rfl dX9_init_119 rfl ?_
  refine WP.ts 151 7 2 20 (by decide) rfl (by decide +kernel) (by decide +kernel) (fun _ k => rfl) (fun _ k => rfl) ?_
  refine wp_aload_n 0 dX9_init_122 rfl rfl rfl ?_
  refine wp_new 3 kcX3 tw_309 tw_310 tw_48 (by decide) (show 150 + 1 ≤ 156 by decide) (show 1128 + 9 ≤ 1185 by decide) dX9_init_123 rfl ?_
  refine wp_dup dX9_init_126 rfl rfl ?_
  refine wp_aload_n 1 dX9_init_127 rfl rfl rfl ?_
  refine wp_aload_n 2 dX9_init_128 rfl rfl rfl ?_
  refine wp_callI (As := [.ref 1, .ref 9]) (b := 151) (rest := [.ref 151, .ref 0]) (rm := rmk (d + 1 + 1) 5 48) kmX9_65 rfl rfl (Nat.le_of_ble_eq_true rfl) ⟨Nat.le_refl _, show 8 + (3 + 11) + 32 * (d + 1 + 1) ≤ 32 * (d + 1 + 1 + 1) by omega⟩ ⟨show 151 + 5 ≤ 156 by decide, show 1137 + 48 ≤ 1185 by decide⟩ dX9_init_129 rfl
    (mk_X3 (Q := fun r T' σ' => r = none ∧ T' = mkTX3 (tp_nT (TS 151 7 2 20) 3 0) 151 1 9 ∧ nw (tp_nM σ10 151) 152 5 σ') (show 151 < 151 + 1 by decide) rfl (fun σ' a => ⟨rfl, rfl, a⟩)) (fun r T' σ' hq => ?_)
  obtain ⟨rfl, rfl, a⟩ := hq
  generalize σ' = σ11 at a ⊢
  have z11 : g0 157 σ11 := by
    refine z10.step (fun q hq => by rw [a.1 q (by omega), nM_old (by omega)]) (fun i hi1 hi2 hz k => ?_) (fun h _ => absurd h (by decide)) (fun h _ => absurd h (by decide))
    have hc : i = 151 := (show ∀ i, i < 157 → 151 ≤ i → zC i = true → i = 151 by decide +kernel) i hi2 hi1 hz
    subst hc
    exact by rw [a.1 151 (by decide)]; exact nM_new
  clear a
  refine WP.ts 157 7 2 20 (by decide) rfl (by decide +kernel) (by decide +kernel) (fun _ k => rfl) (fun _ k => rfl) ?_
  refine wp_putR 9 7 kcX9 kfX9_66 rfl rfl rfl rfl (fun z => rfl) (fun z => rfl) (show 0 < 157 by decide) rfl dX9_init_132 rfl ?_
  refine WP.ts 157 8 2 20 (by decide) rfl (by decide +kernel) (by decide +kernel) (fun _ k => rfl) (fun _ k => rfl) ?_
  refine wp_aload_n 0 dX9_init_135 rfl rfl rfl ?_
  refine wp_aload_n 3 dX9_init_136 rfl rfl rfl ?_
  refine wp_putR 9 8 kcX9 kfX9_70 rfl rfl rfl rfl (fun z => rfl) (fun z => rfl) (show 0 < 157 by decide) rfl dX9_init_137 rfl ?_
  refine WP.ts 157 9 2 20 (by decide) rfl (by decide +kernel) (by decide +kernel) (fun _ k => rfl) (fun _ k => rfl) ?_
  refine WP.tc ?_
  exact wp_vret rfl (show 156 ≤ 156 by decide) (show 1185 ≤ 1185 by decide) dX9_init_140 (K _ (g0_cR z11))

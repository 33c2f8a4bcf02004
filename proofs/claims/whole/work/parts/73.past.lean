/-! ===== layouts on the way to TC; the past is made ===== -/
def cut (g : Nat → Option Nat) (j k : Nat) : Option Nat := if k < j then g k else none
def rfS (m x y i k : Nat) : Option Nat := if i = 0 then cut (rfC 0) m k else if i = 14 then cut (rfC 14) x k else if i = 38 then cut (rfC 38) y k else rfC i k
def TS (n m x y : Nat) : tp_T := (n, tgC, rfS m x y)
theorem tp_fs_cg {B c : Nat} {r r' : Nat → Option Nat} {f : Nat → Int32} (h : ∀ k, k < tp_nf c → r' k = r k) : tp_fs B c r' f = tp_fs B c r f := by
  unfold tp_fs
  exact List.map_congr_left (fun k hk => by rw [h k (List.mem_range.mp hk)])
theorem tp_e_cb {E : tp_E} {T T' : tp_T} {σ : tp_M} {i : Nat} (h1 : T'.2.1 i = T.2.1 i) (h2 : ∀ k, k < tp_nf (T.2.1 i).1 → T'.2.2 i k = T.2.2 i k) (h3 : 14 ≤ (T.2.1 i).1 → ∀ k, T'.2.2 i k = T.2.2 i k) : tp_e E T' σ i = tp_e E T σ i := by
  unfold tp_e
  rw [h1]
  by_cases c1 : (T.2.1 i).1 < 11
  · rw [if_pos c1, if_pos c1, tp_fs_cg h2]
  · rw [if_neg c1, if_neg c1]
    by_cases c2 : (T.2.1 i).1 < 14
    · rw [if_pos c2, if_pos c2]
    · rw [if_neg c2, if_neg c2]
      have e : (fun k => (T'.2.2 i k).map (fun a => E.2.1 + a)) = fun k => (T.2.2 i k).map (fun a => E.2.1 + a) := funext (fun k => by rw [h3 (by omega) k])
      rw [e]
theorem tgC_arr : ∀ i, i < 157 → 14 ≤ (tgC i).1 → i = 14 ∨ i = 38 := by decide +kernel
theorem WP.ts {E : tp_E} {al : Bool} {R : Room} {M : tp_I} {ce sl pc : Nat} {Q : Option Int32 → tp_T → tp_M → Prop} {lv : List (Nat × Value)} {st : List Value} {T : tp_T} {σ : tp_M} (n m x y : Nat) (hn : n ≤ 157) (h1 : T.1 = n) (hk : ∀ i, i < n → T.2.1 i = tgC i) (hr : ∀ i, i < n → ∀ k, k < tp_nf (tgC i).1 → T.2.2 i k = rfS m x y i k) (h14 : 14 < n → ∀ k, T.2.2 14 k = cut (rfC 14) x k) (h38 : 38 < n → ∀ k, T.2.2 38 k = cut (rfC 38) y k) (kk : WP E al R M ce sl Q pc lv st (TS n m x y) σ) : WP E al R M ce sl Q pc lv st T σ := by
  refine WP.cg (T' := TS n m x y) (σ' := σ) h1.symm (fun i hi => ?_) kk
  rw [h1] at hi
  refine (tp_e_cb (T' := T) (T := TS n m x y) (hk i hi) (hr i hi) (fun h k => ?_)).symm
  rcases tgC_arr i (by omega) h with rfl | rfl
  · exact h14 hi k
  · exact h38 hi k
theorem stT_ro {T : tp_T} {o q : Nat} (h : q < T.1) (ho : q ≠ o) : (stT T o).2.2 q = T.2.2 q := by
  have e0 : q ≠ T.1 := by omega
  have e1 : q ≠ T.1 + 1 := by omega
  have e2 : q ≠ T.1 + 1 + 1 := by omega
  have e3 : q ≠ T.1 + 1 + 1 + 1 := by omega
  simp [stT, tp_ur, tp_nT, va_up, ho, e0, e1, e2, e3]
theorem nT_ro {T : tp_T} {kd n q : Nat} (h : q < T.1) : (tp_nT T kd n).2.2 q = T.2.2 q := va_up_ne _ _ (by omega)
def paS (j : Nat) : tp_T := tp_ur (stT (tp_nT (TS (39 + 5 * j) 3 2 j) 8 0) (39 + 5 * j)) 38 j (39 + 5 * j)
theorem paS_k : ∀ j, j < 20 → ∀ i, i < 39 + 5 * (j + 1) → (paS j).2.1 i = tgC i := by decide +kernel
theorem paS_r : ∀ j, j < 20 → ∀ i, i < 39 + 5 * (j + 1) → ∀ k, k < tp_nf (tgC i).1 → (paS j).2.2 i k = rfS 3 2 (j + 1) i k := by decide +kernel
theorem paS_s : ∀ j, j < 20 → rfC 38 j = some (39 + 5 * j) := by decide +kernel
theorem paS_14 (j k : Nat) : (paS j).2.2 14 k = cut (rfC 14) 2 k := by
  show (stT (tp_nT (TS (39 + 5 * j) 3 2 j) 8 0) (39 + 5 * j)).2.2 14 k = _
  rw [stT_ro (show 14 < 39 + 5 * j + 1 by omega) (by omega), nT_ro (show 14 < 39 + 5 * j by omega)]
  rfl
theorem paS_38 (j k : Nat) (hj : j < 20) : (paS j).2.2 38 k = cut (rfC 38) (j + 1) k := by
  show va_up ((stT (tp_nT (TS (39 + 5 * j) 3 2 j) 8 0) (39 + 5 * j)).2.2 38) j (some (39 + 5 * j)) k = _
  rw [stT_ro (show 38 < 39 + 5 * j + 1 by omega) (by omega), nT_ro (show 38 < 39 + 5 * j by omega)]
  show va_up (cut (rfC 38) j) j (some (39 + 5 * j)) k = _
  by_cases e : k = j
  · subst e
    rw [va_up_self]
    unfold cut
    rw [if_pos (by omega), paS_s k hj]
  · rw [va_up_ne _ _ e]
    unfold cut
    by_cases h : k < j
    · rw [if_pos h, if_pos (by omega)]
    · rw [if_neg h, if_neg (by omega)]
theorem mk_past {E : tp_E} {σ : tp_M} {d : Nat} {Q : Option Int32 → tp_T → tp_M → Prop} (K : ∀ σ', (∀ q, q < 38 → σ' q = σ q) → Q none (TS 139 3 2 20) σ') : Ct E true (rmk (d + 1 + 1) 101 540) yX4_init iX4_init [.ref 37] (tp_nT (TS 37 3 2 0) 4 0) σ Q := by
  refine Ct.of (by decide +kernel) rfl (fun _ => rfl) (Nat.le_of_ble_eq_true rfl) ?_
  refine wp_aload_n 0 dX4_init_0 rfl rfl rfl ?_
  refine wp_objInit tw_218 tw_59 tw_60 (show 1 ≤ d + 1 + 1 by omega) (show 0 + 12 ≤ 32 * (d + 1 + 1) by omega) dX4_init_1 rfl ?_
  refine wp_aload_n 0 dX4_init_4 rfl rfl rfl ?_
  refine wp_bipush (v := 20) dX4_init_5 rfl (by decide) ?_
  refine wp_anew (N := 20) 3 "TrayLands$State" (by decide) rfl (fun s h => h.2.1) tw_219 (by decide) rfl (by decide) (show 0 + 1 ≤ 101 by decide) (show 0 + 20 ≤ 540 by decide) dX4_init_7 rfl ?_
  refine wp_putR 4 0 kcX4 kfX4_11 rfl rfl rfl rfl (fun z => rfl) (fun z => rfl) (show 37 < 37 + 1 + 1 by decide) rfl dX4_init_10 rfl ?_
  refine WP.ts 39 3 2 0 (by decide) rfl (by decide +kernel) (by decide +kernel) (fun _ k => rfl) (fun _ k => rfl) ?_
  refine wp_iconst (v := 0) dX4_init_13 rfl (by decide) ?_
  refine wp_istore_n [1, 0] dX4_init_14 rfl rfl (by decide) rfl ?_
  refine lup (fun j s => WP E true (rmk (d + 1 + 1) 101 540) iX4_init (1 + 5 * j) (20 + 26 * j) Q 15 [(0, .ref 37), (1, .int (nI j))] [] (TS (39 + 5 * j) 3 2 j) s) (fun j s => ∀ q, q < 38 → s q = σ q) 20 ?_ ?_ 0 _ (by omega) (fun q hq => ?_)
  · intro s hs
    refine wp_iload_n 1 dX4_init_15 rfl rfl rfl ?_
    refine wp_bipush (v := 20) dX4_init_16 rfl (by decide) ?_
    refine wp_icmp_ge 40 dX4_init_18 (by decide) rfl (fun h => ?_) (fun h => absurd (show (20 : Int32) ≤ nI 20 by decide) h)
    exact wp_vret rfl (show 1 + 5 * 20 ≤ 101 by decide) (show 20 + 26 * 20 ≤ 540 by decide) dX4_init_40 (K s hs)
  · intro j s hj hs ih
    refine wp_iload_n 1 dX4_init_15 rfl rfl rfl ?_
    refine wp_bipush (v := 20) dX4_init_16 rfl (by decide) ?_
    refine wp_icmp_ge 40 dX4_init_18 (by decide) rfl (fun h => absurd h (nle_lit 20 hj (by decide))) (fun h => ?_)
    refine wp_aload_n 0 dX4_init_21 rfl rfl rfl ?_
    refine wp_getR (a := 38) 4 0 kcX4 kfX4_11 rfl (show 37 < 39 + 5 * j by omega) rfl rfl dX4_init_22 rfl ?_
    refine wp_iload_n 1 dX4_init_25 rfl rfl rfl ?_
    refine wp_new 8 kcX8 tw_219 tw_129 tw_41 (by decide) (show 1 + 5 * j + 1 ≤ 101 by omega) (show 20 + 26 * j + 6 ≤ 540 by omega) dX4_init_26 rfl ?_
    refine wp_dup dX4_init_29 rfl rfl ?_
    refine wp_callI (As := []) (b := 39 + 5 * j) (rest := [.ref (39 + 5 * j), .int (nI j), .ref 38]) (rm := rmk (d + 1) 4 20) kmX4_17 rfl rfl (Nat.le_of_ble_eq_true rfl) ⟨Nat.le_refl _, show 8 + (2 + 11) + 32 * (d + 1) ≤ 32 * (d + 1 + 1) by omega⟩ ⟨show 1 + 5 * j + 1 + 4 ≤ 101 by omega, show 20 + 26 * j + 6 + 20 ≤ 540 by omega⟩ dX4_init_30 rfl
      (mk_state (Q := fun r T' σ' => r = none ∧ T' = stT (tp_nT (TS (39 + 5 * j) 3 2 j) 8 0) (39 + 5 * j) ∧ (∀ q, q < 39 + 5 * j + 1 → σ' q = tp_nM s (39 + 5 * j) q)) (show 39 + 5 * j < 39 + 5 * j + 1 by omega) (congrArg Prod.fst (nT_new (T := TS (39 + 5 * j) 3 2 j))) (fun σ' a b c => ⟨rfl, rfl, a⟩)) (fun r T' σ' hq => ?_)
    obtain ⟨rfl, rfl, a⟩ := hq
    have k38 : (stT (tp_nT (TS (39 + 5 * j) 3 2 j) 8 0) (39 + 5 * j)).2.1 38 = (14, 20) := by
      rw [stT_old (show 38 < 39 + 5 * j + 1 by omega), nT_old (show 38 < 39 + 5 * j by omega)]; rfl
    have kn : (stT (tp_nT (TS (39 + 5 * j) 3 2 j) 8 0) (39 + 5 * j)).2.1 (39 + 5 * j) = (8, 0) := by
      rw [stT_old (show 39 + 5 * j < 39 + 5 * j + 1 by omega)]; exact nT_new (T := TS (39 + 5 * j) 3 2 j)
    refine wp_aast (o := 38) (v := 39 + 5 * j) 3 8 (by decide) kcX8.1 (by decide) rfl (show 38 < 39 + 5 * j + 1 + 1 + 1 + 1 + 1 by omega) (congrArg Prod.fst k38) (show 39 + 5 * j < 39 + 5 * j + 1 + 1 + 1 + 1 + 1 by omega) (congrArg Prod.fst kn) (by rw [k38]; exact vin hj (by decide)) dX4_init_33 rfl ?_
    rw [vcl (show j < 2147483648 by omega)]
    refine WP.ts (39 + 5 * (j + 1)) 3 2 (j + 1) (by omega) (show 39 + 5 * j + 1 + 1 + 1 + 1 + 1 = 39 + 5 * (j + 1) by omega) (paS_k j hj) (paS_r j hj) (fun _ k => paS_14 j k) (fun _ k => paS_38 j k hj) ?_
    refine wp_iinc 1 [1, 0] (v := nI (j + 1)) dX4_init_34 rfl (by decide) rfl (nI_1 j) rfl ?_
    refine wp_goto 15 dX4_init_37 (by decide) ?_
    have z := ih σ' (fun q hq => by rw [a q (by omega), nM_old (by omega)]; exact hs q hq)
    rw [show 1 + 5 * (j + 1) = 1 + 5 * j + 1 + 4 by omega, show 20 + 26 * (j + 1) = 20 + 26 * j + 6 + 20 by omega] at z
    exact z
  · exact congrFun (nM_old (σ := σ) (show q ≠ 38 by omega)) |> fun z => funext z

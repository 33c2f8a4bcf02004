/-! ===== the law: its calls (laid by wip/gen/law.py) ===== -/
theorem tp_P_keep {E : tp_E} {T : tp_T} {σ : tp_M} {H H1 : Heap} (h : tp_P E T σ H) (hq : ∀ i, i < T.1 → H1[E.2.1 + i]? = H[E.2.1 + i]?) : tp_P E T σ H1 := va_P.kept h (fun k q hk => by obtain ⟨h1, rfl⟩ := tp_w_inv hk; exact hq k h1)
theorem tp_P_lt {E : tp_E} {T : tp_T} {σ : tp_M} {H : Heap} {i : Nat} (h : tp_P E T σ H) (hi : i < T.1) : E.2.1 + i < H.size := (h i _ (tp_w_at hi)).lt
abbrev lw_G : Type := (Nat → ClassId) × (Nat → Nat → Nat) × (Nat → ClassId)
abbrev lw_A (s : State) : Nat → Prop := fun q => s.heap.size ≤ q
def lw_cx (p : Program) (l : Launch) (s : State) (m : MethodId) (meth : Method) (c : Code) (b L : Nat) (xs : Nat → Int32) (G : lw_G) (i : Nat) : Prop := lw_At p s m meth c b L xs ∧ (∀ B, tp_K (l, B, G) s) ∧ i + 4 ≤ L ∧ L ≤ 2048
def LJ (l : Launch) (s : State) (G : lw_G) (σ1 σ2 : tp_M) (H : Heap) (locs : List Loc) : Prop := tp_P (l, s.heap.size, G) TC σ1 H ∧ tp_P (l, s.heap.size + 157, G) TM σ2 H ∧ va_S (lw_A s) s.heap H locs
abbrev lw_lv (b B i : Nat) : List (Nat × Value) := [(0, .ref b), (1, .ref B), (2, .ref (B + 157)), (3, .int (nI i))]
def bq (x : Int32) : Bool := if x = 0 then false else true
section LAW
variable {p : Program} {l : Launch} {e : Env} {s : State} {m : MethodId} {below : List Frame} {meth : Method} {c : Code} {b L i : Nat} {xs : Nat → Int32} {G : lw_G} {H : Heap} {locs : List Loc} {ls : Array Slot} {ce sl pc : Nat} {Qf : State → Prop} {rest st : List Value}
theorem lw_arg {k : Nat} {kI : Int} (cx : lw_cx p l s m meth c b L xs G i) (hS : va_S (lw_A s) s.heap H locs) (hl : lv_has ls 4 (lw_lv b s.heap.size i)) (hk : k < 4) (hkI : Int32.ofInt kI = nI k) (h0 : decode code pc = .ok (.aload_n 0, 1)) (h1 : decode code (pc + 1) = .ok (.iload_n 3, 1)) (h2 : decode code (pc + 2) = .ok (.iconst kI, 1)) (h3 : decode code (pc + 3) = .ok (.iadd, 1)) (h4 : decode code (pc + 4) = .ok (.iaload, 1))
    (kk : W p l e room_1 s m #[Value.ref b] below meth c H locs ce sl Qf (F0 m (pc + 5) ls (.int (xs (i + k)) :: rest))) : W p l e room_1 s m #[Value.ref b] below meth c H locs ce sl Qf (F0 m pc ls rest) := by
  obtain ⟨⟨hx, hb, hr, hml, hown, hts, hX, hbl, hlocks, hgv⟩, hK, hi, hL⟩ := cx
  have hbA : ¬ lw_A s b := Nat.not_le.mpr hbl
  refine lv_aload_n hx hb h0 rfl (lv_at hl 0 rfl) ?_
  refine lv_iload_n hx hb h1 rfl (lv_at hl 3 rfl) ?_
  refine lv_iconst (v := nI k) hx hb h2 hkI ?_
  refine lv_iadd hx hb h3 ?_
  rw [nI_add]
  refine va_sld hx hb hX hbl hbA hS (vin (show i + k < L by omega) (by omega)) h4 ?_
  rw [vcl (by omega)]
  exact kk
theorem lw_bool {x : Int32} (cx : lw_cx p l s m meth c b L xs G i) (h0 : decode code pc = .ok (.ifCond .eq 7, 3)) (h1 : decode code (pc + 3) = .ok (.iconst 1, 1)) (h2 : decode code (pc + 4) = .ok (.goto 4, 3)) (h3 : decode code (pc + 7) = .ok (.iconst 0, 1))
    (kk : W p l e room_1 s m #[Value.ref b] below meth c H locs ce sl Qf (F0 m (pc + 8) ls (.int (bI (bq x)) :: rest))) : W p l e room_1 s m #[Value.ref b] below meth c H locs ce sl Qf (F0 m pc ls (.int x :: rest)) := by
  obtain ⟨⟨hx, hb, hr, hml, hown, hts, hX, hbl, hlocks, hgv⟩, hK, hi, hL⟩ := cx
  refine lv_if_eq (tgt := pc + 7) hx hb h0 (by omega) (fun q => ?_) (fun q => ?_)
  · refine lv_iconst (v := 0) hx hb h3 (by decide) ?_
    unfold bq at kk
    rw [if_pos q] at kk
    exact kk
  · refine lv_iconst (v := 1) hx hb h1 (by decide) ?_
    refine lv_goto (tgt := pc + 8) hx hb h2 (by omega) ?_
    unfold bq at kk
    rw [if_neg q] at kk
    exact kk
theorem lw_callG {B : Nat} {T : tp_T} {σ : tp_M} {y : MethodName} {I : tp_I} {av : List Value} {v : Int32} {Qp : tp_M → Prop} {idx n ci : Nat} (cx : lw_cx p l s m meth c b L xs G i) (hv : cv_V RL idx ci y I n) (hn : av.length = n) (hI : I.2.2.1 ≤ 45) (hw : (rest.map fun v => v.category).sum ≤ 8) (h0 : 0 < T.1) (ht : (T.2.1 0).1 = ci)
    (hC : Ci (l, B, G) T y I 8 (.ref 0 :: av) σ (fun x σ' => x = v ∧ Qp σ')) (hP : tp_P (l, B, G) T σ H) (hS : va_S (lw_A s) s.heap H locs) (hB : s.heap.size ≤ B) (hls : ls.size = 4) (hst : st = (av.map (tp_v B)).reverse ++ .ref (B + 0) :: rest) (hd : decode code pc = .ok (.invokevirtual idx, 3)) (hce : ce ≤ 600000) (hsl : sl ≤ 7302250)
    (kk : ∀ (σ' : tp_M) (H' : Heap) (locs' : List Loc), Qp σ' → tp_P (l, B, G) T σ' H' → va_S (lw_A s) s.heap H' locs' → (∀ q, q < H.size → (∀ j, j < T.1 → q ≠ B + j) → H'[q]? = H[q]?) → W p l e room_1 s m #[Value.ref b] below meth c H' locs' ce sl Qf (F0 m (pc + 3) ls (.int v :: rest))) : W p l e room_1 s m #[Value.ref b] below meth c H locs ce sl Qf (F0 m pc ls st) := by
  obtain ⟨⟨hx, hb, hr, hml, hown, hts0, hX, hbl, hlocks, hgv⟩, hK, hi, hL⟩ := cx
  have hK := hK B
  subst hst
  have hts : ∀ w ∈ tb_T, w.before #[Value.ref b] s = true := fun w hw => hts0 w (List.mem_filter.mp hw).1
  obtain ⟨⟨v1, v2, v3, v4, v5⟩, ⟨hcl, hci⟩, hd3⟩ := hv
  obtain ⟨r0, hr0, hr1⟩ : ∃ r0, vwCl[ci]? = some r0 ∧ r0.1 = y.cls := by
    cases h : vwCl[ci]? with
    | none => rw [h] at hcl; cases hcl
    | some r0 => rw [h] at hcl; exact ⟨r0, rfl, Option.some.inj hcl⟩
  have hA1 : ∀ q, wp_A B T.1 H.size q → lw_A s q := fun q h => h.elim (fun ⟨j, hj, e⟩ => by show s.heap.size ≤ q; omega) (fun h => Nat.le_trans hS.1 h)
  have hcode : ∀ w ∈ (Cond.code y I.2.1 I.2.2.1 I.2.2.2.1 :: tb_T), w ∈ tb_T := fun w hw => (List.mem_cons.mp hw).elim (fun h => by rw [h]; exact tb_mem v5) (fun h => h)
  refine wp_after (E := (l, B, G)) (al := false) (A := lw_A s) (va_runV (As := av.map (tp_v B)) (rest := rest) (b := B + 0) (C := y.cls) ⟨hx, hb, hml, hown, hts⟩ (hC H.size)
    (cwV n hts (tb_goodIn (fun w hw => ?_)) rfl rfl rfl ⟨rfl, hd3⟩ ⟨Nat.le_of_ble_eq_true rfl, show 8 + (I.2.2.1 + 11) + 32 * 8 ≤ 320 by omega⟩) ⟨wp_blind, ?_, fun U hU hW => ⟨rfl, by rw [hU], by rw [hU]; exact hP, tp_K.warm hW hK, fun h => by cases h⟩⟩ rfl (by rw [List.length_map]; exact hn) hls rfl (lv_room hw) hd ⟨hce, hsl⟩) hS hA1 (fun r T' σ' H1 locs1 hq hp hi hal hkp hS => ?_)
  · unfold wsV at hw
    rcases List.mem_append.mp hw with h | h
    · simp only [List.mem_cons, List.not_mem_nil, or_false] at h
      rcases h with rfl | rfl | rfl | rfl
      · exact tb_mem v1
      · exact tb_mem v2
      · exact tb_mem v3
      · exact tb_mem v4
    · exact hcode w h
  · have := va_recv hK.1 hP hr0 ((tp_w_at h0).trans (by rw [tp_e_obj ht hci]))
    rw [hr1] at this
    exact this
  · obtain ⟨rfl, x, rfl, rfl, hq⟩ := hq
    exact kk σ' H1 locs1 hq hp hS (fun q h1 h2 => hkp q h1 (fun h => h.elim (fun ⟨j, hj, e⟩ => h2 j hj e) (fun h => absurd h1 (Nat.not_lt.mpr h))))
theorem lw_cc {D D' : DD} {σ1 σ2 : tp_M} {y : MethodName} {I : tp_I} {av : List Value} {v : Int32} {idx n : Nat} (cx : lw_cx p l s m meth c b L xs G i) (hJ : LJ l s G σ1 σ2 H locs) (hc : cR σ1 D) (hl : lv_has ls 4 (lw_lv b s.heap.size i)) (hce : ce ≤ 600000) (hsl : sl ≤ 7302250) (hC : ∀ (E : tp_E) (σ : tp_M) (Q : Int32 → tp_M → Prop), cR σ D → (∀ σ', cR σ' D' → Q v σ') → Ci E TC y I 8 (.ref 0 :: av) σ Q) (hv : cv_V RL idx 9 y I n) (hn : av.length = n) (hI : I.2.2.1 ≤ 45) (hst : st = (av.map (tp_v s.heap.size)).reverse ++ .ref s.heap.size :: rest) (hw : (rest.map fun v => v.category).sum ≤ 8) (hd : decode code pc = .ok (.invokevirtual idx, 3))
    (kk : ∀ (σ1' : tp_M) (H' : Heap) (locs' : List Loc), LJ l s G σ1' σ2 H' locs' → cR σ1' D' → W p l e room_1 s m #[Value.ref b] below meth c H' locs' ce sl Qf (F0 m (pc + 3) ls (.int v :: rest))) : W p l e room_1 s m #[Value.ref b] below meth c H locs ce sl Qf (F0 m pc ls st) := by
  obtain ⟨j1, j2, j3⟩ := hJ
  refine lw_callG (B := s.heap.size) (T := TC) (σ := σ1) cx hv hn hI hw (by decide) rfl (hC _ _ (fun x σ' => x = v ∧ cR σ' D') hc (fun σ' h => ⟨rfl, h⟩)) j1 j3 (Nat.le_refl _) hl.1 hst hd hce hsl (fun σ' H' locs' hq hp hs hk => kk σ' H' locs' ⟨hp, tp_P_keep j2 (fun j hj => hk _ (tp_P_lt j2 hj) (fun j' hj' => ?_)), hs⟩ hq)
  have : j' < 157 := hj'
  show s.heap.size + 157 + j ≠ s.heap.size + j'
  omega
theorem lw_cm {D D' : DD} {σ1 σ2 : tp_M} {y : MethodName} {I : tp_I} {av : List Value} {v : Int32} {idx n : Nat} (cx : lw_cx p l s m meth c b L xs G i) (hJ : LJ l s G σ1 σ2 H locs) (hc : mR σ2 D) (hl : lv_has ls 4 (lw_lv b s.heap.size i)) (hce : ce ≤ 600000) (hsl : sl ≤ 7302250) (hC : ∀ (E : tp_E) (σ : tp_M) (Q : Int32 → tp_M → Prop), mR σ D → (∀ σ', mR σ' D' → Q v σ') → Ci E TM y I 8 (.ref 0 :: av) σ Q) (hv : cv_V RL idx 10 y I n) (hn : av.length = n) (hI : I.2.2.1 ≤ 45) (hst : st = (av.map (tp_v (s.heap.size + 157))).reverse ++ .ref (s.heap.size + 157) :: rest) (hw : (rest.map fun v => v.category).sum ≤ 8) (hd : decode code pc = .ok (.invokevirtual idx, 3))
    (kk : ∀ (σ2' : tp_M) (H' : Heap) (locs' : List Loc), LJ l s G σ1 σ2' H' locs' → mR σ2' D' → W p l e room_1 s m #[Value.ref b] below meth c H' locs' ce sl Qf (F0 m (pc + 3) ls (.int v :: rest))) : W p l e room_1 s m #[Value.ref b] below meth c H locs ce sl Qf (F0 m pc ls st) := by
  obtain ⟨j1, j2, j3⟩ := hJ
  refine lw_callG (B := s.heap.size + 157) (T := TM) (σ := σ2) cx hv hn hI hw (by decide) rfl (hC _ _ (fun x σ' => x = v ∧ mR σ' D') hc (fun σ' h => ⟨rfl, h⟩)) j2 j3 (Nat.le_add_right _ _) hl.1 hst hd hce hsl (fun σ' H' locs' hq hp hs hk => kk σ' H' locs' ⟨tp_P_keep j1 (fun j hj => hk _ (tp_P_lt j1 hj) (fun j' hj' => ?_)), hp, hs⟩ hq)
  have : j < 157 := hj
  show s.heap.size + j ≠ s.heap.size + 157 + j'
  omega
end LAW

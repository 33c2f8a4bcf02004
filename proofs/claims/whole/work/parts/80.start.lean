/-! ===== the law from its entry ===== -/
def T0w : tp_T := (0, fun _ => (0, 0), fun _ _ => none)
def M0w : tp_M := fun _ _ => 0
theorem tp_P_0 {E : tp_E} {H : Heap} : tp_P E T0w M0w H := fun k q h => by simp [tp_w, T0w] at h
theorem tp_P_cg {E : tp_E} {T T' : tp_T} {σ : tp_M} {H : Heap} (h : tp_P E T σ H) (h1 : T'.1 = T.1) (h2 : ∀ i, i < T.1 → tp_e E T' σ i = tp_e E T σ i) : tp_P E T' σ H := by
  unfold tp_P
  rw [tp_w_cg h1 h2]
  exact h
section LAWS
variable {p : Program} {l : Launch} {e : Env} {s : State} {m : MethodId} {below : List Frame} {meth : Method} {c : Code} {b L : Nat} {xs : Nat → Int32} {G : lw_G} {H : Heap} {locs : List Loc} {ls : Array Slot} {ce sl pc : Nat} {Qf : State → Prop} {rest st : List Value}
/-- the first cell of a world -/
theorem lw_new {B idx ci : Nat} {r : vw_C} {ty : Nat → FieldType} (C0 : lw_At p s m meth c b L xs) (hK : ∀ B, tp_K (l, B, G) s) (hC : cv_C ci r ty) (hcl : tb_in (.classLink RL idx r.1)) (hin : tb_in (.instantiable r.1 r.2.2)) (hini : tb_in (.initialized r.1)) (hdf : ∀ j, j < r.2.2 → defaultValue (ty j) = if tp_isr ci j = true then .null else .int 0) (hce : ce + 1 ≤ 600000) (hsl : sl + tp_nf ci ≤ 7302250) (hd : decode code pc = .ok (.new idx, 3)) (hz : H.size = B) (hS : va_S (lw_A s) s.heap H locs)
    (kk : ∀ H1 : Heap, tp_P (l, B, G) (tp_nT T0w ci 0) (tp_nM M0w 0) H1 → va_S (lw_A s) s.heap H1 locs → H1.size = B + 1 → (∀ q, q < H.size → H1[q]? = H[q]?) → W p l e room_1 s m #[Value.ref b] below meth c H1 locs (ce + 1) (sl + tp_nf ci) Qf (F0 m (pc + 3) ls (.ref B :: rest))) : W p l e room_1 s m #[Value.ref b] below meth c H locs ce sl Qf (F0 m pc ls rest) := by
  obtain ⟨hx, hb, hr, hml, hown, hts0, hX, hbl, hlocks, hgv⟩ := C0
  have hts : ∀ w ∈ tb_T, w.before #[Value.ref b] s = true := fun w hw => hts0 w (List.mem_filter.mp hw).1
  have hKn := (hK B).1.1 ci _ hC.1
  refine W.newcK (n := r.2.2) hx hb hown (hts _ (tb_mem hcl)) (hts _ (tb_mem hin)) (hts _ (tb_mem hini)) rfl hd hce (by rw [hC.2.2.1]; exact hsl) hKn.2.1 rfl fun H1 kC hkC e1 z1 o1 => ?_
  rw [hC.2.2.1]
  have key := kk H1 (tp_pushP (E := (l, B, G)) (T := T0w) (σ := M0w) (e' := tp_e (l, B, G) (tp_nT T0w ci 0) (tp_nM M0w 0) 0) tp_P_0 rfl ?_ (fun j hj => absurd hj (Nat.not_lt_zero j)) o1) (tp_grow hS z1 o1) (by rw [z1, hz]) o1
  · rw [hz]
    exact key
  · show va_at _ _ (B + 0, tp_e (l, B, G) (tp_nT T0w ci 0) (tp_nM M0w 0) 0) H1
    rw [tp_e_obj (T := tp_nT T0w ci 0) (c := ci) (by simp [tp_nT, va_up, T0w]) hC.2.1]
    refine ⟨_, hC.1, ?_⟩
    show t_OB B _ _ _ H1 _
    rw [← hz]
    refine (u_born ty hts hC.2.2.2.1 hKn hkC e1 hC.2.2.2.2.1).to (fun j hj => ?_)
    have hj2 : j < tp_nf ci := by rw [← hC.2.2.1]; exact hj
    rw [hdf j hj]
    unfold vp_V
    rw [List.getD_eq_getElem?_getD]
    cases hr : tp_isr ci j
    · rw [tp_fs_i hj2 hr]
      simp [tp_nM, va_up]
    · rw [tp_fs_r hj2 hr]
      simp [tp_nT, va_up, va_rf, T0w]
/-- its constructor -/
theorem lw_init {B idx : Nat} {T T' : tp_T} {σ : tp_M} {y : MethodName} {I : tp_I} {rm : Room} {Qp : tp_M → Prop} (C0 : lw_At p s m meth c b L xs) (hK : ∀ B, tp_K (l, B, G) s) (hv : cv_I RL idx y I 0) (hR : rm.frames + 1 ≤ 9 ∧ 8 + (I.2.2.1 + 11) + rm.locals ≤ 320) (hm : ce + rm.cells ≤ 600000 ∧ sl + rm.slots ≤ 7302250) (hw : (rest.map fun v => v.category).sum ≤ 8)
    (hC : Ct (l, B, G) true rm y I [.ref 0] T σ (fun r T'' σ' => r = none ∧ T'' = T' ∧ Qp σ')) (hP : tp_P (l, B, G) T σ H) (hS : va_S (lw_A s) s.heap H locs) (hB : s.heap.size ≤ B) (hz : H.size = B + T.1) (hls : ls.size = 4) (hd : decode code pc = .ok (.invokespecial idx, 3))
    (kk : ∀ (σ' : tp_M) (H' : Heap) (locs' : List Loc), Qp σ' → tp_P (l, B, G) T' σ' H' → va_S (lw_A s) s.heap H' locs' → H'.size = B + T'.1 → (∀ q, q < B → H'[q]? = H[q]?) → W p l e room_1 s m #[Value.ref b] below meth c H' locs' (ce + rm.cells) (sl + rm.slots) Qf (F0 m (pc + 3) ls rest)) : W p l e room_1 s m #[Value.ref b] below meth c H locs ce sl Qf (F0 m pc ls (.ref B :: rest)) := by
  obtain ⟨hx, hb, hr, hml, hown, hts0, hX, hbl, hlocks, hgv⟩ := C0
  have hK := hK B
  have hts : ∀ w ∈ tb_T, w.before #[Value.ref b] s = true := fun w hw => hts0 w (List.mem_filter.mp hw).1
  obtain ⟨⟨v1, v2, v4, v5⟩, ⟨hnm, hrt⟩, hd3⟩ := hv
  have hA1 : ∀ q, wp_A B T.1 H.size q → lw_A s q := fun q h => h.elim (fun ⟨j, hj, e⟩ => by show s.heap.size ≤ q; omega) (fun h => Nat.le_trans hS.1 h)
  have hM := hC H.size
  rw [hrt] at hM
  have hcode : ∀ w ∈ (Cond.code y I.2.1 I.2.2.1 none :: tb_T), w ∈ tb_T := fun w hw => (List.mem_cons.mp hw).elim (fun h => by rw [h]; exact tb_mem v5) (fun h => h)
  refine wp_after (E := (l, B, G)) (al := true) (A := lw_A s) (va_runI (As := []) (rest := rest) (b := B + 0) ⟨hx, hb, hml, hown, hts⟩ hM
    (cwI 0 hts (tb_goodIn hcode) rfl rfl rfl (hts _ (tb_mem v4)) (hts _ (tb_mem v1)) (hts _ (tb_mem v2)) hnm hd3 hR) ⟨wp_blind, fun U hU hW => ⟨rfl, by rw [hU], by rw [hU]; exact hP, tp_K.warm hW hK, fun _ => hz⟩⟩ rfl rfl hls rfl (lv_room hw) hd hm) hS hA1 (fun r T'' σ' H1 locs1 hq hp hi hal hkp hS => ?_)
  obtain ⟨rfl, rfl, hq⟩ := hq
  exact kk σ' H1 locs1 hq hp hS (hal rfl) (fun q hq => hkp q (by omega) (fun h => h.elim (fun ⟨j, hj, e⟩ => by have e2 : q = B + j := e; omega) (fun h => by omega)))
end LAWS
theorem TM_k : ∀ i, i < 26 → TM.2.1 i = (rfT (tp_nT T0w 10 0) 0).2.1 i := by decide +kernel
theorem TM_r : ∀ i, i < 26 → ∀ k, k < 46 → TM.2.2 i k = (rfT (tp_nT T0w 10 0) 0).2.2 i k := by decide +kernel
theorem TM_a : ∀ i, i < 26 → ¬ 14 ≤ ((rfT (tp_nT T0w 10 0) 0).2.1 i).1 := by decide +kernel
theorem TM_n : ∀ i, i < 26 → tp_nf ((rfT (tp_nT T0w 10 0) 0).2.1 i).1 ≤ 46 := by decide +kernel
theorem nw_mR {σ : tp_M} (h : nw (tp_u (tp_u (tp_nM M0w 0) 0 21 (-1)) 0 3 0) 1 25 σ) : mR σ D0 := by
  have z : ∀ k, σ 0 k = tp_u (tp_u (tp_nM M0w 0) 0 21 (-1)) 0 3 0 0 k := fun k => by rw [h.1 0 (by decide)]
  refine mR_0 ⟨z 2, z 3, z 4, z 5, z 7, z 9, z 12, z 16, z 39, z 43⟩ (z 21) (fun r _ => h.2 2 (by decide) r) ⟨h.2 0 (by decide) 0, h.2 0 (by decide) 1, h.2 0 (by decide) 58⟩ ⟨h.2 1 (by decide) 0, h.2 1 (by decide) 1⟩
set_option maxHeartbeats 4000000 in
set_option maxRecDepth 100000 in
/-- the law, from its entry -/
theorem whole_start {p : Program} {e : Env} {s : State} {m : MethodId} {below : List Frame} {meth : Method} {c : Code} (l : Launch) {b L : Nat} {xs : Nat → Int32} (hL : L ≤ 2048) (C0 : lw_At p s m meth c b L xs) : W p l e room_1 s m #[Value.ref b] below meth c s.heap [] 0 0 (lw_Z below #[Value.ref b] s) (entryFrame m ([Value.ref b] : List Value).toArray 4) := by
  obtain ⟨hx, hb, hr, hml, hown, hts, hX, hbl, hlocks, hgv⟩ := id C0
  obtain ⟨G, hG⟩ := lw_know hts
  have hK : ∀ B, tp_K (l, B, G) s := hG l
  have hl := lv_entry ([.ref b]) (n := 4) (Nat.le_of_ble_eq_true rfl)
  rw [lg_entry_eq]
  generalize (lg_sl ([.ref b]) ++ List.replicate (4 - (lg_sl ([.ref b])).length) Slot.unset).toArray = ls at hl ⊢
  have hl : lv_has ls 4 [(0, .ref b)] := hl
  refine lw_new (B := s.heap.size) C0 hK kcX9 tw_53 tw_54 tw_39 (by decide) (by decide) (by decide) dL_law_0 rfl va_S.rf (fun H1 p1 s1 z1 o1 => ?_)
  refine lv_dup hx hb dL_law_3 rfl ?_
  refine lw_init (B := s.heap.size) (T' := TC) (rm := rmk (5 + 1 + 1 + 1) 156 1185) (Qp := fun σ' => cR σ' D0) C0 hK kmL_9 ⟨by decide, by decide⟩ ⟨by decide, by decide⟩ (Nat.le_of_ble_eq_true rfl) (mk_face rfl rfl (fun k => rfl) (fun σ' h => ⟨rfl, rfl, h⟩)) p1 s1 (Nat.le_refl _) z1 hl.1 dL_law_4 (fun σ1 H2 locs2 hc p2 s2 z2 _ => ?_)
  refine lv_astore_n (lv' := [(1, .ref s.heap.size), (0, .ref b)]) hx hb dL_law_7 rfl hl (by decide) rfl (fun ls hl => ?_)
  refine lw_new (B := s.heap.size + 157) C0 hK kcX10 tw_955 tw_956 tw_49 (by decide) (by decide) (by decide) dL_law_8 z2 s2 (fun H3 p3 s3 z3 o3 => ?_)
  refine lv_dup hx hb dL_law_11 rfl ?_
  refine lw_init (B := s.heap.size + 157) (T' := rfT (tp_nT T0w 10 0) 0) (rm := rmk (7 + 1) 25 1815) (Qp := fun σ' => nw (tp_u (tp_u (tp_nM M0w 0) 0 21 (-1)) 0 3 0) 1 25 σ') C0 hK kmL_12 ⟨by decide, by decide⟩ ⟨by decide, by decide⟩ (Nat.le_of_ble_eq_true rfl) (mk_ref (by decide) rfl (fun σ' h => ⟨rfl, rfl, h⟩)) p3 s3 (Nat.le_add_right _ _) z3 hl.1 dL_law_12 (fun σ2 H4 locs4 hm p4 s4 z4 o4 => ?_)
  refine lv_astore_n (lv' := [(2, .ref (s.heap.size + 157)), (1, .ref s.heap.size), (0, .ref b)]) hx hb dL_law_15 rfl hl (by decide) rfl (fun ls hl => ?_)
  refine lv_iconst (v := 0) hx hb dL_law_16 (by decide) ?_
  refine lv_istore_n (lv' := [(3, .int 0), (2, .ref (s.heap.size + 157)), (1, .ref s.heap.size), (0, .ref b)]) hx hb dL_law_17 rfl hl (by decide) rfl (fun ls hl => ?_)
  have j1 : tp_P (l, s.heap.size, G) TC σ1 H4 := tp_P_keep p2 (fun j hj => by
    have hj2 : j < 157 := hj
    have zz : H2.size = s.heap.size + 157 := z2
    show H4[s.heap.size + j]? = H2[s.heap.size + j]?
    rw [o4 _ (by omega), o3 _ (by omega)])
  have j2 : tp_P (l, s.heap.size + 157, G) TM σ2 H4 := tp_P_cg p4 rfl (fun j hj => tp_e_cb (T' := TM) (T := rfT (tp_nT T0w 10 0) 0) (TM_k j hj) (fun k hk => TM_r j hj k (Nat.lt_of_lt_of_le hk (TM_n j hj))) (fun h => absurd h (TM_a j hj)))
  exact law_loop (by decide) (by decide) hL C0 hK (L + 1) 0 (Nat.zero_le L) (by omega) D0 σ1 σ2 H4 locs4 ls D0_ok hc (nw_mR hm) ⟨j1, j2, s4⟩ (lv_sub hl [3, 2, 1, 0] rfl)

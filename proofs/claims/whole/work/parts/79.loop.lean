/-! ===== the law's loop ===== -/
theorem and31 (x : Int32) : ∃ j, j < 32 ∧ x &&& 31 = nI j := by
  refine ⟨(x &&& 31).toBitVec.toNat, ?_, ?_⟩
  · rw [Int32.toBitVec_and, BitVec.toNat_and]
    exact Nat.and_lt_two_pow (n := 5) _ (by decide)
  · apply Int32.toBitVec_inj.mp
    show (x &&& 31).toBitVec = BitVec.ofNat 32 (x &&& 31).toBitVec.toNat
    simp
theorem law_head {i L : Nat} (hL : L ≤ 2048) (hi : i ≤ L) (h : ¬ Int32.ofNat L - 4 < nI i) : i + 4 ≤ L := by
  rw [Int32.lt_iff_toInt_lt, show Int32.ofNat L - 4 = nI L - nI 4 from rfl, pk_sub_toInt (by omega) (by decide), nI_toInt (by omega)] at h
  omega
set_option maxHeartbeats 4000000 in
set_option maxRecDepth 100000 in
theorem law_loop {p : Program} {l : Launch} {e : Env} {s : State} {m : MethodId} {below : List Frame} {meth : Method} {c : Code} {b L : Nat} {xs : Nat → Int32} {G : lw_G} {ce sl : Nat} (hce : ce ≤ 600000) (hsl : sl ≤ 7302250) (hL : L ≤ 2048) (C0 : lw_At p s m meth c b L xs) (hK : ∀ B, tp_K (l, B, G) s) :
    ∀ (n i : Nat), i ≤ L → L + 1 ≤ i + n → ∀ (D : DD) (σ1 σ2 : tp_M) (H : Heap) (locs : List Loc) (ls : Array Slot), okD D → cR σ1 D → mR σ2 D → LJ l s G σ1 σ2 H locs → lv_has ls 4 (lw_lv b s.heap.size i) → W p l e room_1 s m #[Value.ref b] below meth c H locs ce sl (lw_Z below #[Value.ref b] s) (F0 m 18 ls []) := by
  intro n
  induction n with
  | zero => intro i h1 h2; exact absurd h2 (by omega)
  | succ n ih =>
    intro i hi hin D σ1 σ2 H locs ls ok hc hm hJ hl
    obtain ⟨hx, hb, hr, hml, hown, hts, hX, hbl, hlocks, hgv⟩ := id C0
    have hbA : ¬ lw_A s b := Nat.not_le.mpr hbl
    have hS := hJ.2.2
    refine lv_iload_n hx hb dL_law_18 rfl (lv_at hl 3 rfl) ?_
    refine lv_aload_n hx hb dL_law_19 rfl (lv_at hl 0 rfl) ?_
    refine va_slen hx hb hX hbl hbA hS dL_law_20 ?_
    refine lv_iconst (v := 4) hx hb dL_law_21 (by decide) ?_
    refine lv_isub hx hb dL_law_22 ?_
    refine lv_icmp_gt (tgt := 1060) hx hb dL_law_23 (by decide) (fun _ => ?_) (fun q => ?_)
    · refine lv_iconst (v := 1) hx hb dL_law_1060 (by decide) ?_
      refine va_forget (fun q hq => hS.2.2 q hq) ?_
      refine W.widen (k := 600000) (n := 7302250) hce hsl ?_
      exact lw_ret hx hb hr hlocks dL_law_1061
    · have h4 := law_head hL hi q
      have cx : lw_cx p l s m meth c b L xs G i := ⟨C0, hK, h4, hL⟩
      have nx : lw_nx p l e s m below meth c b G ls ce sl (lw_Z below #[Value.ref b] s) := by
        intro D' σ1' σ2' H' locs' ok' hc' hm' hJ'
        refine lv_iinc (v := nI (i + 4)) (lv' := [(3, .int (nI (i + 4))), (0, .ref b), (1, .ref s.heap.size), (2, .ref (s.heap.size + 157))]) hx hb dL_law_1054 hl (k := 3) rfl (nI_add i 4) (by decide) rfl (fun ls' hl' => ?_)
        refine lv_goto (tgt := 18) hx hb dL_law_1057 (by decide) ?_
        exact ih (i + 4) (by omega) (by omega) D' σ1' σ2' H' locs' ls' ok' hc' hm' hJ' (lv_sub hl' [1, 2, 3, 0] rfl)
      refine lv_aload_n hx hb dL_law_26 rfl (lv_at hl 0 rfl) ?_
      refine lv_iload_n hx hb dL_law_27 rfl (lv_at hl 3 rfl) ?_
      refine va_sld hx hb hX hbl hbA hS (vin (show i < L by omega) (by omega)) dL_law_28 ?_
      refine lv_bipush (v := 31) hx hb dL_law_29 (by decide) ?_
      refine lv_iand hx hb dL_law_31 ?_
      obtain ⟨j, hj, ej⟩ := and31 (xs (nI i).toNatClampNeg)
      rw [ej]
      match j, hj with
      | 0, _ => exact lv_tableIn (tgt := 176) hx hb dL_law_32 (by decide) (by decide) rfl (by decide) (lw_on_feed cx ok hc hm hJ hl hce hsl nx)
      | 1, _ => exact lv_tableIn (tgt := 199) hx hb dL_law_32 (by decide) (by decide) rfl (by decide) (lw_on_hotel cx ok hc hm hJ hl hce hsl nx)
      | 2, _ => exact lv_tableIn (tgt := 212) hx hb dL_law_32 (by decide) (by decide) rfl (by decide) (lw_on_fault cx ok hc hm hJ hl hce hsl nx)
      | 3, _ => exact lv_tableIn (tgt := 225) hx hb dL_law_32 (by decide) (by decide) rfl (by decide) (lw_on_told cx ok hc hm hJ hl hce hsl nx)
      | 4, _ => exact lv_tableIn (tgt := 248) hx hb dL_law_32 (by decide) (by decide) rfl (by decide) (lw_on_room cx ok hc hm hJ hl hce hsl nx)
      | 5, _ => exact lv_tableIn (tgt := 271) hx hb dL_law_32 (by decide) (by decide) rfl (by decide) (lw_on_waiter cx ok hc hm hJ hl hce hsl nx)
      | 6, _ => exact lv_tableIn (tgt := 304) hx hb dL_law_32 (by decide) (by decide) rfl (by decide) (lw_on_thing cx ok hc hm hJ hl hce hsl nx)
      | 7, _ => exact lv_tableIn (tgt := 337) hx hb dL_law_32 (by decide) (by decide) rfl (by decide) (lw_on_minute cx ok hc hm hJ hl hce hsl nx)
      | 8, _ => exact lv_tableIn (tgt := 360) hx hb dL_law_32 (by decide) (by decide) rfl (by decide) (lw_on_route cx ok hc hm hJ hl hce hsl nx)
      | 9, _ => exact lv_tableIn (tgt := 393) hx hb dL_law_32 (by decide) (by decide) rfl (by decide) (lw_on_lay cx ok hc hm hJ hl hce hsl nx)
      | 10, _ => exact lv_tableIn (tgt := 436) hx hb dL_law_32 (by decide) (by decide) rfl (by decide) (lw_on_takeOff cx ok hc hm hJ hl hce hsl nx)
      | 11, _ => exact lv_tableIn (tgt := 459) hx hb dL_law_32 (by decide) (by decide) rfl (by decide) (lw_on_treaty cx ok hc hm hJ hl hce hsl nx)
      | 12, _ => exact lv_tableIn (tgt := 518) hx hb dL_law_32 (by decide) (by decide) rfl (by decide) (lw_on_drift cx ok hc hm hJ hl hce hsl nx)
      | 13, _ => exact lv_tableIn (tgt := 541) hx hb dL_law_32 (by decide) (by decide) rfl (by decide) (lw_on_undo cx ok hc hm hJ hl hce hsl nx)
      | 14, _ => exact lv_tableIn (tgt := 554) hx hb dL_law_32 (by decide) (by decide) rfl (by decide) (lw_on_where cx ok hc hm hJ hl hce hsl nx)
      | 15, _ => exact lv_tableIn (tgt := 587) hx hb dL_law_32 (by decide) (by decide) rfl (by decide) (lw_on_meets cx ok hc hm hJ hl hce hsl nx)
      | 16, _ => exact lv_tableIn (tgt := 620) hx hb dL_law_32 (by decide) (by decide) rfl (by decide) (lw_on_way cx ok hc hm hJ hl hce hsl nx)
      | 17, _ => exact lv_tableIn (tgt := 663) hx hb dL_law_32 (by decide) (by decide) rfl (by decide) (lw_on_delays cx ok hc hm hJ hl hce hsl nx)
      | 18, _ => exact lv_tableIn (tgt := 686) hx hb dL_law_32 (by decide) (by decide) rfl (by decide) (lw_on_served cx ok hc hm hJ hl hce hsl nx)
      | 19, _ => exact lv_tableIn (tgt := 709) hx hb dL_law_32 (by decide) (by decide) rfl (by decide) (lw_on_evened cx ok hc hm hJ hl hce hsl nx)
      | 20, _ => exact lv_tableIn (tgt := 742) hx hb dL_law_32 (by decide) (by decide) rfl (by decide) (lw_on_packed cx ok hc hm hJ hl hce hsl nx)
      | 21, _ => exact lv_tableIn (tgt := 775) hx hb dL_law_32 (by decide) (by decide) rfl (by decide) (lw_on_covered cx ok hc hm hJ hl hce hsl nx)
      | 22, _ => exact lv_tableIn (tgt := 808) hx hb dL_law_32 (by decide) (by decide) rfl (by decide) (lw_on_calm cx ok hc hm hJ hl hce hsl nx)
      | 23, _ => exact lv_tableIn (tgt := 841) hx hb dL_law_32 (by decide) (by decide) rfl (by decide) (lw_on_see cx ok hc hm hJ hl hce hsl nx)
      | 24, _ => exact lv_tableIn (tgt := 900) hx hb dL_law_32 (by decide) (by decide) rfl (by decide) (lw_on_spiller cx ok hc hm hJ hl hce hsl nx)
      | 25, _ => exact lv_tableIn (tgt := 913) hx hb dL_law_32 (by decide) (by decide) rfl (by decide) (lw_on_look cx ok hc hm hJ hl hce hsl nx)
      | 26, _ => exact lv_tableIn (tgt := 926) hx hb dL_law_32 (by decide) (by decide) rfl (by decide) (lw_on_write cx ok hc hm hJ hl hce hsl nx)
      | 27, _ => exact lv_tableIn (tgt := 959) hx hb dL_law_32 (by decide) (by decide) rfl (by decide) (lw_on_tear cx ok hc hm hJ hl hce hsl nx)
      | 28, _ => exact lv_tableIn (tgt := 972) hx hb dL_law_32 (by decide) (by decide) rfl (by decide) (lw_on_judge cx ok hc hm hJ hl hce hsl nx)
      | 29, _ => exact lv_tableIn (tgt := 985) hx hb dL_law_32 (by decide) (by decide) rfl (by decide) (lw_on_seed cx ok hc hm hJ hl hce hsl nx)
      | 30, _ => exact lv_tableIn (tgt := 1008) hx hb dL_law_32 (by decide) (by decide) rfl (by decide) (lw_on_keep cx ok hc hm hJ hl hce hsl nx)
      | 31, _ => exact lv_tableIn (tgt := 1031) hx hb dL_law_32 (by decide) (by decide) rfl (by decide) (lw_on_goBack cx ok hc hm hJ hl hce hsl nx)
      | j + 32, h => exact absurd h (by omega)

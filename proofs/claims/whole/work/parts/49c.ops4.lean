/-! ===== packed ===== -/
def pks (P : PD) (t sp : Int32) (j : Nat) (b : Int32) : Int32 := if (nI j &&& (t ^^^ (-1))) = 0 ∧ ¬ sp < nI (gS P (nI j)) ∧ vS P b < vS P (nI j) then nI j else b
def pkn (P : PD) (t sp : Int32) (n : Nat) : Int32 := itr (fun i s => pks P t sp (i + 1) s) n 0
theorem vS_0 (P : PD) : vS P 0 = 0 := by
  unfold vS nsum
  exact itr_inv (fun _ x => x = 0) (pt P) rfl (fun k x hk h => by rw [b_0, if_neg (by decide)]; exact h)
section PKN
variable {E : tp_E} {d : Nat} {σ : tp_M} {Q : Int32 → tp_M → Prop} {P : PD}
theorem sC_worthiest (hP : okP P) (hc : cP σ 1 P) {t sp : Int32} (ht : sml P t) (h : Q (pkn P t sp 255) σ) : Ci E TC yX5_worthiest iX5_worthiest (d + 1 + 1 + 1) [.ref 1, .int t, .int sp] σ Q := by
  refine eX5_worthiest _ _ ?_
  suffices z : Wi E TC iX5_worthiest (d + 1 + 1 + 1) Q 8 [(0, .ref 1), (1, .int t), (2, .int sp), (3, .int 0), (4, .int (nI (vS P 0))), (5, .int (nI 1))] [] σ by
    rw [vS_0] at z
    exact z
  refine wl_up (fun i (s : Int32) => Wi E TC iX5_worthiest (d + 1 + 1 + 1) Q 8 [(0, .ref 1), (1, .int t), (2, .int sp), (3, .int s), (4, .int (nI (vS P s))), (5, .int i)] [] σ) (fun j s => 1 ≤ j ∧ s = pkn P t sp (j - 1)) 256 ?_ ?_ 1 0 (by omega) ⟨by omega, rfl⟩
  · intro s hs
    refine bX5_worthiest_8 _ _ _ _ _ ?_
    rw [if_pos (by decide), hs.2]
    exact h
  · intro j s hj hs ih
    have ih2 := ih (pks P t sp j s) ⟨by omega, by
      rw [hs.2, Nat.add_sub_cancel]
      obtain ⟨i, rfl⟩ : ∃ i, j = i + 1 := ⟨j - 1, by omega⟩
      rfl⟩
    have hv := vS_le hP s
    have hw := vS_le hP (nI j)
    refine bX5_worthiest_8 _ _ _ _ _ ?_
    rw [if_neg (nle_lit 256 hj (by decide))]
    unfold pks at ih2
    by_cases h1 : (nI j &&& (t ^^^ (-1))) = 0
    · rw [if_pos h1]
      refine sC_worth hP hc (sub_sml ht h1) (bX5_worthiest_35 _ _ _ _ _ _ ?_)
      by_cases h2 : vS P s < vS P (nI j)
      · rw [if_neg (nI_ge h2 (by omega))]
        refine sC_weight hP hc (sub_sml ht h1) ?_
        by_cases h3 : sp < nI (gS P (nI j))
        · rw [if_pos h3]
          rw [if_neg (fun q => q.2.1 h3)] at ih2
          exact ih2
        · rw [if_neg h3]
          rw [if_pos ⟨h1, h3, h2⟩] at ih2
          exact ih2
      · rw [if_pos (nI_le (by omega) (by omega))]
        rw [if_neg (fun q => h2 q.2.2)] at ih2
        exact ih2
    · rw [if_neg h1]
      refine bX5_worthiest_35 _ _ _ _ _ _ ?_
      rw [if_pos (le_litp 0 (by omega) (by omega))]
      rw [if_neg (fun q => h1 q.1)] at ih2
      exact ih2
theorem sM_packed (hP : okP P) (hm : mP σ P) {t sp x : Int32} (h : Q (if x = 0 then pkn P t sp 255 else nI (vS P (pkn P t sp 255))) σ) : Wi E TM iX10_packed (d + 1 + 1) Q 56 [(0, .ref 0), (2, .int x), (3, .int t), (4, .int sp), (5, .int 0), (6, .int 0)] [] σ := by
  have step : ∀ (j : Nat) (b : Int32), j < 256 → Wi E TM iX10_packed (d + 1 + 1) Q 56 [(0, .ref 0), (2, .int x), (3, .int t), (4, .int sp), (5, .int (pks P t sp j b)), (6, .int (nI j + 1))] [] σ → Wi E TM iX10_packed (d + 1 + 1) Q 56 [(0, .ref 0), (2, .int x), (3, .int t), (4, .int sp), (5, .int b), (6, .int (nI j))] [] σ := by
    intro j b hj ih
    have hv := vS_le hP b
    have hw := vS_le hP (nI j)
    refine bX10_packed_56 _ _ _ _ _ ?_
    rw [if_neg (nle_lit 256 hj (by decide))]
    unfold pks at ih
    by_cases h1 : (nI j &&& (t ^^^ (-1))) = 0
    · rw [if_pos h1]
      refine sM_weight hP hm _ ?_
      by_cases h3 : sp < nI (gS P (nI j))
      · rw [if_pos h3]
        refine bX10_packed_89 _ _ _ _ _ _ ?_
        rw [if_pos rfl]
        rw [if_neg (fun q => q.2.1 h3)] at ih
        exact ih
      · rw [if_neg h3]
        refine bX10_packed_89 _ _ _ _ _ _ ?_
        rw [if_neg (by decide)]
        refine sM_worth hP hm _ (sM_worth hP hm _ ?_)
        by_cases h2 : vS P b < vS P (nI j)
        · rw [if_neg (nI_ge h2 (by omega))]
          rw [if_pos ⟨h1, h3, h2⟩] at ih
          exact ih
        · rw [if_pos (nI_le (by omega) (by omega))]
          rw [if_neg (fun q => h2 q.2.2)] at ih
          exact ih
    · rw [if_neg h1]
      refine bX10_packed_89 _ _ _ _ _ _ ?_
      rw [if_pos rfl]
      rw [if_neg (fun q => h1 q.1)] at ih
      exact ih
  refine step 0 0 (by omega) ?_
  have e0 : pks P t sp 0 0 = 0 := by
    unfold pks
    rw [if_neg]
    intro q
    have := q.2.2
    rw [show nI 0 = 0 from rfl] at this
    omega
  rw [e0, nI_1]
  refine wl_up (fun i (s : Int32) => Wi E TM iX10_packed (d + 1 + 1) Q 56 [(0, .ref 0), (2, .int x), (3, .int t), (4, .int sp), (5, .int s), (6, .int i)] [] σ) (fun j s => 1 ≤ j ∧ s = pkn P t sp (j - 1)) 256 ?_ ?_ 1 0 (by omega) ⟨by omega, rfl⟩
  · intro s hs
    refine bX10_packed_56 _ _ _ _ _ ?_
    rw [if_pos (by decide), hs.2]
    by_cases hx : x = 0
    · rw [if_pos hx] at h ⊢; exact h
    · rw [if_neg hx] at h ⊢; exact sM_worth hP hm _ h
  · intro j s hj hs ih
    refine step j s hj ?_
    refine ih (pks P t sp j s) ⟨by omega, ?_⟩
    rw [hs.2, Nat.add_sub_cancel]
    obtain ⟨i, rfl⟩ : ∃ i, j = i + 1 := ⟨j - 1, by omega⟩
    rfl
theorem pkn_sub (P : PD) (t sp : Int32) : ∀ n, (pkn P t sp n &&& (t ^^^ (-1))) = 0 := by
  intro n
  unfold pkn
  refine itr_inv (fun k s => (s &&& (t ^^^ (-1))) = 0) n ?_ (fun k s hk hs => ?_)
  · apply b_ext
    intro i hi
    rw [b_and, b_0]
    rfl
  · unfold pks
    by_cases h1 : (nI (k + 1) &&& (t ^^^ (-1))) = 0 ∧ ¬ sp < nI (gS P (nI (k + 1))) ∧ vS P s < vS P (nI (k + 1))
    · rw [if_pos h1]; exact h1.1
    · rw [if_neg h1]; exact hs
end PKN
theorem op_packed {D : DD} (h : okD D) (x y : Int32) : op_Q yX9_packed iX9_packed yX10_packed iX10_packed [.int x, .int y] D := by
  have h4 := h.1.1.2.2.2.1
  rcases vrng x (pw (dP D)) (by omega) with ⟨k, hk, rfl⟩ | hx
  · have hc0 : ∀ {E : tp_E} {d : Nat} {σ : tp_M} {Q : Int32 → tp_M → Prop}, cR σ D → Q 1 σ → Ci E TC yX5_hasWaiter iX5_hasWaiter d [.ref 1, .int (nI k)] σ Q := fun hc hq => sc_hasWaiter_t hc.1.1.2.2.2.1 h4 hk hq
    have hm0 : ∀ {E : tp_E} {d : Nat} {σ : tp_M} {Q : Int32 → tp_M → Prop}, mR σ D → Q 1 σ → Ci E TM yX10_isWaiter iX10_isWaiter (d + 1) [.ref 0, .int (nI k)] σ Q := fun hm hq => sm_isWaiter_t hm.1.1.2.2.2.1 h4 hk hq
    have ht := tray_sml h.1 (dA D) k
    have hp := tA_sml h.1 (dA D) (-1)
    have cpre : ∀ {E : tp_E} {d : Nat} {σ : tp_M} {Q : Int32 → tp_M → Prop}, cR σ D → (if y = 0 then Ci E TC yX5_worthiest iX5_worthiest (d + 1 + 1) [.ref 1, .int (tA (dP D) (dA D) (-1)), .int (nI (pC (dP D) k) - nI (gS (dP D) (tray (dP D) (dA D) k)))] σ (fun v13 σ12 => Q v13 σ12) else (if y = 1 then Ci E TC yX5_worthiest iX5_worthiest (d + 1 + 1) [.ref 1, .int (tA (dP D) (dA D) (-1)), .int (nI (pC (dP D) k) - nI (gS (dP D) (tray (dP D) (dA D) k)))] σ (fun v16 σ15 => Ci E TC yX5_worthOf iX5_worthOf (d + 1 + 1) [.ref 1, .int v16] σ15 (fun v18 σ17 => Q v18 σ17)) else Q (-1000000002) σ)) → Ci E TC yX9_packed iX9_packed (d + 1 + 1 + 1) [.ref 0, .int (nI k), .int y] σ Q := by
      intro E d σ Q hc hq
      refine eX9_packed _ _ (hc0 hc ?_)
      rw [if_neg (by decide)]
      refine ⟨vin (by omega) (by decide), sC_tray h.1 h.2.1 hc.2.1 (by omega) (sC_weight h.1 hc.1 ht (sC_at h.1 h.2.1 hc.2.1 (by decide) ?_))⟩
      rw [vcl (by omega), show σ 4 k = nI (pC (dP D) k) from (hc.1.2.2.1 k hk).2]
      exact hq
    have mpre : ∀ {E : tp_E} {d : Nat} {σ : tp_M} {Q : Int32 → tp_M → Prop} {j : Nat}, j ≤ 1 → y = nI j → mR σ D → Wi E TM iX10_packed (d + 1 + 1) Q 56 [(0, .ref 0), (2, .int y), (3, .int (tA (dP D) (dA D) (-1))), (4, .int (nI (pC (dP D) k) - nI (gS (dP D) (tray (dP D) (dA D) k)))), (5, .int 0), (6, .int 0)] [] σ → Ci E TM yX10_packed iX10_packed (d + 1 + 1) [.ref 0, .int (nI k), .int y] σ Q := by
      intro E d σ Q j hj hy hm hq
      refine eX10_packed _ _ (hm0 hm ?_)
      rw [if_neg (by decide), hy]
      refine sm_inL_t 0 1 (by omega) hj (by decide) ?_
      rw [if_neg (by decide), ← hy]
      refine sM_at (b := 0) h.1 hm.1 (by decide) hm.2.1 _ ⟨vin (by omega) (by decide), sM_tray (b := 0) h.1 hm.1 (by decide) hm.2.1 (sM_weight h.1 hm.1 _ ?_)⟩
      rw [vcl (by omega), hm.1.2.2.1 k hk]
      exact hq
    by_cases h0 : y = 0
    · refine op_Q.ask (pkn (dP D) (tA (dP D) (dA D) (-1)) (nI (pC (dP D) k) - nI (gS (dP D) (tray (dP D) (dA D) k))) 255) h (fun E σ Q hc hq => cpre hc ?_) (fun E σ Q hm hq => mpre (j := 0) (by omega) h0 hm ?_)
      · rw [if_pos h0]
        exact sC_worthiest h.1 hc.1 hp hq
      · exact sM_packed h.1 hm.1 (by rw [if_pos h0]; exact hq)
    · by_cases h1 : y = 1
      · refine op_Q.ask (nI (vS (dP D) (pkn (dP D) (tA (dP D) (dA D) (-1)) (nI (pC (dP D) k) - nI (gS (dP D) (tray (dP D) (dA D) k))) 255))) h (fun E σ Q hc hq => cpre hc ?_) (fun E σ Q hm hq => mpre (j := 1) (by omega) h1 hm ?_)
        · rw [if_neg h0, if_pos h1]
          exact sC_worthiest h.1 hc.1 hp (sC_worth h.1 hc.1 (sub_sml hp (pkn_sub _ _ _ 255)) hq)
        · exact sM_packed h.1 hm.1 (by rw [if_neg h0]; exact hq)
      · have hz : ¬ (((0 : Nat) : Int) ≤ y.toInt ∧ y.toInt ≤ (1 : Nat)) := fun q => by
          rcases (show y.toInt = 0 ∨ y.toInt = 1 by omega) with e | e
          · exact h0 ((fa_eq _ _).mpr (e.trans (by decide)))
          · exact h1 ((fa_eq _ _).mpr (e.trans (by decide)))
        refine op_Q.ask (-1000000002) h (fun E σ Q hc hq => cpre hc ?_) (fun E σ Q hm hq => eX10_packed _ _ (hm0 hm ?_))
        · rw [if_neg h0, if_neg h1]
          exact hq
        · rw [if_neg (by decide)]
          refine sm_inL_f 0 1 hz (by decide) (by decide) ?_
          rw [if_pos rfl]
          exact hq
  · refine op_Q.ask (-1000000001) h (fun E σ Q hc hq => eX9_packed _ _ ?_) (fun E σ Q hm hq => eX10_packed _ _ ?_)
    · refine sc_hasWaiter_f hc.1.1.2.2.2.1 h4 hx ?_
      rw [if_pos rfl]
      exact hq
    · refine sm_isWaiter_f hm.1.1.2.2.2.1 h4 hx ?_
      rw [if_pos rfl]
      exact hq

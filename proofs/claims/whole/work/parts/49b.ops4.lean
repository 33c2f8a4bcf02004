theorem op_evened {D : DD} (h : okD D) (x y : Int32) : op_Q yX9_evened iX9_evened yX10_evened iX10_evened [.int x, .int y] D := by
  have h4 := h.1.1.2.2.2.1
  rcases vrng x (pw (dP D)) (by omega) with ⟨k, hk, rfl⟩ | hx
  · have hc0 : ∀ {E : tp_E} {d : Nat} {σ : tp_M} {Q : Int32 → tp_M → Prop}, cR σ D → Q 1 σ → Ci E TC yX5_hasWaiter iX5_hasWaiter d [.ref 1, .int (nI k)] σ Q := fun hc hq => sc_hasWaiter_t hc.1.1.2.2.2.1 h4 hk hq
    have hm0 : ∀ {E : tp_E} {d : Nat} {σ : tp_M} {Q : Int32 → tp_M → Prop}, mR σ D → Q 1 σ → Ci E TM yX10_isWaiter iX10_isWaiter (d + 1) [.ref 0, .int (nI k)] σ Q := fun hm hq => sm_isWaiter_t hm.1.1.2.2.2.1 h4 hk hq
    have ht := tray_sml h.1 (dA D) k
    by_cases h0 : y = 0
    · subst h0
      refine op_Q.ask (evn (dP D) (tray (dP D) (dA D) k) 255).1 h (fun E σ Q hc hq => eX9_evened _ _ (hc0 hc ?_)) (fun E σ Q hm hq => eX10_evened _ _ (hm0 hm ?_))
      · rw [if_neg (by decide)]
        refine sC_tray h.1 h.2.1 hc.2.1 (by omega) ?_
        rw [if_pos rfl]
        exact sC_evenest h.1 hc.1 ht hq
      · rw [if_neg (by decide)]
        refine sm_inL_t (j := 0) 0 1 (by omega) (by omega) (by decide) ?_
        rw [if_neg (by decide)]
        refine sM_tray (b := 0) h.1 hm.1 (by decide) hm.2.1 ?_
        exact sM_evened h.1 hm.1 (by rw [if_pos rfl]; exact hq)
    · by_cases h1 : y = 1
      · subst h1
        refine op_Q.ask (evn (dP D) (tray (dP D) (dA D) k) 255).2 h (fun E σ Q hc hq => eX9_evened _ _ (hc0 hc ?_)) (fun E σ Q hm hq => eX10_evened _ _ (hm0 hm ?_))
        · rw [if_neg (by decide)]
          refine sC_tray h.1 h.2.1 hc.2.1 (by omega) ?_
          rw [if_neg h0, if_pos rfl]
          refine sC_evenest h.1 hc.1 ht ?_
          have hi := evn_inv h.1 (tray (dP D) (dA D) k) 255 (by omega)
          refine sC_diff h.1 hc.1 ht (sub_sml ht hi.2) ?_
          rw [← hi.1]
          exact hq
        · rw [if_neg (by decide)]
          refine sm_inL_t (j := 1) 0 1 (by omega) (by omega) (by decide) ?_
          rw [if_neg (by decide)]
          refine sM_tray (b := 0) h.1 hm.1 (by decide) hm.2.1 ?_
          exact sM_evened h.1 hm.1 (by rw [if_neg h0]; exact hq)
      · have hz : ¬ (((0 : Nat) : Int) ≤ y.toInt ∧ y.toInt ≤ (1 : Nat)) := fun q => by
          rcases (show y.toInt = 0 ∨ y.toInt = 1 by omega) with e | e
          · exact h0 ((fa_eq _ _).mpr (e.trans (by decide)))
          · exact h1 ((fa_eq _ _).mpr (e.trans (by decide)))
        refine op_Q.ask (-1000000002) h (fun E σ Q hc hq => eX9_evened _ _ (hc0 hc ?_)) (fun E σ Q hm hq => eX10_evened _ _ (hm0 hm ?_))
        · rw [if_neg (by decide)]
          refine sC_tray h.1 h.2.1 hc.2.1 (by omega) ?_
          rw [if_neg h0, if_neg h1]
          exact hq
        · rw [if_neg (by decide)]
          refine sm_inL_f 0 1 hz (by decide) (by decide) ?_
          rw [if_pos rfl]
          exact hq
  · refine op_Q.ask (-1000000001) h (fun E σ Q hc hq => eX9_evened _ _ ?_) (fun E σ Q hm hq => eX10_evened _ _ ?_)
    · refine sc_hasWaiter_f hc.1.1.2.2.2.1 h4 hx ?_
      rw [if_pos rfl]
      exact hq
    · refine sm_isWaiter_f hm.1.1.2.2.2.1 h4 hx ?_
      rw [if_pos rfl]
      exact hq

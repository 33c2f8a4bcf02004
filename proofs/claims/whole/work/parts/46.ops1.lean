/-! ===== the plain calls ===== -/
theorem sc_stepsOf {E : tp_E} {d : Nat} {σ : tp_M} {Q : Int32 → tp_M → Prop} {r : Nat} (hr : r < 2147483648) (h : Q (nI (nd r)) σ) : Ci E TC yX9_stepsOf iX9_stepsOf d [.int (nI r)] σ Q := by
  refine eX9_stepsOf _ ?_
  have key : ∀ f s r, s + f = 9 → r < 2147483648 → Q (nI (s + ndf f r)) σ → Wi E TC iX9_stepsOf d Q 4 [(1, .int (nI s)), (2, .int (nI r))] [] σ := by
    intro f
    induction f with
    | zero =>
      intro s r hs hr hq
      refine bX9_stepsOf_4 _ _ ?_
      by_cases h0 : nI r ≤ 0
      · rw [if_pos h0]; exact hq
      · rw [if_neg h0, if_pos (le_litp 9 (by omega) (by omega))]; exact hq
    | succ f ih =>
      intro s r hs hr hq
      refine bX9_stepsOf_4 _ _ ?_
      unfold ndf at hq
      by_cases h0 : r = 0
      · rw [if_pos h0] at hq
        subst h0
        rw [if_pos (by decide)]
        exact hq
      · rw [if_neg h0] at hq
        rw [if_neg (nI_nleL 0 (by omega) hr), if_neg (nle_lit 9 (by omega) (by decide)), nI_1, show (10 : Int32) = nI 10 from rfl, pk_div hr (by decide) (by decide)]
        exact ih (s + 1) (r / 10) (by omega) (by omega) (by rw [show s + 1 + ndf f (r / 10) = s + (ndf f (r / 10) + 1) by omega]; exact hq)
  exact key 9 0 r rfl hr (by rw [Nat.zero_add]; exact h)
theorem okA_rt {P : PD} {A : AS} (h : okA P A) (k : Nat) : aRt A k < 1000000000 := by
  have key : ∀ f c r, chn P f c r → r < 10 ^ f := by
    intro f
    induction f with
    | zero => intro c r h; have : r = 0 := h; omega
    | succ f ih =>
      intro c r h
      rcases h with h | ⟨h1, h2, h3, h4⟩
      · rw [h]; exact Nat.pow_pos (by omega)
      · have := ih _ _ h4
        rw [Nat.pow_succ]
        omega
  by_cases hk : k < pw P
  · exact key 9 _ _ (h.2.1 k hk).2
  · rw [h.2.2.1 k (by omega)]; omega
theorem op_fault {D : DD} (h : okD D) : op_Q yX9_fault iX9_fault yX10_fault iX10_fault [] D := op_Q.ask (dT D).2.2 h (fun E σ Q hc hq => eX9_fault (by rw [hc.2.2.2.2.2.1.2.2]; exact hq)) (fun E σ Q hm hq => eX10_fault (by rw [hm.2.2.2.2.2.1.2.2]; exact hq))
theorem op_told {D : DD} (h : okD D) (x : Int32) : op_Q yX9_told iX9_told yX10_told iX10_told [.int x] D := by
  by_cases h0 : x = 0
  · exact op_Q.ask (nI (pn (dP D))) h (fun E σ Q hc hq => eX9_told _ (by rw [if_pos h0, hc.1.1.1]; exact hq)) (fun E σ Q hm hq => eX10_told _ (by rw [if_pos h0, hm.1.1.1]; exact hq))
  by_cases h1 : x = 1
  · exact op_Q.ask (nI (pp (dP D))) h (fun E σ Q hc hq => eX9_told _ (by rw [if_neg h0, if_pos h1, hc.1.1.2.2.1]; exact hq)) (fun E σ Q hm hq => eX10_told _ (by rw [if_neg h0, if_pos h1, hm.1.1.2.2.1]; exact hq))
  by_cases h2 : x = 2
  · exact op_Q.ask (nI (pw (dP D))) h (fun E σ Q hc hq => eX9_told _ (by rw [if_neg h0, if_neg h1, if_pos h2, hc.1.1.2.2.2.1]; exact hq)) (fun E σ Q hm hq => eX10_told _ (by rw [if_neg h0, if_neg h1, if_pos h2, hm.1.1.2.2.2.1]; exact hq))
  by_cases h3 : x = 3
  · exact op_Q.ask (nI (pt (dP D))) h (fun E σ Q hc hq => eX9_told _ (by rw [if_neg h0, if_neg h1, if_neg h2, if_pos h3, hc.1.1.2.2.2.2.1]; exact hq)) (fun E σ Q hm hq => eX10_told _ (by rw [if_neg h0, if_neg h1, if_neg h2, if_pos h3, hm.1.1.2.2.2.2.1]; exact hq))
  by_cases h4 : x = 4
  · exact op_Q.ask (nI (po (dP D))) h (fun E σ Q hc hq => eX9_told _ (by rw [if_neg h0, if_neg h1, if_neg h2, if_neg h3, if_pos h4, hc.1.1.2.2.2.2.2]; exact hq)) (fun E σ Q hm hq => eX10_told _ (by rw [if_neg h0, if_neg h1, if_neg h2, if_neg h3, if_pos h4, hm.1.1.2.2.2.2.2]; exact hq))
  by_cases h5 : x = 5
  · exact op_Q.ask (nI (dT D).1) h (fun E σ Q hc hq => eX9_told _ (by rw [if_neg h0, if_neg h1, if_neg h2, if_neg h3, if_neg h4, if_pos h5, hc.2.2.2.2.2.1.1]; exact hq)) (fun E σ Q hm hq => eX10_told _ (by rw [if_neg h0, if_neg h1, if_neg h2, if_neg h3, if_neg h4, if_pos h5, hm.2.2.2.2.2.1.1]; exact hq))
  by_cases h6 : x = 6
  · exact op_Q.ask (aMi (dA D)) h (fun E σ Q hc hq => eX9_told _ (by rw [if_neg h0, if_neg h1, if_neg h2, if_neg h3, if_neg h4, if_neg h5, if_pos h6, hc.2.1.1.1]; exact hq)) (fun E σ Q hm hq => eX10_told _ (by rw [if_neg h0, if_neg h1, if_neg h2, if_neg h3, if_neg h4, if_neg h5, if_pos h6]; exact ⟨vin (j := 0) (by decide) (by decide), by rw [show (Int32.toNatClampNeg 0) = 0 from rfl, hm.2.1.1.1]; exact hq⟩))
  by_cases h7 : x = 7
  · exact op_Q.ask (aMe (dA D)) h (fun E σ Q hc hq => eX9_told _ (by rw [if_neg h0, if_neg h1, if_neg h2, if_neg h3, if_neg h4, if_neg h5, if_neg h6, if_pos h7, hc.2.1.1.2]; exact hq)) (fun E σ Q hm hq => eX10_told _ (by rw [if_neg h0, if_neg h1, if_neg h2, if_neg h3, if_neg h4, if_neg h5, if_neg h6, if_pos h7]; exact ⟨vin (j := 1) (by decide) (by decide), by rw [show (Int32.toNatClampNeg 1) = 1 from rfl, hm.2.1.1.2]; exact hq⟩))
  by_cases h8 : x = 8
  · exact op_Q.ask (tA (dP D) (dA D) (-2)) h (fun E σ Q hc hq => eX9_told _ (by rw [if_neg h0, if_neg h1, if_neg h2, if_neg h3, if_neg h4, if_neg h5, if_neg h6, if_neg h7, if_pos h8]; exact sC_at h.1 h.2.1 hc.2.1 (by decide) hq)) (fun E σ Q hm hq => eX10_told _ (by rw [if_neg h0, if_neg h1, if_neg h2, if_neg h3, if_neg h4, if_neg h5, if_neg h6, if_neg h7, if_pos h8]; exact sM_at (b := 0) h.1 hm.1 (by decide) hm.2.1 _ hq))
  by_cases h9 : x = 9
  · exact op_Q.ask (tA (dP D) (dA D) (-1)) h (fun E σ Q hc hq => eX9_told _ (by rw [if_neg h0, if_neg h1, if_neg h2, if_neg h3, if_neg h4, if_neg h5, if_neg h6, if_neg h7, if_neg h8, if_pos h9]; exact sC_at h.1 h.2.1 hc.2.1 (by decide) hq)) (fun E σ Q hm hq => eX10_told _ (by rw [if_neg h0, if_neg h1, if_neg h2, if_neg h3, if_neg h4, if_neg h5, if_neg h6, if_neg h7, if_neg h8, if_pos h9]; exact sM_at (b := 0) h.1 hm.1 (by decide) hm.2.1 _ hq))
  by_cases h10 : x = 10
  · exact op_Q.ask (nI (vS (dP D) (tA (dP D) (dA D) (-2)))) h (fun E σ Q hc hq => eX9_told _ (by rw [if_neg h0, if_neg h1, if_neg h2, if_neg h3, if_neg h4, if_neg h5, if_neg h6, if_neg h7, if_neg h8, if_neg h9, if_pos h10]; exact sC_at h.1 h.2.1 hc.2.1 (by decide) (sC_worth h.1 hc.1 (tA_sml h.1 _ _) hq))) (fun E σ Q hm hq => eX10_told _ (by rw [if_neg h0, if_neg h1, if_neg h2, if_neg h3, if_neg h4, if_neg h5, if_neg h6, if_neg h7, if_neg h8, if_neg h9, if_pos h10]; exact sM_at (b := 0) h.1 hm.1 (by decide) hm.2.1 _ (sM_worth h.1 hm.1 _ hq)))
  by_cases h11 : x = 11
  · exact op_Q.ask (nI (dN D).1) h (fun E σ Q hc hq => eX9_told _ (by rw [if_neg h0, if_neg h1, if_neg h2, if_neg h3, if_neg h4, if_neg h5, if_neg h6, if_neg h7, if_neg h8, if_neg h9, if_neg h10, if_pos h11, hc.2.2.2.2.2.2.1.1]; exact hq)) (fun E σ Q hm hq => eX10_told _ (by rw [if_neg h0, if_neg h1, if_neg h2, if_neg h3, if_neg h4, if_neg h5, if_neg h6, if_neg h7, if_neg h8, if_neg h9, if_neg h10, if_pos h11, hm.2.2.2.2.2.2.1.1]; exact hq))
  by_cases h12 : x = 12
  · exact op_Q.ask (nI (dB D).1) h (fun E σ Q hc hq => eX9_told _ (by rw [if_neg h0, if_neg h1, if_neg h2, if_neg h3, if_neg h4, if_neg h5, if_neg h6, if_neg h7, if_neg h8, if_neg h9, if_neg h10, if_neg h11, if_pos h12, hc.2.2.2.2.2.2.1.2]; exact hq)) (fun E σ Q hm hq => eX10_told _ (by rw [if_neg h0, if_neg h1, if_neg h2, if_neg h3, if_neg h4, if_neg h5, if_neg h6, if_neg h7, if_neg h8, if_neg h9, if_neg h10, if_neg h11, if_pos h12, hm.2.2.2.2.2.2.1.2]; exact hq))
  by_cases h13 : x = 13
  · exact op_Q.ask (nI (dU D).1) h (fun E σ Q hc hq => eX9_told _ (by obtain ⟨_, _, _, hu, _⟩ := hc.2.2.2.1; rw [if_neg h0, if_neg h1, if_neg h2, if_neg h3, if_neg h4, if_neg h5, if_neg h6, if_neg h7, if_neg h8, if_neg h9, if_neg h10, if_neg h11, if_neg h12, if_pos h13, hu]; exact hq)) (fun E σ Q hm hq => eX10_told _ (by rw [if_neg h0, if_neg h1, if_neg h2, if_neg h3, if_neg h4, if_neg h5, if_neg h6, if_neg h7, if_neg h8, if_neg h9, if_neg h10, if_neg h11, if_neg h12, if_pos h13, hm.2.2.2.1.1]; exact hq))
  exact op_Q.ask (-1000000002) h (fun E σ Q hc hq => eX9_told _ (by rw [if_neg h0, if_neg h1, if_neg h2, if_neg h3, if_neg h4, if_neg h5, if_neg h6, if_neg h7, if_neg h8, if_neg h9, if_neg h10, if_neg h11, if_neg h12, if_neg h13]; exact hq)) (fun E σ Q hm hq => eX10_told _ (by rw [if_neg h0, if_neg h1, if_neg h2, if_neg h3, if_neg h4, if_neg h5, if_neg h6, if_neg h7, if_neg h8, if_neg h9, if_neg h10, if_neg h11, if_neg h12, if_neg h13]; exact hq))
theorem op_room {D : DD} (h : okD D) (x : Int32) : op_Q yX9_room iX9_room yX10_room iX10_room [.int x] D := by
  have h8 := h.1.1.1
  rcases vrng x (pn (dP D)) (by omega) with ⟨j, hj, rfl⟩ | hx
  · refine op_Q.ask (pJ (dP D) j) h (fun E σ Q hc hq => eX9_room _ ?_) (fun E σ Q hm hq => eX10_room _ ?_)
    · refine sc_hasRoom_t hc.1.1.1 h8 hj ?_
      rw [if_neg (by decide)]
      refine sc_joinedTo hc.1.1.1 h8 hj ?_
      rw [hc.1.2.1 j (by omega)]
      exact hq
    · refine sm_isRoom_t hm.1.1.1 h8 hj ?_
      rw [if_neg (by decide), vcl (by omega), hm.1.2.1 j (by omega)]
      exact ⟨vin (by omega) (by decide), hq⟩
  · refine op_Q.ask (-1000000001) h (fun E σ Q hc hq => eX9_room _ ?_) (fun E σ Q hm hq => eX10_room _ ?_)
    · refine sc_hasRoom_f hc.1.1.1 h8 hx ?_
      rw [if_pos rfl]
      exact hq
    · refine sm_isRoom_f hm.1.1.1 h8 hx ?_
      rw [if_pos rfl]
      exact hq
theorem op_thing {D : DD} (h : okD D) (x y : Int32) : op_Q yX9_thing iX9_thing yX10_thing iX10_thing [.int x, .int y] D := by
  have h8 := h.1.1.2.2.2.2.1
  rcases vrng x (pt (dP D)) (by omega) with ⟨j, hj, rfl⟩ | hx
  · have hc0 : ∀ {E : tp_E} {d : Nat} {σ : tp_M} {Q : Int32 → tp_M → Prop}, cR σ D → Q 1 σ → Ci E TC yX5_hasThing iX5_hasThing d [.ref 1, .int (nI j)] σ Q := fun hc hq => sc_hasThing_t hc.1.1.2.2.2.2.1 h8 hj hq
    have hm0 : ∀ {E : tp_E} {d : Nat} {σ : tp_M} {Q : Int32 → tp_M → Prop}, mR σ D → Q 1 σ → Ci E TM yX10_isThing iX10_isThing (d + 1) [.ref 0, .int (nI j)] σ Q := fun hm hq => sm_isThing_t hm.1.1.2.2.2.2.1 h8 hj hq
    by_cases h0 : y = 0
    · refine op_Q.ask (nI (pG (dP D) j)) h (fun E σ Q hc hq => eX9_thing _ _ (hc0 hc ?_)) (fun E σ Q hm hq => eX10_thing _ _ (hm0 hm ?_))
      · rw [if_neg (by decide), if_pos h0, vcl (by omega)]
        exact ⟨vin (by omega) (by decide), by rw [show σ 5 j = nI (pG (dP D) j) from (hc.1.2.2.2.1 j hj).1]; exact hq⟩
      · rw [if_neg (by decide), if_pos h0, vcl (by omega)]
        exact ⟨vin (by omega) (by decide), by rw [(hm.1.2.2.2.1 j hj).1]; exact hq⟩
    · by_cases h1 : y = 1
      · refine op_Q.ask (nI (pV (dP D) j)) h (fun E σ Q hc hq => eX9_thing _ _ (hc0 hc ?_)) (fun E σ Q hm hq => eX10_thing _ _ (hm0 hm ?_))
        · rw [if_neg (by decide), if_neg h0, if_pos h1, vcl (by omega)]
          exact ⟨vin (by omega) (by decide), by rw [show σ 6 j = nI (pV (dP D) j) from (hc.1.2.2.2.1 j hj).2]; exact hq⟩
        · rw [if_neg (by decide), if_neg h0, if_pos h1, vcl (by omega)]
          exact ⟨vin (by omega) (by decide), by rw [(hm.1.2.2.2.1 j hj).2]; exact hq⟩
      · by_cases h2 : y = 2
        · refine op_Q.ask (if 0 ≤ aPl (dA D) j then aPl (dA D) j / 2 else -1) h (fun E σ Q hc hq => eX9_thing _ _ (hc0 hc ?_)) (fun E σ Q hm hq => eX10_thing _ _ (hm0 hm ?_))
          · rw [if_neg (by decide), if_neg h0, if_neg h1, if_pos h2]
            refine sc_bearerOf (by omega) ?_
            rw [show σ 13 j = aPl (dA D) j from hc.2.1.2.2.2.2 j (by omega)]
            exact hq
          · rw [if_neg (by decide), if_neg h0, if_neg h1, if_pos h2]
            refine sm_whose (by omega) ?_
            have e : σ 1 (50 + j) = aPl (dA D) j := by have := hm.2.1.2.2.2.2 j hj; rw [Nat.zero_add] at this; exact this
            rw [e]
            exact hq
        · refine op_Q.ask (-1000000002) h (fun E σ Q hc hq => eX9_thing _ _ (hc0 hc ?_)) (fun E σ Q hm hq => eX10_thing _ _ (hm0 hm ?_))
          · rw [if_neg (by decide), if_neg h0, if_neg h1, if_neg h2]; exact hq
          · rw [if_neg (by decide), if_neg h0, if_neg h1, if_neg h2]; exact hq
  · refine op_Q.ask (-1000000001) h (fun E σ Q hc hq => eX9_thing _ _ ?_) (fun E σ Q hm hq => eX10_thing _ _ ?_)
    · refine sc_hasThing_f hc.1.1.2.2.2.2.1 h8 hx ?_
      rw [if_pos rfl]
      exact hq
    · refine sm_isThing_f hm.1.1.2.2.2.2.1 h8 hx ?_
      rw [if_pos rfl]
      exact hq
theorem op_waiter {D : DD} (h : okD D) (x y : Int32) : op_Q yX9_waiter iX9_waiter yX10_waiter iX10_waiter [.int x, .int y] D := by
  have h8 := h.1.1.2.2.2.1
  rcases vrng x (pw (dP D)) (by omega) with ⟨j, hj, rfl⟩ | hx
  · have hc0 : ∀ {E : tp_E} {d : Nat} {σ : tp_M} {Q : Int32 → tp_M → Prop}, cR σ D → Q 1 σ → Ci E TC yX5_hasWaiter iX5_hasWaiter d [.ref 1, .int (nI j)] σ Q := fun hc hq => sc_hasWaiter_t hc.1.1.2.2.2.1 h8 hj hq
    have hm0 : ∀ {E : tp_E} {d : Nat} {σ : tp_M} {Q : Int32 → tp_M → Prop}, mR σ D → Q 1 σ → Ci E TM yX10_isWaiter iX10_isWaiter (d + 1) [.ref 0, .int (nI j)] σ Q := fun hm hq => sm_isWaiter_t hm.1.1.2.2.2.1 h8 hj hq
    by_cases h0 : y = 0
    · refine op_Q.ask (nI (aAt (dA D) j)) h (fun E σ Q hc hq => eX9_waiter _ _ (hc0 hc ?_)) (fun E σ Q hm hq => eX10_waiter _ _ (hm0 hm ?_))
      · rw [if_neg (by decide), if_pos h0]
        refine sc_roomOf (by omega) ?_
        rw [show σ 10 j = nI (aAt (dA D) j) from hc.2.1.2.1 j hj]; exact hq
      · rw [if_neg (by decide), if_pos h0]
        have e : σ 1 (2 + j) = nI (aAt (dA D) j) := by have := hm.2.1.2.1 j hj; rw [Nat.zero_add] at this; exact this
        rw [lit_add 2, vcl (by omega), e]
        exact ⟨vin (by omega) (by decide), hq⟩
    by_cases h1 : y = 1
    · refine op_Q.ask (nI (pC (dP D) j)) h (fun E σ Q hc hq => eX9_waiter _ _ (hc0 hc ?_)) (fun E σ Q hm hq => eX10_waiter _ _ (hm0 hm ?_))
      · rw [if_neg (by decide), if_neg h0, if_pos h1]
        rw [vcl (by omega), show σ 4 j = nI (pC (dP D) j) from (hc.1.2.2.1 j hj).2]
        exact ⟨vin (by omega) (by decide), hq⟩
      · rw [if_neg (by decide), if_neg h0, if_pos h1]
        rw [vcl (by omega), hm.1.2.2.1 j hj]
        exact ⟨vin (by omega) (by decide), hq⟩
    by_cases h2 : y = 2
    · refine op_Q.ask (trayL (dP D) (dA D) j) h (fun E σ Q hc hq => eX9_waiter _ _ (hc0 hc ?_)) (fun E σ Q hm hq => eX10_waiter _ _ (hm0 hm ?_))
      · rw [if_neg (by decide), if_neg h0, if_neg h1, if_pos h2]
        exact sc_sideOf (s := 0) (sC_at h.1 h.2.1 hc.2.1 (ne_m3 _ (by omega)) hq)
      · rw [if_neg (by decide), if_neg h0, if_neg h1, if_pos h2]
        rw [two_k]
        exact sM_at (b := 0) h.1 hm.1 (by decide) hm.2.1 _ hq
    by_cases h3 : y = 3
    · refine op_Q.ask (trayR (dP D) (dA D) j) h (fun E σ Q hc hq => eX9_waiter _ _ (hc0 hc ?_)) (fun E σ Q hm hq => eX10_waiter _ _ (hm0 hm ?_))
      · rw [if_neg (by decide), if_neg h0, if_neg h1, if_neg h2, if_pos h3]
        exact sc_sideOf (s := 1) (sC_at h.1 h.2.1 hc.2.1 (ne_m3 _ (by omega)) hq)
      · rw [if_neg (by decide), if_neg h0, if_neg h1, if_neg h2, if_pos h3]
        rw [two_k1]
        exact sM_at (b := 0) h.1 hm.1 (by decide) hm.2.1 _ hq
    by_cases h4 : y = 4
    · refine op_Q.ask (nI (gS (dP D) (tray (dP D) (dA D) j))) h (fun E σ Q hc hq => eX9_waiter _ _ (hc0 hc ?_)) (fun E σ Q hm hq => eX10_waiter _ _ (hm0 hm ?_))
      · rw [if_neg (by decide), if_neg h0, if_neg h1, if_neg h2, if_neg h3, if_pos h4]
        exact sC_tray h.1 h.2.1 hc.2.1 (by omega) (sC_weight h.1 hc.1 (tray_sml h.1 _ _) hq)
      · rw [if_neg (by decide), if_neg h0, if_neg h1, if_neg h2, if_neg h3, if_pos h4]
        exact sM_tray (b := 0) h.1 hm.1 (by decide) hm.2.1 (sM_weight h.1 hm.1 _ hq)
    by_cases h5 : y = 5
    · refine op_Q.ask (slnt (dP D) (dA D) j) h (fun E σ Q hc hq => eX9_waiter _ _ (hc0 hc ?_)) (fun E σ Q hm hq => eX10_waiter _ _ (hm0 hm ?_))
      · rw [if_neg (by decide), if_neg h0, if_neg h1, if_neg h2, if_neg h3, if_neg h4, if_pos h5]
        exact sC_slant h.1 hc.1 h.2.1 hc.2.1 (by omega) hq
      · rw [if_neg (by decide), if_neg h0, if_neg h1, if_neg h2, if_neg h3, if_neg h4, if_pos h5]
        exact sM_slant (b := 0) h.1 hm.1 (by decide) hm.2.1 hq
    by_cases h6 : y = 6
    · refine op_Q.ask (nI (nd (aRt (dA D) j))) h (fun E σ Q hc hq => eX9_waiter _ _ (hc0 hc ?_)) (fun E σ Q hm hq => eX10_waiter _ _ (hm0 hm ?_))
      · rw [if_neg (by decide), if_neg h0, if_neg h1, if_neg h2, if_neg h3, if_neg h4, if_neg h5, if_pos h6]
        refine sc_routeOf (by omega) ?_
        rw [show σ 11 j = nI (aRt (dA D) j) from hc.2.1.2.2.1 j (by omega)]
        exact sc_stepsOf (by have := okA_rt h.2.1 j; omega) hq
      · rw [if_neg (by decide), if_neg h0, if_neg h1, if_neg h2, if_neg h3, if_neg h4, if_neg h5, if_pos h6]
        have e : σ 1 (6 + j) = nI (nd (aRt (dA D) j)) := by have := (hm.2.1.2.2.1 j hj).1; rw [Nat.zero_add] at this; exact this
        rw [lit_add 6, vcl (by omega), e]
        exact ⟨vin (by omega) (by decide), hq⟩
    by_cases h7 : y = 7
    · refine op_Q.ask (aTr (dA D) j) h (fun E σ Q hc hq => eX9_waiter _ _ (hc0 hc ?_)) (fun E σ Q hm hq => eX10_waiter _ _ (hm0 hm ?_))
      · rw [if_neg (by decide), if_neg h0, if_neg h1, if_neg h2, if_neg h3, if_neg h4, if_neg h5, if_neg h6, if_pos h7]
        refine sc_treatiesOf (by omega) ?_
        rw [show σ 12 j = aTr (dA D) j from hc.2.1.2.2.2.1 j hj]; exact hq
      · rw [if_neg (by decide), if_neg h0, if_neg h1, if_neg h2, if_neg h3, if_neg h4, if_neg h5, if_neg h6, if_pos h7]
        have e : σ 1 (46 + j) = aTr (dA D) j := by have := hm.2.1.2.2.2.1 j hj; rw [Nat.zero_add] at this; exact this
        rw [lit_add 46, vcl (by omega), e]
        exact ⟨vin (by omega) (by decide), hq⟩
    refine op_Q.ask (-1000000002) h (fun E σ Q hc hq => eX9_waiter _ _ (hc0 hc ?_)) (fun E σ Q hm hq => eX10_waiter _ _ (hm0 hm ?_))
    · rw [if_neg (by decide), if_neg h0, if_neg h1, if_neg h2, if_neg h3, if_neg h4, if_neg h5, if_neg h6, if_neg h7]; exact hq
    · rw [if_neg (by decide), if_neg h0, if_neg h1, if_neg h2, if_neg h3, if_neg h4, if_neg h5, if_neg h6, if_neg h7]; exact hq
  · refine op_Q.ask (-1000000001) h (fun E σ Q hc hq => eX9_waiter _ _ ?_) (fun E σ Q hm hq => eX10_waiter _ _ ?_)
    · refine sc_hasWaiter_f hc.1.1.2.2.2.1 h8 hx ?_
      rw [if_pos rfl]
      exact hq
    · refine sm_isWaiter_f hm.1.1.2.2.2.1 h8 hx ?_
      rw [if_pos rfl]
      exact hq

theorem nI_1L (n : Nat) : nI n + 1 = nI (n + 1) := nI_1 n
theorem op_seed {D : DD} (h : okD D) (x : Int32) : op_Q yX9_seed iX9_seed yX10_seed iX10_seed [.int x] D := by
  by_cases h0 : 0 ≤ x
  · refine ⟨dZ D, (D.1, D.2.1, x, D.2.2.2), ⟨h.1, h.2.1, h0, h.2.2.2⟩, fun E σ Q hc hq => eX9_seed _ ?_, fun E σ Q hm hq => eX10_seed _ ?_⟩
    · rw [if_pos h0, hc.2.2.1]
      obtain ⟨h1, h2, h3, h4, h5, h6, h7⟩ := hc
      refine hq _ ⟨h1.fr (fun q a b => uu3 σ 3 x (by omega)), h2.fr (fun q a b => uu3 σ 3 x (by omega)), uu1 σ 139 3 x, h4.fr (fun q a b => uu3 σ 3 x (by omega)), ⟨h5.1.fr (fun q a b => uu3 σ 3 x (by omega)), h5.2.fr (fun q a b => uu3 σ 3 x (by omega))⟩, h6.fr (congrFun (uu3 σ 3 x (by omega)) 2) (congrFun (uu3 σ 3 x (by omega)) 3) (uu3 σ 3 x (by omega)), h7.fr (fun q a b => uu3 σ 3 x (by omega))⟩
    · rw [if_pos h0, show Int32.toNatClampNeg 58 = 58 from rfl, hm.2.2.1]
      refine ⟨vin (j := 58) (by decide) (by decide), vin (j := 58) (by decide) (by decide), ?_⟩
      have hw : pw (dP D) ≤ 4 := h.1.1.2.2.2.1
      have ht : pt (dP D) ≤ 8 := h.1.1.2.2.2.2.1
      obtain ⟨g1, g2, g3, g4, g5, g6, g7⟩ := hm
      refine hq _ ⟨g1.fr (fun k a => congrFun (uu3 σ 58 x (by omega)) k) (fun q a b => uu3 σ 58 x (by omega)), g2.fr hw ht (fun i a b => uu2 σ 1 x (by omega)), uu1 σ 1 58 x, g4.fr hw ht h.2.2.2.1.1 (congrFun (uu3 σ 58 x (by omega)) 2) (fun i a b => uu2 σ 1 x (by omega)), ⟨g5.1.fr hw ht (congrFun (uu3 σ 58 x (by omega)) 0) (fun q a b => uu2 σ 1 x (by omega)), g5.2.fr hw ht (congrFun (uu3 σ 58 x (by omega)) 1) (fun q a b => uu2 σ 1 x (by omega))⟩, g6.fr (congrFun (uu3 σ 58 x (by omega)) 16) (congrFun (uu3 σ 58 x (by omega)) 21) (uu3 σ 58 x (by omega)), g7.fr (congrFun (uu3 σ 58 x (by omega)) 39) (congrFun (uu3 σ 58 x (by omega)) 43) (fun q a b => uu3 σ 58 x (by omega))⟩
  · exact op_Q.ask (-1000000002) h (fun E σ Q hc hq => eX9_seed _ (by rw [if_neg h0]; exact hq)) (fun E σ Q hm hq => eX10_seed _ (by rw [if_neg h0]; exact hq))
theorem char_id {c : Nat} (h : c ≤ 255) : (Int32.toUInt32 (nI c) % 65536).toInt32 = nI c := by
  rw [pk_char, pk_tn (by omega), Nat.mod_eq_of_lt (by omega)]
theorem op_feed {D : DD} (h : okD D) (x : Int32) : op_Q yX9_feed iX9_feed yX10_feed iX10_feed [.int x] D := by
  have hL := h.2.2.2.2.2.1.1
  rcases rng x 0 255 (by decide) with ⟨c, -, hc5, rfl⟩ | hx
  · by_cases hf : (dT D).1 < 240
    · refine ⟨nI ((dT D).1 + 1), (D.1, D.2.1, D.2.2.1, D.2.2.2.1, D.2.2.2.2.1, ((dT D).1 + 1, (fun i => if i = (dT D).1 then c else (dT D).2.1 i), (dT D).2.2), D.2.2.2.2.2.2), ?_, fun E σ Q hc hq => eX9_feed _ ?_, fun E σ Q hm hq => eX10_feed _ ?_⟩
      · obtain ⟨k1, k2, k3, k4, k5, k6, k7⟩ := h
        refine ⟨k1, k2, k3, k4, k5, ⟨by show (dT D).1 + 1 ≤ 240; omega, fun i hi => ?_⟩, k7⟩
        show (if i = (dT D).1 then c else (dT D).2.1 i) ≤ 255
        by_cases hi2 : i = (dT D).1
        · rw [if_pos hi2]; exact hc5
        · rw [if_neg hi2]; exact k6.2 i (by have : i < (dT D).1 + 1 := hi; omega)
      · rw [if_neg (nI_pos (by omega)), if_pos (nI_leL 255 hc5 (by decide))]
        obtain ⟨h1, h2, h3, h4, h5, h6, h7⟩ := hc
        refine eX6_append _ ?_
        rw [h6.1, if_pos (nI_ltL 240 hf (by decide)), vcl (by omega), char_id hc5]
        refine ⟨vin hf (by decide), ?_, ?_⟩
        · rw [← char_id hc5]; exact pk_nc _
        rw [if_neg (by decide)]
        have e1 : tp_u σ 36 (dT D).1 (nI c) 27 2 = nI (dT D).1 := (congrFun (uu3 σ (dT D).1 (nI c) (by omega)) 2).trans h6.1
        rw [e1, uu1, nI_1]
        have fr : ∀ q, q ≠ 27 → q ≠ 36 → tp_u (tp_u σ 36 (dT D).1 (nI c)) 27 2 (nI ((dT D).1 + 1)) q = σ q := fun q a b => by rw [uu3 _ _ _ a, uu3 _ _ _ b]
        refine hq _ ⟨h1.fr (fun q a b => fr q (by omega) (by omega)), h2.fr (fun q a b => fr q (by omega) (by omega)), by rw [fr 139 (by omega) (by omega)]; exact h3, h4.fr (fun q a b => fr q (by omega) (by omega)), ⟨h5.1.fr (fun q a b => fr q (by omega) (by omega)), h5.2.fr (fun q a b => fr q (by omega) (by omega))⟩, ⟨uu1 _ 27 2 _, fun i hi => ?_, ?_⟩, h7.fr (fun q a b => fr q (by omega) (by omega))⟩
        · rw [uu3 _ _ _ (show (36 : Nat) ≠ 27 by omega)]
          show tp_u σ 36 (dT D).1 (nI c) 36 i = nI (if i = (dT D).1 then c else (dT D).2.1 i)
          by_cases hi2 : i = (dT D).1
          · rw [if_pos hi2, hi2, uu1]
          · rw [if_neg hi2, uu2 _ _ _ hi2]
            exact h6.2.1 i (by have : i < (dT D).1 + 1 := hi; omega)
        · rw [uu2 _ _ _ (by omega), uu3 _ _ _ (by omega)]
          exact h6.2.2
      · refine sm_inL_t 0 255 (by omega) hc5 (by decide) ?_
        obtain ⟨g1, g2, g3, g4, g5, g6, g7⟩ := hm
        have hw : pw (dP D) ≤ 4 := h.1.1.2.2.2.1
        have ht : pt (dP D) ≤ 8 := h.1.1.2.2.2.2.1
        rw [if_neg (by decide), g6.1, if_neg (by rw [nI_eqL 240 (by omega) (by decide)]; omega), vcl (by omega)]
        refine ⟨vin hf (by decide), ?_⟩
        have e1 : tp_u σ 9 (dT D).1 (nI c) 0 16 = nI (dT D).1 := (congrFun (uu3 σ (dT D).1 (nI c) (by omega)) 16).trans g6.1
        rw [e1, uu1, nI_1]
        have fr : ∀ q, q ≠ 0 → q ≠ 9 → tp_u (tp_u σ 9 (dT D).1 (nI c)) 0 16 (nI ((dT D).1 + 1)) q = σ q := fun q a b => by rw [uu3 _ _ _ a, uu3 _ _ _ b]
        have f0 : ∀ k, k ≠ 16 → tp_u (tp_u σ 9 (dT D).1 (nI c)) 0 16 (nI ((dT D).1 + 1)) 0 k = σ 0 k := fun k a => by rw [uu2 _ _ _ a, uu3 _ _ _ (by omega)]
        refine hq _ ⟨g1.fr (fun k a => f0 k (by omega)) (fun q a b => fr q (by omega) (by omega)), g2.fr hw ht (fun i a b => by rw [fr 1 (by omega) (by omega)]), by rw [fr 1 (by omega) (by omega)]; exact g3, g4.fr hw ht h.2.2.2.1.1 (f0 2 (by omega)) (fun i a b => by rw [fr 1 (by omega) (by omega)]), ⟨g5.1.fr hw ht (by rw [fr 2 (by omega) (by omega)]) (fun q a b => by rw [fr 1 (by omega) (by omega)]), g5.2.fr hw ht (by rw [fr 2 (by omega) (by omega)]) (fun q a b => by rw [fr 1 (by omega) (by omega)])⟩, ⟨uu1 _ 0 16 _, fun i hi => ?_, ?_⟩, g7.fr (f0 39 (by omega)) (f0 43 (by omega)) (fun q a b => fr q (by omega) (by omega))⟩
        · rw [uu3 _ _ _ (show (9 : Nat) ≠ 0 by omega)]
          show tp_u σ 9 (dT D).1 (nI c) 9 i = nI (if i = (dT D).1 then c else (dT D).2.1 i)
          by_cases hi2 : i = (dT D).1
          · rw [if_pos hi2, hi2, uu1]
          · rw [if_neg hi2, uu2 _ _ _ hi2]
            exact g6.2.1 i (by have : i < (dT D).1 + 1 := hi; omega)
        · rw [f0 21 (by omega)]
          exact g6.2.2
    · have hL2 : (dT D).1 = 240 := by omega
      refine op_Q.ask (-1000000004) h (fun E σ Q hc hq => eX9_feed _ ?_) (fun E σ Q hm hq => eX10_feed _ ?_)
      · rw [if_neg (nI_pos (by omega)), if_pos (nI_leL 255 hc5 (by decide))]
        refine eX6_append _ ?_
        rw [hc.2.2.2.2.2.1.1, if_neg (nI_nltL 240 (by omega) (by omega)), if_pos rfl]
        exact hq
      · refine sm_inL_t 0 255 (by omega) hc5 (by decide) ?_
        rw [if_neg (by decide), hm.2.2.2.2.2.1.1, if_pos (by rw [nI_eqL 240 (by omega) (by decide)]; omega)]
        exact hq
  · refine op_Q.ask (-1000000002) h (fun E σ Q hc hq => eX9_feed _ ?_) (fun E σ Q hm hq => eX10_feed _ ?_)
    · by_cases h0 : x < 0
      · rw [if_pos h0]; exact hq
      · rw [if_neg h0, if_neg]
        · exact hq
        · intro q
          rw [fa_lt] at h0
          rw [fa_le, lit_t 255 (by decide)] at q
          have e : (0 : Int32).toInt = 0 := by decide
          omega
    · refine sm_inL_f 0 255 hx (by decide) (by decide) ?_
      rw [if_pos rfl]
      exact hq
theorem bI_01 (b : Bool) : bI b = 0 ∨ bI b = 1 := by cases b <;> decide
theorem op_see {D : DD} (h : okD D) (x y : Int32) (pk : Bool) : op_Q yX9_see iX9_see yX10_see iX10_see [.int x, .int y, .int (bI pk)] D := by
  have h8 := h.1.1.1
  have hs := h.2.2.2.2.2.2.1.1
  rcases vrng x (pn (dP D)) (by omega) with ⟨r, hr, rfl⟩ | hx
  · rcases rng y 1 20 (by decide) with ⟨n, hn1, hn2, rfl⟩ | hy
    · by_cases hf : (dN D).1 < 6
      · refine ⟨nI ((dN D).1 + 1), (D.1, D.2.1, D.2.2.1, D.2.2.2.1, D.2.2.2.2.1, D.2.2.2.2.2.1, ((dN D).1 + 1, fun i => if i = (dN D).1 then (r, n, pk) else (dN D).2 i), D.2.2.2.2.2.2.2), ?_, fun E σ Q hc hq => eX9_see _ _ _ ?_, fun E σ Q hm hq => eX10_see _ _ _ ?_⟩
        · obtain ⟨k1, k2, k3, k4, k5, k6, k7, k8⟩ := h
          refine ⟨k1, k2, k3, k4, k5, k6, ⟨by show (dN D).1 + 1 ≤ 6; omega, fun i hi => ?_⟩, k8⟩
          show (if i = (dN D).1 then (r, n, pk) else (dN D).2 i).1 < _ ∧ 1 ≤ (if i = (dN D).1 then (r, n, pk) else (dN D).2 i).2.1 ∧ (if i = (dN D).1 then (r, n, pk) else (dN D).2 i).2.1 ≤ 20
          by_cases hi2 : i = (dN D).1
          · rw [if_pos hi2]; exact ⟨hr, hn1, hn2⟩
          · rw [if_neg hi2]; exact k7.2 i (by have : i < (dN D).1 + 1 := hi; omega)
        · refine sc_hasRoom_t hc.1.1.1 h8 hr ?_
          rw [if_neg (by decide)]
          refine sc_fore_t 1 hn1 hn2 ?_
          rw [if_neg (by decide)]
          obtain ⟨h1, h2, h3, h4, h5, h6, h7⟩ := hc
          refine eX3_addSight _ _ _ ?_
          have e0 : σ 151 7 = nI (dN D).1 := h7.1.1
          have a1 : tp_u σ 152 (dN D).1 (nI r) 151 7 = nI (dN D).1 := (congrFun (uu3 σ (dN D).1 (nI r) (by omega)) 7).trans e0
          have a2 : tp_u (tp_u σ 152 (dN D).1 (nI r)) 153 (dN D).1 (nI n) 151 7 = nI (dN D).1 := (congrFun (uu3 _ (dN D).1 (nI n) (by omega)) 7).trans a1
          have a3 : tp_u (tp_u (tp_u σ 152 (dN D).1 (nI r)) 153 (dN D).1 (nI n)) 154 (dN D).1 (bI pk) 151 7 = nI (dN D).1 := (congrFun (uu3 _ (dN D).1 (bI pk) (by omega)) 7).trans a2
          rw [e0, if_pos (nI_ltL 6 hf (by decide)), vcl (by omega), a1, vcl (by omega), a2, vcl (by omega), a3, nI_1]
          refine ⟨vin hf (by decide), vin hf (by decide), vin hf (by decide), bI_01 pk, ?_⟩
          rw [if_neg (by decide), uu1]
          generalize hσ : tp_u (tp_u (tp_u σ 152 (dN D).1 (nI r)) 153 (dN D).1 (nI n)) 154 (dN D).1 (bI pk) = σ1
          have fr : ∀ q, q < 151 ∨ 154 < q → tp_u σ1 151 7 (nI ((dN D).1 + 1)) q = σ q := fun q a => by rw [uu3 _ _ _ (by omega), ← hσ, uu3 _ _ _ (by omega), uu3 _ _ _ (by omega), uu3 _ _ _ (by omega)]
          refine hq _ ⟨h1.fr (fun q a b => fr q (by omega)), h2.fr (fun q a b => fr q (by omega)), by rw [fr 139 (by omega)]; exact h3, h4.fr (fun q a b => fr q (by omega)), ⟨h5.1.fr (fun q a b => fr q (by omega)), h5.2.fr (fun q a b => fr q (by omega))⟩, h6.fr (congrFun (fr 27 (by omega)) 2) (congrFun (fr 27 (by omega)) 3) (fr 36 (by omega)), ⟨uu1 _ 151 7 _, ?_⟩, fun i hi => ?_, fun i hi => ?_⟩
          · rw [uu2 _ _ _ (by omega), ← hσ, uu3 _ _ _ (by omega), uu3 _ _ _ (by omega), uu3 _ _ _ (by omega)]
            exact h7.1.2
          · rw [uu3 _ _ _ (show (152 : Nat) ≠ 151 by omega), uu3 _ _ _ (show (153 : Nat) ≠ 151 by omega), uu3 _ _ _ (show (154 : Nat) ≠ 151 by omega), ← hσ]
            rw [uu3 _ _ _ (show (152 : Nat) ≠ 154 by omega), uu3 _ _ _ (show (152 : Nat) ≠ 153 by omega), uu3 _ _ _ (show (153 : Nat) ≠ 154 by omega)]
            show tp_u σ 152 (dN D).1 (nI r) 152 i = nI (if i = (dN D).1 then (r, n, pk) else (dN D).2 i).1 ∧ tp_u (tp_u σ 152 (dN D).1 (nI r)) 153 (dN D).1 (nI n) 153 i = nI (if i = (dN D).1 then (r, n, pk) else (dN D).2 i).2.1 ∧ tp_u (tp_u (tp_u σ 152 (dN D).1 (nI r)) 153 (dN D).1 (nI n)) 154 (dN D).1 (bI pk) 154 i = bI (if i = (dN D).1 then (r, n, pk) else (dN D).2 i).2.2
            by_cases hi2 : i = (dN D).1
            · rw [if_pos hi2, hi2, uu1, uu1, uu1]; exact ⟨rfl, rfl, rfl⟩
            · rw [if_neg hi2, uu2 _ _ _ hi2, uu2 _ _ _ hi2, uu2 _ _ _ hi2, uu3 _ _ _ (by omega), uu3 _ _ _ (by omega), uu3 _ _ _ (by omega)]
              exact h7.2.1 i (by have : i < (dN D).1 + 1 := hi; omega)
          · rw [fr 155 (by omega), fr 156 (by omega)]
            exact h7.2.2 i hi
        · refine sm_isRoom_t hm.1.1.1 h8 hr ?_
          rw [if_neg (by decide)]
          refine sm_inL_t 1 20 hn1 hn2 (by decide) ?_
          obtain ⟨g1, g2, g3, g4, g5, g6, g7⟩ := hm
          have hw : pw (dP D) ≤ 4 := h.1.1.2.2.2.1
          have ht : pt (dP D) ≤ 8 := h.1.1.2.2.2.2.1
          have e0 : σ 0 39 = nI (dN D).1 := g7.1.1
          have a1 : tp_u σ 21 (dN D).1 (nI r) 0 39 = nI (dN D).1 := (congrFun (uu3 σ (dN D).1 (nI r) (by omega)) 39).trans e0
          have a2 : tp_u (tp_u σ 21 (dN D).1 (nI r)) 22 (dN D).1 (nI n) 0 39 = nI (dN D).1 := (congrFun (uu3 _ (dN D).1 (nI n) (by omega)) 39).trans a1
          have a3 : tp_u (tp_u (tp_u σ 21 (dN D).1 (nI r)) 22 (dN D).1 (nI n)) 23 (dN D).1 (bI pk) 0 39 = nI (dN D).1 := (congrFun (uu3 _ (dN D).1 (bI pk) (by omega)) 39).trans a2
          rw [if_neg (by decide), e0, if_neg (by rw [nI_eqL 6 (by omega) (by decide)]; omega), vcl (by omega), a1, vcl (by omega), a2, vcl (by omega), a3, nI_1]
          refine ⟨vin hf (by decide), vin hf (by decide), vin hf (by decide), bI_01 pk, ?_⟩
          rw [uu1]
          generalize hσ : tp_u (tp_u (tp_u σ 21 (dN D).1 (nI r)) 22 (dN D).1 (nI n)) 23 (dN D).1 (bI pk) = σ1
          have fr : ∀ q, q ≠ 0 → (q < 21 ∨ 23 < q) → tp_u σ1 0 39 (nI ((dN D).1 + 1)) q = σ q := fun q b a => by rw [uu3 _ _ _ b, ← hσ, uu3 _ _ _ (by omega), uu3 _ _ _ (by omega), uu3 _ _ _ (by omega)]
          have f0 : ∀ k, k ≠ 39 → tp_u σ1 0 39 (nI ((dN D).1 + 1)) 0 k = σ 0 k := fun k a => by rw [uu2 _ _ _ a, ← hσ, uu3 _ _ _ (by omega), uu3 _ _ _ (by omega), uu3 _ _ _ (by omega)]
          refine hq _ ⟨g1.fr (fun k a => f0 k (by omega)) (fun q a b => fr q (by omega) (by omega)), g2.fr hw ht (fun i a b => by rw [fr 1 (by omega) (by omega)]), by rw [fr 1 (by omega) (by omega)]; exact g3, g4.fr hw ht h.2.2.2.1.1 (f0 2 (by omega)) (fun i a b => by rw [fr 1 (by omega) (by omega)]), ⟨g5.1.fr hw ht (by rw [fr 2 (by omega) (by omega)]) (fun q a b => by rw [fr 1 (by omega) (by omega)]), g5.2.fr hw ht (by rw [fr 2 (by omega) (by omega)]) (fun q a b => by rw [fr 1 (by omega) (by omega)])⟩, g6.fr (f0 16 (by omega)) (f0 21 (by omega)) (fr 9 (by omega) (by omega)), ⟨uu1 _ 0 39 _, (f0 43 (by omega)).trans g7.1.2⟩, fun i hi => ?_, fun i hi => ?_⟩
          · rw [uu3 _ _ _ (show (21 : Nat) ≠ 0 by omega), uu3 _ _ _ (show (22 : Nat) ≠ 0 by omega), uu3 _ _ _ (show (23 : Nat) ≠ 0 by omega), ← hσ]
            rw [uu3 _ _ _ (show (21 : Nat) ≠ 23 by omega), uu3 _ _ _ (show (21 : Nat) ≠ 22 by omega), uu3 _ _ _ (show (22 : Nat) ≠ 23 by omega)]
            show tp_u σ 21 (dN D).1 (nI r) 21 i = nI (if i = (dN D).1 then (r, n, pk) else (dN D).2 i).1 ∧ tp_u (tp_u σ 21 (dN D).1 (nI r)) 22 (dN D).1 (nI n) 22 i = nI (if i = (dN D).1 then (r, n, pk) else (dN D).2 i).2.1 ∧ tp_u (tp_u (tp_u σ 21 (dN D).1 (nI r)) 22 (dN D).1 (nI n)) 23 (dN D).1 (bI pk) 23 i = bI (if i = (dN D).1 then (r, n, pk) else (dN D).2 i).2.2
            by_cases hi2 : i = (dN D).1
            · rw [if_pos hi2, hi2, uu1, uu1, uu1]; exact ⟨rfl, rfl, rfl⟩
            · rw [if_neg hi2, uu2 _ _ _ hi2, uu2 _ _ _ hi2, uu2 _ _ _ hi2, uu3 _ _ _ (by omega), uu3 _ _ _ (by omega), uu3 _ _ _ (by omega)]
              exact g7.2.1 i (by have : i < (dN D).1 + 1 := hi; omega)
          · rw [fr 24 (by omega) (by omega), fr 25 (by omega) (by omega)]
            exact g7.2.2 i hi
      · refine op_Q.ask (-1000000004) h (fun E σ Q hc hq => eX9_see _ _ _ ?_) (fun E σ Q hm hq => eX10_see _ _ _ ?_)
        · refine sc_hasRoom_t hc.1.1.1 h8 hr ?_
          rw [if_neg (by decide)]
          refine sc_fore_t 1 hn1 hn2 ?_
          rw [if_neg (by decide)]
          refine eX3_addSight _ _ _ ?_
          rw [hc.2.2.2.2.2.2.1.1, if_neg (nI_nltL 6 (by omega) (by omega)), if_pos rfl]
          exact hq
        · refine sm_isRoom_t hm.1.1.1 h8 hr ?_
          rw [if_neg (by decide)]
          refine sm_inL_t 1 20 hn1 hn2 (by decide) ?_
          rw [if_neg (by decide), hm.2.2.2.2.2.2.1.1, if_pos (by rw [nI_eqL 6 (by omega) (by decide)]; omega)]
          exact hq
    · refine op_Q.ask (-1000000002) h (fun E σ Q hc hq => eX9_see _ _ _ ?_) (fun E σ Q hm hq => eX10_see _ _ _ ?_)
      · refine sc_hasRoom_t hc.1.1.1 h8 hr ?_
        rw [if_neg (by decide)]
        refine sc_fore_f 1 hy (by decide) ?_
        rw [if_pos rfl]
        exact hq
      · refine sm_isRoom_t hm.1.1.1 h8 hr ?_
        rw [if_neg (by decide)]
        refine sm_inL_f 1 20 hy (by decide) (by decide) ?_
        rw [if_pos rfl]
        exact hq
  · refine op_Q.ask (-1000000001) h (fun E σ Q hc hq => eX9_see _ _ _ ?_) (fun E σ Q hm hq => eX10_see _ _ _ ?_)
    · refine sc_hasRoom_f hc.1.1.1 h8 hx ?_
      rw [if_pos rfl]
      exact hq
    · refine sm_isRoom_f hm.1.1.1 h8 hx ?_
      rw [if_pos rfl]
      exact hq
theorem op_write {D : DD} (h : okD D) (x y : Int32) : op_Q yX9_write iX9_write yX10_write iX10_write [.int x, .int y] D := by
  have h8 := h.1.1.1
  have h4 := h.1.1.2.2.2.1
  have hs := h.2.2.2.2.2.2.2.1
  rcases vrng x (pw (dP D)) (by omega) with ⟨k, hk, rfl⟩ | hx
  · rcases vrng y (pn (dP D)) (by omega) with ⟨r, hr, rfl⟩ | hy
    · by_cases hf : (dB D).1 < 15
      · refine ⟨nI ((dB D).1 + 1), (D.1, D.2.1, D.2.2.1, D.2.2.2.1, D.2.2.2.2.1, D.2.2.2.2.2.1, D.2.2.2.2.2.2.1, ((dB D).1 + 1, fun i => if i = (dB D).1 then (k, r) else (dB D).2 i)), ?_, fun E σ Q hc hq => eX9_write _ _ ?_, fun E σ Q hm hq => eX10_write _ _ ?_⟩
        · obtain ⟨k1, k2, k3, k4, k5, k6, k7, k8⟩ := h
          refine ⟨k1, k2, k3, k4, k5, k6, k7, ⟨by show (dB D).1 + 1 ≤ 15; omega, fun i hi => ?_⟩⟩
          show (if i = (dB D).1 then (k, r) else (dB D).2 i).1 < _ ∧ (if i = (dB D).1 then (k, r) else (dB D).2 i).2 < _
          by_cases hi2 : i = (dB D).1
          · rw [if_pos hi2]; exact ⟨hk, hr⟩
          · rw [if_neg hi2]; exact k8.2 i (by have : i < (dB D).1 + 1 := hi; omega)
        · refine sc_hasWaiter_t hc.1.1.2.2.2.1 h4 hk ?_
          rw [if_neg (by decide)]
          refine sc_hasRoom_t hc.1.1.1 h8 hr ?_
          rw [if_neg (by decide)]
          obtain ⟨h1, h2, h3, h4, h5, h6, h7⟩ := hc
          refine eX3_addEntry _ _ ?_
          have e0 : σ 151 8 = nI (dB D).1 := h7.1.2
          have a1 : tp_u σ 155 (dB D).1 (nI k) 151 8 = nI (dB D).1 := (congrFun (uu3 σ (dB D).1 (nI k) (by omega)) 8).trans e0
          have a2 : tp_u (tp_u σ 155 (dB D).1 (nI k)) 156 (dB D).1 (nI r) 151 8 = nI (dB D).1 := (congrFun (uu3 _ (dB D).1 (nI r) (by omega)) 8).trans a1
          rw [e0, if_pos (nI_ltL 15 hf (by decide)), vcl (by omega), a1, vcl (by omega), a2, nI_1]
          refine ⟨vin hf (by decide), vin hf (by decide), ?_⟩
          rw [if_neg (by decide), uu1]
          generalize hσ : tp_u (tp_u σ 155 (dB D).1 (nI k)) 156 (dB D).1 (nI r) = σ1
          have fr : ∀ q, q ≠ 151 → q < 155 → tp_u σ1 151 8 (nI ((dB D).1 + 1)) q = σ q := fun q b a => by rw [uu3 _ _ _ b, ← hσ, uu3 _ _ _ (by omega), uu3 _ _ _ (by omega)]
          refine hq _ ⟨h1.fr (fun q a b => fr q (by omega) (by omega)), h2.fr (fun q a b => fr q (by omega) (by omega)), by rw [fr 139 (by omega) (by omega)]; exact h3, h4.fr (fun q a b => fr q (by omega) (by omega)), ⟨h5.1.fr (fun q a b => fr q (by omega) (by omega)), h5.2.fr (fun q a b => fr q (by omega) (by omega))⟩, h6.fr (congrFun (fr 27 (by omega) (by omega)) 2) (congrFun (fr 27 (by omega) (by omega)) 3) (fr 36 (by omega) (by omega)), ⟨?_, uu1 _ 151 8 _⟩, fun i hi => ?_, fun i hi => ?_⟩
          · rw [uu2 _ _ _ (by omega), ← hσ, uu3 _ _ _ (by omega), uu3 _ _ _ (by omega)]
            exact h7.1.1
          · rw [fr 152 (by omega) (by omega), fr 153 (by omega) (by omega), fr 154 (by omega) (by omega)]
            exact h7.2.1 i hi
          · rw [uu3 _ _ _ (show (155 : Nat) ≠ 151 by omega), uu3 _ _ _ (show (156 : Nat) ≠ 151 by omega), ← hσ, uu3 _ _ _ (show (155 : Nat) ≠ 156 by omega)]
            show tp_u σ 155 (dB D).1 (nI k) 155 i = nI (if i = (dB D).1 then (k, r) else (dB D).2 i).1 ∧ tp_u (tp_u σ 155 (dB D).1 (nI k)) 156 (dB D).1 (nI r) 156 i = nI (if i = (dB D).1 then (k, r) else (dB D).2 i).2
            by_cases hi2 : i = (dB D).1
            · rw [if_pos hi2, hi2, uu1, uu1]; exact ⟨rfl, rfl⟩
            · rw [if_neg hi2, uu2 _ _ _ hi2, uu2 _ _ _ hi2, uu3 _ _ _ (by omega)]
              exact h7.2.2 i (by have : i < (dB D).1 + 1 := hi; omega)
        · refine sm_isWaiter_t hm.1.1.2.2.2.1 h4 hk ?_
          rw [if_neg (by decide)]
          refine sm_isRoom_t hm.1.1.1 h8 hr ?_
          obtain ⟨g1, g2, g3, g4, g5, g6, g7⟩ := hm
          have hw : pw (dP D) ≤ 4 := h.1.1.2.2.2.1
          have ht : pt (dP D) ≤ 8 := h.1.1.2.2.2.2.1
          have e0 : σ 0 43 = nI (dB D).1 := g7.1.2
          have a1 : tp_u σ 24 (dB D).1 (nI k) 0 43 = nI (dB D).1 := (congrFun (uu3 σ (dB D).1 (nI k) (by omega)) 43).trans e0
          have a2 : tp_u (tp_u σ 24 (dB D).1 (nI k)) 25 (dB D).1 (nI r) 0 43 = nI (dB D).1 := (congrFun (uu3 _ (dB D).1 (nI r) (by omega)) 43).trans a1
          rw [if_neg (by decide), e0, if_neg (by rw [nI_eqL 15 (by omega) (by decide)]; omega), vcl (by omega), a1, vcl (by omega), a2, nI_1]
          refine ⟨vin hf (by decide), vin hf (by decide), ?_⟩
          rw [uu1]
          generalize hσ : tp_u (tp_u σ 24 (dB D).1 (nI k)) 25 (dB D).1 (nI r) = σ1
          have fr : ∀ q, q ≠ 0 → q < 24 → tp_u σ1 0 43 (nI ((dB D).1 + 1)) q = σ q := fun q b a => by rw [uu3 _ _ _ b, ← hσ, uu3 _ _ _ (by omega), uu3 _ _ _ (by omega)]
          have f0 : ∀ k, k ≠ 43 → tp_u σ1 0 43 (nI ((dB D).1 + 1)) 0 k = σ 0 k := fun k a => by rw [uu2 _ _ _ a, ← hσ, uu3 _ _ _ (by omega), uu3 _ _ _ (by omega)]
          refine hq _ ⟨g1.fr (fun k a => f0 k (by omega)) (fun q a b => fr q (by omega) (by omega)), g2.fr hw ht (fun i a b => by rw [fr 1 (by omega) (by omega)]), by rw [fr 1 (by omega) (by omega)]; exact g3, g4.fr hw ht h.2.2.2.1.1 (f0 2 (by omega)) (fun i a b => by rw [fr 1 (by omega) (by omega)]), ⟨g5.1.fr hw ht (by rw [fr 2 (by omega) (by omega)]) (fun q a b => by rw [fr 1 (by omega) (by omega)]), g5.2.fr hw ht (by rw [fr 2 (by omega) (by omega)]) (fun q a b => by rw [fr 1 (by omega) (by omega)])⟩, g6.fr (f0 16 (by omega)) (f0 21 (by omega)) (fr 9 (by omega) (by omega)), ⟨(f0 39 (by omega)).trans g7.1.1, uu1 _ 0 43 _⟩, fun i hi => ?_, fun i hi => ?_⟩
          · rw [fr 21 (by omega) (by omega), fr 22 (by omega) (by omega), fr 23 (by omega) (by omega)]
            exact g7.2.1 i hi
          · rw [uu3 _ _ _ (show (24 : Nat) ≠ 0 by omega), uu3 _ _ _ (show (25 : Nat) ≠ 0 by omega), ← hσ, uu3 _ _ _ (show (24 : Nat) ≠ 25 by omega)]
            show tp_u σ 24 (dB D).1 (nI k) 24 i = nI (if i = (dB D).1 then (k, r) else (dB D).2 i).1 ∧ tp_u (tp_u σ 24 (dB D).1 (nI k)) 25 (dB D).1 (nI r) 25 i = nI (if i = (dB D).1 then (k, r) else (dB D).2 i).2
            by_cases hi2 : i = (dB D).1
            · rw [if_pos hi2, hi2, uu1, uu1]; exact ⟨rfl, rfl⟩
            · rw [if_neg hi2, uu2 _ _ _ hi2, uu2 _ _ _ hi2, uu3 _ _ _ (by omega)]
              exact g7.2.2 i (by have : i < (dB D).1 + 1 := hi; omega)
      · refine op_Q.ask (-1000000004) h (fun E σ Q hc hq => eX9_write _ _ ?_) (fun E σ Q hm hq => eX10_write _ _ ?_)
        · refine sc_hasWaiter_t hc.1.1.2.2.2.1 h4 hk ?_
          rw [if_neg (by decide)]
          refine sc_hasRoom_t hc.1.1.1 h8 hr ?_
          rw [if_neg (by decide)]
          refine eX3_addEntry _ _ ?_
          rw [hc.2.2.2.2.2.2.1.2, if_neg (nI_nltL 15 (by omega) (by omega)), if_pos rfl]
          exact hq
        · refine sm_isWaiter_t hm.1.1.2.2.2.1 h4 hk ?_
          rw [if_neg (by decide)]
          refine sm_isRoom_t hm.1.1.1 h8 hr ?_
          rw [if_neg (by decide), hm.2.2.2.2.2.2.1.2, if_pos (by rw [nI_eqL 15 (by omega) (by decide)]; omega)]
          exact hq
    · refine op_Q.ask (-1000000001) h (fun E σ Q hc hq => eX9_write _ _ ?_) (fun E σ Q hm hq => eX10_write _ _ ?_)
      · refine sc_hasWaiter_t hc.1.1.2.2.2.1 h4 hk ?_
        rw [if_neg (by decide)]
        refine sc_hasRoom_f hc.1.1.1 h8 hy ?_
        rw [if_pos rfl]
        exact hq
      · refine sm_isWaiter_t hm.1.1.2.2.2.1 h4 hk ?_
        rw [if_neg (by decide)]
        refine sm_isRoom_f hm.1.1.1 h8 hy ?_
        rw [if_pos rfl]
        exact hq
  · refine op_Q.ask (-1000000001) h (fun E σ Q hc hq => eX9_write _ _ ?_) (fun E σ Q hm hq => eX10_write _ _ ?_)
    · refine sc_hasWaiter_f hc.1.1.2.2.2.1 h4 hx ?_
      rw [if_pos rfl]
      exact hq
    · refine sm_isWaiter_f hm.1.1.2.2.2.1 h4 hx ?_
      rw [if_pos rfl]
      exact hq
theorem op_tear {D : DD} (h : okD D) : op_Q yX9_tear iX9_tear yX10_tear iX10_tear [] D := by
  refine ⟨nI (dN D).1 + nI (dB D).1, (D.1, D.2.1, D.2.2.1, D.2.2.2.1, D.2.2.2.2.1, D.2.2.2.2.2.1, (0, (dN D).2), (0, (dB D).2)), ?_, fun E σ Q hc hq => eX9_tear ?_, fun E σ Q hm hq => eX10_tear ?_⟩
  · obtain ⟨k1, k2, k3, k4, k5, k6, k7, k8⟩ := h
    exact ⟨k1, k2, k3, k4, k5, k6, ⟨Nat.zero_le _, fun i hi => absurd hi (Nat.not_lt_zero i)⟩, ⟨Nat.zero_le _, fun i hi => absurd hi (Nat.not_lt_zero i)⟩⟩
  · refine eX3_clear ?_
    obtain ⟨h1, h2, h3, h4, h5, h6, h7⟩ := hc
    rw [h7.1.1, h7.1.2]
    have fr : ∀ q, q ≠ 151 → tp_u (tp_u σ 151 7 0) 151 8 0 q = σ q := fun q a => by rw [uu3 _ _ _ a, uu3 _ _ _ a]
    refine hq _ ⟨h1.fr (fun q a b => fr q (by omega)), h2.fr (fun q a b => fr q (by omega)), by rw [fr 139 (by omega)]; exact h3, h4.fr (fun q a b => fr q (by omega)), ⟨h5.1.fr (fun q a b => fr q (by omega)), h5.2.fr (fun q a b => fr q (by omega))⟩, h6.fr (congrFun (fr 27 (by omega)) 2) (congrFun (fr 27 (by omega)) 3) (fr 36 (by omega)), ⟨?_, uu1 _ 151 8 _⟩, fun i hi => absurd hi (Nat.not_lt_zero i), fun i hi => absurd hi (Nat.not_lt_zero i)⟩
    rw [uu2 _ _ _ (by omega)]
    exact uu1 _ 151 7 _
  · obtain ⟨g1, g2, g3, g4, g5, g6, g7⟩ := hm
    have hw : pw (dP D) ≤ 4 := h.1.1.2.2.2.1
    have ht : pt (dP D) ≤ 8 := h.1.1.2.2.2.2.1
    rw [g7.1.1, g7.1.2]
    have fr : ∀ q, q ≠ 0 → tp_u (tp_u σ 0 39 0) 0 43 0 q = σ q := fun q a => by rw [uu3 _ _ _ a, uu3 _ _ _ a]
    have f0 : ∀ k, k ≠ 39 → k ≠ 43 → tp_u (tp_u σ 0 39 0) 0 43 0 0 k = σ 0 k := fun k a b => by rw [uu2 _ _ _ b, uu2 _ _ _ a]
    refine hq _ ⟨g1.fr (fun k a => f0 k (by omega) (by omega)) (fun q a b => fr q (by omega)), g2.fr hw ht (fun i a b => by rw [fr 1 (by omega)]), by rw [fr 1 (by omega)]; exact g3, g4.fr hw ht h.2.2.2.1.1 (f0 2 (by omega) (by omega)) (fun i a b => by rw [fr 1 (by omega)]), ⟨g5.1.fr hw ht (by rw [fr 2 (by omega)]) (fun q a b => by rw [fr 1 (by omega)]), g5.2.fr hw ht (by rw [fr 2 (by omega)]) (fun q a b => by rw [fr 1 (by omega)])⟩, g6.fr (f0 16 (by omega) (by omega)) (f0 21 (by omega) (by omega)) (fr 9 (by omega)), ⟨?_, uu1 _ 0 43 _⟩, fun i hi => absurd hi (Nat.not_lt_zero i), fun i hi => absurd hi (Nat.not_lt_zero i)⟩
    rw [uu2 _ _ _ (by omega)]
    exact uu1 _ 0 39 _
/-- the first entry that is wrong -/
def fwr (at_ : Nat → Nat) (B : Nat → Nat × Nat) : Nat → Nat → Int32
  | 0, _ => -1
  | f + 1, i => if at_ (B i).1 = (B i).2 then fwr at_ B f (i + 1) else nI i
theorem op_judge {D : DD} (h : okD D) : op_Q yX9_judge iX9_judge yX10_judge iX10_judge [] D := by
  have h8 := h.1.1.1
  have h4 := h.1.1.2.2.2.1
  have hs := h.2.2.2.2.2.2.2.1
  refine op_Q.ask (fwr (aAt (dA D)) (dB D).2 (dB D).1 0) h (fun E σ Q hc hq => eX9_judge (eX3_firstWrong ?_)) (fun E σ Q hm hq => eX10_judge ?_)
  · have key : ∀ f i, i + f = (dB D).1 → Q (fwr (aAt (dA D)) (dB D).2 f i) σ → Wi E TC iX3_firstWrong 7 Q 2 [(0, .ref 151), (1, .int (nI i))] [] σ := by
      intro f
      induction f with
      | zero =>
        intro i hi hq
        refine bX3_firstWrong_2 _ ?_
        rw [hc.2.2.2.2.2.2.1.2, if_pos (nI_le (by omega) (by omega))]
        exact hq
      | succ f ih =>
        intro i hi hq
        have hB := hc.2.2.2.2.2.2.2.2 i (by omega)
        have hk := h.2.2.2.2.2.2.2.2 i (by omega)
        have hat := (h.2.1.2.1 _ hk.1).1
        refine bX3_firstWrong_2 _ ?_
        rw [hc.2.2.2.2.2.2.1.2, if_neg (nI_ge (by omega) (by omega)), if_neg (nle_lit 15 (by omega) (by decide)), vcl (by omega), hB.1]
        refine ⟨vin (by omega) (by decide), sc_roomOf (by omega) ?_⟩
        refine ⟨vin (by omega) (by decide), ?_⟩
        rw [show σ 10 ((dB D).2 i).1 = nI (aAt (dA D) ((dB D).2 i).1) from hc.2.1.2.1 _ hk.1, hB.2]
        unfold fwr at hq
        by_cases he : aAt (dA D) ((dB D).2 i).1 = ((dB D).2 i).2
        · rw [if_pos he] at hq
          rw [if_pos (by rw [he]), nI_1]
          exact ih (i + 1) (by omega) hq
        · rw [if_neg he] at hq
          rw [if_neg (by rw [nI_eq (by omega) (by omega)]; exact he)]
          exact hq
    exact key (dB D).1 0 (by omega) hq
  · have key : ∀ f i, i + f = (dB D).1 → Q (fwr (aAt (dA D)) (dB D).2 f i) σ → Wi E TM iX10_judge 8 Q 2 [(0, .ref 0), (1, .int (nI i))] [] σ := by
      intro f
      induction f with
      | zero =>
        intro i hi hq
        refine bX10_judge_2 _ ?_
        rw [hm.2.2.2.2.2.2.1.2, if_pos (nI_le (by omega) (by omega))]
        exact hq
      | succ f ih =>
        intro i hi hq
        have hB := hm.2.2.2.2.2.2.2.2 i (by omega)
        have hk := h.2.2.2.2.2.2.2.2 i (by omega)
        have hat := (h.2.1.2.1 _ hk.1).1
        refine bX10_judge_2 _ ?_
        have e : σ 1 (2 + ((dB D).2 i).1) = nI (aAt (dA D) ((dB D).2 i).1) := by have := hm.2.1.2.1 _ hk.1; rw [Nat.zero_add] at this; exact this
        rw [hm.2.2.2.2.2.2.1.2, if_neg (nI_ge (by omega) (by omega)), vcl (by omega), hB.1, lit_add 2, vcl (by omega), e, hB.2]
        refine ⟨vin (by omega) (by decide), vin (by omega) (by decide), vin (by omega) (by decide), ?_⟩
        unfold fwr at hq
        by_cases he : aAt (dA D) ((dB D).2 i).1 = ((dB D).2 i).2
        · rw [if_pos he] at hq
          rw [if_pos (by rw [he]), nI_1]
          exact ih (i + 1) (by omega) hq
        · rw [if_neg he] at hq
          rw [if_neg (by rw [nI_eq (by omega) (by omega)]; exact he)]
          exact hq
    exact key (dB D).1 0 (by omega) hq

/-! ===== who spilt, where to look ===== -/
def fitF (r : Nat) (N : Nat → Nat × Nat × Bool) : Nat → Nat → Bool
  | 0, _ => true
  | f + 1, i => if bI (bt (cset r (N i).2.1) (N i).1) = bI (N i).2.2 then fitF r N f (i + 1) else false
def sus (D : DD) : Int32 := itr (fun k s => if fitF (aRt (dA D) k) (dN D).2 (dN D).1 0 = true then s ||| ((1 : Int32) <<< (nI k &&& 31)) else s) (pw (dP D)) 0
theorem sus_bt {D : DD} (h : okD D) {i : Nat} (hi : i < 32) (hb : bt (sus D) i = true) : i < pw (dP D) := by
  have h4 := h.1.1.2.2.2.1
  have key : ∀ n, n ≤ 4 → bt (itr (fun k s => if fitF (aRt (dA D) k) (dN D).2 (dN D).1 0 = true then s ||| ((1 : Int32) <<< (nI k &&& 31)) else s) n 0) i = true → i < n := by
    intro n
    induction n with
    | zero => intro _ hb; rw [show itr (fun k s => if fitF (aRt (dA D) k) (dN D).2 (dN D).1 0 = true then s ||| ((1 : Int32) <<< (nI k &&& 31)) else s) 0 0 = (0 : Int32) from rfl, b_0] at hb; cases hb
    | succ n ih =>
      intro hn hb
      have hb : bt (if fitF (aRt (dA D) n) (dN D).2 (dN D).1 0 = true then itr (fun k s => if fitF (aRt (dA D) k) (dN D).2 (dN D).1 0 = true then s ||| ((1 : Int32) <<< (nI k &&& 31)) else s) n 0 ||| ((1 : Int32) <<< (nI n &&& 31)) else itr (fun k s => if fitF (aRt (dA D) k) (dN D).2 (dN D).1 0 = true then s ||| ((1 : Int32) <<< (nI k &&& 31)) else s) n 0) i = true := hb
      by_cases hf : fitF (aRt (dA D) n) (dN D).2 (dN D).1 0 = true
      · rw [if_pos hf, b_or, b_bit n (by omega) hi] at hb
        by_cases hin : i = n
        · omega
        · simp only [hin, decide_false, Bool.or_false] at hb
          have := ih (by omega) hb
          omega
      · rw [if_neg hf] at hb
        have := ih (by omega) hb
        omega
  exact key (pw (dP D)) h4 hb
section SUS
variable {E : tp_E} {d : Nat} {σ : tp_M} {Q : Int32 → tp_M → Prop} {D : DD}
theorem sC_fits (h : okD D) (hc : cR σ D) {k : Nat} (hk : k < pw (dP D)) (hq : Q (bI (fitF (aRt (dA D) k) (dN D).2 (dN D).1 0)) σ) : Ci E TC yX3_fitsAllSeen iX3_fitsAllSeen (d + 1 + 1 + 1) [.ref 151, .int (nI k)] σ Q := by
  have hs := h.2.2.2.2.2.2.1.1
  have h8 := h.1.1.1
  refine eX3_fitsAllSeen _ ?_
  have key : ∀ f i, i + f = (dN D).1 → Q (bI (fitF (aRt (dA D) k) (dN D).2 f i)) σ → Wi E TC iX3_fitsAllSeen (d + 1 + 1 + 1) Q 2 [(0, .ref 151), (1, .int (nI k)), (2, .int (nI i))] [] σ := by
    intro f
    induction f with
    | zero =>
      intro i hi hq
      refine bX3_fitsAllSeen_2 _ _ ?_
      rw [hc.2.2.2.2.2.2.1.1, if_pos (nI_le (by omega) (by omega))]
      exact hq
    | succ f ih =>
      intro i hi hq
      have hN := hc.2.2.2.2.2.2.2.1 i (by omega)
      have ho := h.2.2.2.2.2.2.1.2 i (by omega)
      refine bX3_fitsAllSeen_2 _ _ ?_
      rw [hc.2.2.2.2.2.2.1.1, if_neg (nI_ge (by omega) (by omega)), if_neg (nle_lit 6 (by omega) (by decide)), vcl (by omega), hN.2.1]
      refine ⟨vin (by omega) (by decide), sC_cameTo h.1 h.2.1 hc.2.1 hk (by omega) ⟨vin (by omega) (by decide), ?_⟩⟩
      rw [hN.1]
      refine sc_has (by omega) ⟨vin (by omega) (by decide), ?_⟩
      rw [hN.2.2]
      unfold fitF at hq
      show if bI (bt (cset (aRt (dA D) k) ((dN D).2 i).2.1) ((dN D).2 i).1) = bI ((dN D).2 i).2.2 then _ else _
      by_cases he : bI (bt (cset (aRt (dA D) k) ((dN D).2 i).2.1) ((dN D).2 i).1) = bI ((dN D).2 i).2.2
      · rw [if_pos he] at hq ⊢
        rw [nI_1]
        exact ih (i + 1) (by omega) hq
      · rw [if_neg he] at hq ⊢
        exact hq
  exact key (dN D).1 0 (by omega) hq
theorem sC_sus (h : okD D) (hc : cR σ D) (hq : Q (sus D) σ) : Ci E TC yX3_suspects iX3_suspects (d + 1 + 1 + 1 + 1) [.ref 151] σ Q := by
  have h4 := h.1.1.2.2.2.1
  refine eX3_suspects ?_
  refine wl_fold (fun i s => Wi E TC iX3_suspects (d + 1 + 1 + 1 + 1) Q 4 [(0, .ref 151), (1, .int s), (2, .int i)] [] σ) (fun k s => if fitF (aRt (dA D) k) (dN D).2 (dN D).1 0 = true then s ||| ((1 : Int32) <<< (nI k &&& 31)) else s) (pw (dP D)) 0 ?_ ?_
  · refine bX3_suspects_4 _ _ ?_
    rw [hc.1.1.2.2.2.1, if_pos (nI_le (Nat.le_refl _) (by omega))]
    exact hq
  · intro j hj ih
    refine bX3_suspects_4 _ _ ?_
    rw [hc.1.1.2.2.2.1, if_neg (nI_ge hj (by omega))]
    refine sC_fits h hc hj ?_
    by_cases hf : fitF (aRt (dA D) j) (dN D).2 (dN D).1 0 = true
    · rw [if_pos hf] at ih
      rw [hf, if_neg (by decide)]
      exact ih
    · rw [if_neg hf] at ih
      rw [Bool.not_eq_true] at hf
      rw [hf, if_pos (by decide)]
      exact ih
theorem sM_sus (h : okD D) (hm : mR σ D) (hq : Q (sus D) σ) : Ci E TM yX10_spillers iX10_spillers (d + 1) [.ref 0] σ Q := by
  have h4 := h.1.1.2.2.2.1
  have h8 := h.1.1.1
  have hs := h.2.2.2.2.2.2.1.1
  refine eX10_spillers ?_
  refine wl_fold (fun i s => Wi E TM iX10_spillers (d + 1) Q 4 [(0, .ref 0), (1, .int s), (2, .int i)] [] σ) (fun k s => if fitF (aRt (dA D) k) (dN D).2 (dN D).1 0 = true then s ||| ((1 : Int32) <<< (nI k &&& 31)) else s) (pw (dP D)) 0 ?_ ?_
  · refine bX10_spillers_4 _ _ ?_
    rw [hm.1.1.2.2.2.1, if_pos (nI_le (Nat.le_refl _) (by omega))]
    exact hq
  · intro j hj ih
    generalize itr (fun k s => if fitF (aRt (dA D) k) (dN D).2 (dN D).1 0 = true then s ||| ((1 : Int32) <<< (nI k &&& 31)) else s) j 0 = s at ih ⊢
    refine bX10_spillers_4 _ _ ?_
    rw [hm.1.1.2.2.2.1, if_neg (nI_ge hj (by omega))]
    have k0 : ∀ f i, i + f = (dN D).1 → Wi E TM iX10_spillers (d + 1) Q 4 [(0, .ref 0), (1, .int s), (2, .int (nI j + 1))] [] σ → Wi E TM iX10_spillers (d + 1) Q 17 [(0, .ref 0), (1, .int s), (2, .int (nI j)), (3, .int 0), (4, .int (nI i))] [] σ := by
      intro f
      induction f with
      | zero =>
        intro i hi hq
        refine bX10_spillers_17 _ _ _ _ ?_
        rw [hm.2.2.2.2.2.2.1.1, if_pos (nI_le (by omega) (by omega)), if_pos rfl, or_0]
        exact hq
      | succ f ih2 =>
        intro i hi hq
        refine bX10_spillers_17 _ _ _ _ ?_
        rw [hm.2.2.2.2.2.2.1.1, if_neg (nI_ge (by omega) (by omega)), if_pos rfl, nI_1 i]
        exact ih2 (i + 1) (by omega) hq
    have k1 : ∀ f i, i + f = (dN D).1 → Wi E TM iX10_spillers (d + 1) Q 4 [(0, .ref 0), (1, .int (if fitF (aRt (dA D) j) (dN D).2 f i = true then s ||| ((1 : Int32) <<< (nI j &&& 31)) else s)), (2, .int (nI j + 1))] [] σ → Wi E TM iX10_spillers (d + 1) Q 17 [(0, .ref 0), (1, .int s), (2, .int (nI j)), (3, .int 1), (4, .int (nI i))] [] σ := by
      intro f
      induction f with
      | zero =>
        intro i hi hq
        refine bX10_spillers_17 _ _ _ _ ?_
        rw [hm.2.2.2.2.2.2.1.1, if_pos (nI_le (by omega) (by omega)), if_neg (by decide)]
        exact hq
      | succ f ih2 =>
        intro i hi hq
        have hN := hm.2.2.2.2.2.2.2.1 i (by omega)
        have ho := h.2.2.2.2.2.2.1.2 i (by omega)
        refine bX10_spillers_17 _ _ _ _ ?_
        rw [hm.2.2.2.2.2.2.1.1, if_neg (nI_ge (by omega) (by omega)), if_neg (by decide), vcl (by omega), hN.2.1]
        refine ⟨vin (by omega) (by decide), sM_comesTo h.1 hm.1 h.2.1 hm.2.1 hj (by omega) ⟨vin (by omega) (by decide), ?_⟩⟩
        rw [hN.1]
        refine sm_has (by omega) ⟨vin (by omega) (by decide), ?_⟩
        rw [hN.2.2, nI_1 i]
        unfold fitF at hq
        show if bI (bt (cset (aRt (dA D) j) ((dN D).2 i).2.1) ((dN D).2 i).1) = bI ((dN D).2 i).2.2 then _ else _
        by_cases he : bI (bt (cset (aRt (dA D) j) ((dN D).2 i).2.1) ((dN D).2 i).1) = bI ((dN D).2 i).2.2
        · rw [if_pos he] at hq ⊢
          exact ih2 (i + 1) (by omega) hq
        · rw [if_neg he, if_neg (by decide)] at hq
          rw [if_neg he]
          exact k0 f (i + 1) (by omega) hq
    exact k1 (dN D).1 0 (by omega) ih
end SUS
theorem op_spiller {D : DD} (h : okD D) : op_Q yX9_spiller iX9_spiller yX10_spiller iX10_spiller [] D := op_Q.ask (sus D) h (fun E σ Q hc hq => eX9_spiller (sC_sus h hc hq)) (fun E σ Q hm hq => eX10_spiller (sM_sus h hm hq))
def usr (x k : Int32) : Int32 := (Int32.toUInt32 x >>> (Int32.toUInt32 k &&& Int32.toUInt32 31)).toInt32
def bcA (x : Int32) : Int32 := x - (usr x 1 &&& 1431655765)
def bcB (x : Int32) : Int32 := (bcA x &&& 858993459) + (usr (bcA x) 2 &&& 858993459)
def bcC (x : Int32) : Int32 := (bcB x + usr (bcB x) 4) &&& 252645135
def bcD (x : Int32) : Int32 := bcC x + usr (bcC x) 8
def bcE (x : Int32) : Int32 := bcD x + usr (bcD x) 16
def onesF (s : Int32) : Int32 := itr (fun k n => n + ((s >>> (nI k &&& 31)) &&& 1)) 8 0
theorem bc_ones : ∀ j, j < 256 → (bcE (nI j) &&& 63) = onesF (nI j) := by decide +kernel
theorem ones_le : ∀ j, j < 256 → 0 ≤ onesF (nI j) ∧ onesF (nI j) ≤ 8 := by decide +kernel
theorem small_nI {s : Int32} (h : ∀ i, 8 ≤ i → i < 32 → bt s i = false) : ∃ j, j < 256 ∧ s = nI j := by
  obtain ⟨j, hj, he⟩ := pk_andE s (m := 255) 8 (by decide)
  refine ⟨j, hj, ?_⟩
  rw [← he]
  apply b_ext
  intro i hi
  rw [b_and, b_255]
  by_cases h8 : i < 8
  · simp [h8]
  · rw [h i (by omega) hi]; rfl
theorem sC_bits {E : tp_E} {d : Nat} {σ : tp_M} {Q : Int32 → tp_M → Prop} {s : Int32} (hs : ∀ i, 8 ≤ i → i < 32 → bt s i = false) (h : Q (onesF s) σ) : Ci E TC yJ6_bitCount_0f7a4 iJ6_bitCount_0f7a4 d [.int s] σ Q := by
  obtain ⟨j, hj, rfl⟩ := small_nI hs
  refine eJ6_bitCount_0f7a4 _ ?_
  show Q (bcE (nI j) &&& 63) σ
  rw [bc_ones j hj]
  exact h
theorem sM_ones {E : tp_E} {d : Nat} {σ : tp_M} {Q : Int32 → tp_M → Prop} {s : Int32} (h : Q (onesF s) σ) : Ci E TM yX10_ones iX10_ones d [.int s] σ Q := by
  refine eX10_ones _ ?_
  refine wl_fold (fun i z => Wi E TM iX10_ones d Q 4 [(0, .int s), (1, .int z), (2, .int i)] [] σ) (fun k n => n + ((s >>> (nI k &&& 31)) &&& 1)) 8 0 ?_ ?_
  · refine bX10_ones_4 _ _ _ ?_
    rw [if_pos (by decide)]
    exact h
  · intro j hj ih
    refine bX10_ones_4 _ _ _ ?_
    rw [if_neg (nle_lit 8 hj (by decide))]
    exact ih
/-- how many of the suspects come to room r -/
def cnt (D : DD) (r : Nat) : Int32 := itr (fun k c => if bt (sus D) k = true ∧ bt (cset (aRt (dA D) k) 20) r = true then c + 1 else c) (pw (dP D)) 0
def lks (D : DD) (r : Nat) (s : Int32 × Int32) : Int32 × Int32 := if s.2 ≤ (if cnt D r < onesF (sus D) - cnt D r then onesF (sus D) - cnt D r else cnt D r) then s else (nI r, if cnt D r < onesF (sus D) - cnt D r then onesF (sus D) - cnt D r else cnt D r)
def lkR (D : DD) : Int32 := (itr (fun r s => lks D r s) (pn (dP D)) (-1, onesF (sus D))).1
theorem op_look {D : DD} (h : okD D) : op_Q yX9_look iX9_look yX10_look iX10_look [] D := by
  have h4 := h.1.1.2.2.2.1
  have h8 := h.1.1.1
  have hsm : ∀ i, 8 ≤ i → i < 32 → bt (sus D) i = false := fun i a b => by
    cases hb : bt (sus D) i
    · rfl
    · have := sus_bt h b hb
      omega
  refine op_Q.ask (lkR D) h (fun E σ Q hc hq => eX9_look (eX3_bestRoom (sC_sus h hc (sC_bits hsm ?_)))) (fun E σ Q hm hq => eX10_look (sM_sus h hm (sM_ones ?_)))
  · refine wl_fold (fun i (s : Int32 × Int32) => Wi E TC iX3_bestRoom 7 Q 18 [(0, .ref 151), (1, .int (sus D)), (2, .int (onesF (sus D))), (3, .int s.1), (4, .int s.2), (5, .int i)] [] σ) (fun r s => lks D r s) (pn (dP D)) (-1, onesF (sus D)) ?_ ?_
    · refine bX3_bestRoom_18 _ _ _ _ _ ?_
      rw [hc.1.1.1, if_pos (nI_le (Nat.le_refl _) (by omega))]
      exact hq
    · intro r hr ih
      generalize itr (fun r s => lks D r s) r (-1, onesF (sus D)) = s at ih ⊢
      refine bX3_bestRoom_18 _ _ _ _ _ ?_
      rw [hc.1.1.1, if_neg (nI_ge hr (by omega))]
      refine eX3_countComingTo _ _ ?_
      refine wl_fold (fun i c => Wi E TC iX3_countComingTo 6 (fun v3 σ2 => if s.2 ≤ (if v3 < (onesF (sus D) - v3) then (onesF (sus D) - v3) else v3) then (Wi E TC iX3_bestRoom 7 Q 18 [(0, .ref 151), (1, .int (sus D)), (2, .int (onesF (sus D))), (3, .int s.1), (4, .int s.2), (5, .int (nI r + 1))] [] σ2) else (Wi E TC iX3_bestRoom 7 Q 18 [(0, .ref 151), (1, .int (sus D)), (2, .int (onesF (sus D))), (3, .int (nI r)), (4, .int (if v3 < (onesF (sus D) - v3) then (onesF (sus D) - v3) else v3)), (5, .int (nI r + 1))] [] σ2)) 5 [(0, .ref 151), (1, .int (nI r)), (2, .int (sus D)), (3, .int c), (4, .int i)] [] σ) (fun k c => if bt (sus D) k = true ∧ bt (cset (aRt (dA D) k) 20) r = true then c + 1 else c) (pw (dP D)) 0 ?_ ?_
      · refine bX3_countComingTo_5 _ _ _ _ ?_
        rw [hc.1.1.2.2.2.1, if_pos (nI_le (Nat.le_refl _) (by omega))]
        unfold lks at ih
        show if s.2 ≤ (if cnt D r < onesF (sus D) - cnt D r then onesF (sus D) - cnt D r else cnt D r) then _ else _
        by_cases hl : s.2 ≤ (if cnt D r < onesF (sus D) - cnt D r then onesF (sus D) - cnt D r else cnt D r)
        · rw [if_pos hl] at ih ⊢; exact ih
        · rw [if_neg hl] at ih ⊢; exact ih
      · intro k hk ih2
        refine bX3_countComingTo_5 _ _ _ _ ?_
        rw [hc.1.1.2.2.2.1, if_neg (nI_ge hk (by omega))]
        refine sc_hasC (by omega) (fun hb => ?_) (fun hb => ?_)
        · rw [if_neg (by decide)]
          refine sC_cameTo (n := 20) h.1 h.2.1 hc.2.1 hk (by decide) (sc_hasC (by omega) (fun hb2 => ?_) (fun hb2 => ?_))
          · rw [if_neg (by decide)]
            rw [if_pos ⟨hb, hb2⟩] at ih2
            exact ih2
          · rw [if_pos rfl]
            rw [if_neg (fun q => by rw [hb2] at q; cases q.2)] at ih2
            exact ih2
        · rw [if_pos rfl]
          rw [if_neg (fun q => by rw [hb] at q; cases q.1)] at ih2
          exact ih2
  · refine wl_fold (fun i (s : Int32 × Int32) => Wi E TM iX10_look 8 Q 15 [(0, .ref 0), (1, .int (sus D)), (2, .int s.1), (3, .int s.2), (4, .int i)] [] σ) (fun r s => lks D r s) (pn (dP D)) (-1, onesF (sus D)) ?_ ?_
    · refine bX10_look_15 _ _ _ _ ?_
      rw [hm.1.1.1, if_pos (nI_le (Nat.le_refl _) (by omega))]
      exact hq
    · intro r hr ih
      generalize itr (fun r s => lks D r s) r (-1, onesF (sus D)) = s at ih ⊢
      refine bX10_look_15 _ _ _ _ ?_
      rw [hm.1.1.1, if_neg (nI_ge hr (by omega))]
      refine wl_fold (fun i c => Wi E TM iX10_look 8 Q 30 [(0, .ref 0), (1, .int (sus D)), (2, .int s.1), (3, .int s.2), (4, .int (nI r)), (5, .int c), (6, .int i)] [] σ) (fun k c => if bt (sus D) k = true ∧ bt (cset (aRt (dA D) k) 20) r = true then c + 1 else c) (pw (dP D)) 0 ?_ ?_
      · refine bX10_look_30 _ _ _ _ _ _ ?_
        rw [hm.1.1.2.2.2.1, if_pos (nI_le (Nat.le_refl _) (by omega))]
        show Ci E TM yX10_ones iX10_ones 7 [.int (sus D)] σ (fun v3 σ2 => if cnt D r ≤ (v3 - cnt D r) then _ else _)
        refine sM_ones ?_
        have key : ∀ g, g = (if cnt D r < onesF (sus D) - cnt D r then onesF (sus D) - cnt D r else cnt D r) → (if s.2 ≤ g then (Wi E TM iX10_look 8 Q 118 [(0, .ref 0), (1, .int (sus D)), (3, .int s.2), (4, .int (nI r)), (6, .int g)] [.int s.1] σ) else (Wi E TM iX10_look 8 Q 118 [(0, .ref 0), (1, .int (sus D)), (3, .int s.2), (4, .int (nI r)), (6, .int g)] [.int (nI r)] σ)) := by
          intro g hg
          unfold lks at ih
          rw [← hg] at ih
          by_cases hl : s.2 ≤ g
          · rw [if_pos hl] at ih ⊢
            refine bX10_look_118 _ _ _ _ _ ?_
            rw [if_pos hl]
            exact ih
          · rw [if_neg hl] at ih ⊢
            refine bX10_look_118 _ _ _ _ _ ?_
            rw [if_neg hl]
            exact ih
        by_cases hp : cnt D r ≤ onesF (sus D) - cnt D r
        · rw [if_pos hp]
          refine sM_ones (key (onesF (sus D) - cnt D r) ?_)
          by_cases hp2 : cnt D r < onesF (sus D) - cnt D r
          · rw [if_pos hp2]
          · rw [if_neg hp2]
            rw [fa_le] at hp
            rw [fa_lt] at hp2
            rw [fa_eq]
            omega
        · rw [if_neg hp]
          refine key (cnt D r) ?_
          rw [if_neg (fun q => by
            rw [fa_le] at hp
            rw [fa_lt] at q
            omega)]
      · intro k hk ih2
        refine bX10_look_30 _ _ _ _ _ _ ?_
        rw [hm.1.1.2.2.2.1, if_neg (nI_ge hk (by omega))]
        refine sm_hasC (by omega) (fun hb => ?_) (fun hb => ?_)
        · rw [if_neg (by decide)]
          refine sM_comesTo (n := 20) h.1 hm.1 h.2.1 hm.2.1 hk (by decide) (sm_hasC (by omega) (fun hb2 => ?_) (fun hb2 => ?_))
          · rw [if_neg (by decide)]
            rw [if_pos ⟨hb, hb2⟩] at ih2
            exact ih2
          · rw [if_pos rfl, Int32.add_zero]
            rw [if_neg (fun q => by rw [hb2] at q; cases q.2)] at ih2
            exact ih2
        · rw [if_pos rfl, Int32.add_zero]
          rw [if_neg (fun q => by rw [hb] at q; cases q.1)] at ih2
          exact ih2

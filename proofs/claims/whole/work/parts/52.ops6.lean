/-! ===== the state changes ===== -/
theorem cR.setA {σ σ' : tp_M} {D : DD} {A' : AS} (hc : cR σ D) (hs : cS σ' 9 (dP D) A') (fr : ∀ q, q < 9 ∨ 13 < q → σ' q = σ q) : cR σ' (dSetA D A') := by
  obtain ⟨h1, h2, h3, h4, h5, h6, h7⟩ := hc
  exact ⟨h1.fr (fun q a b => fr q (by omega)), hs, by rw [fr 139 (by omega)]; exact h3, h4.fr (fun q a b => fr q (by omega)), ⟨h5.1.fr (fun q a b => fr q (by omega)), h5.2.fr (fun q a b => fr q (by omega))⟩, h6.fr (congrFun (fr 27 (by omega)) 2) (congrFun (fr 27 (by omega)) 3) (fr 36 (by omega)), h7.fr (fun q a b => fr q (by omega))⟩
theorem mR.setA {σ σ' : tp_M} {D : DD} {A' : AS} (hok : okD D) (hm : mR σ D) (hs : mS σ' 0 (dP D) A') (f1 : ∀ i, 58 ≤ i → i < 1416 → σ' 1 i = σ 1 i) (fr : ∀ q, q ≠ 1 → σ' q = σ q) : mR σ' (dSetA D A') := by
  have hw : pw (dP D) ≤ 4 := hok.1.1.2.2.2.1
  have ht : pt (dP D) ≤ 8 := hok.1.1.2.2.2.2.1
  obtain ⟨g1, g2, g3, g4, g5, g6, g7⟩ := hm
  exact ⟨g1.fr (fun k a => by rw [fr 0 (by omega)]) (fun q a b => fr q (by omega)), hs, by rw [f1 58 (by omega) (by omega)]; exact g3, g4.fr hw ht hok.2.2.2.1.1 (by rw [fr 0 (by omega)]) (fun i a b => f1 i (by omega) (by omega)), ⟨g5.1.fr hw ht (by rw [fr 2 (by omega)]) (fun q a b => f1 q (by omega) (by omega)), g5.2.fr hw ht (by rw [fr 2 (by omega)]) (fun q a b => f1 q (by omega) (by omega))⟩, g6.fr (by rw [fr 0 (by omega)]) (by rw [fr 0 (by omega)]) (fr 9 (by omega)), g7.fr (by rw [fr 0 (by omega)]) (by rw [fr 0 (by omega)]) (fun q a b => fr q (by omega))⟩
theorem okD.setU {D : DD} (h : okD D) : okD (dSetU D (pushU (dU D) (dA D))) := by
  obtain ⟨k1, k2, k3, k4, k5⟩ := h
  exact ⟨k1, k2, k3, pushU_ok k2 k4, k5⟩
theorem okD.setA {D : DD} (h : okD D) {A : AS} (hA : okA (dP D) A) : okD (dSetA D A) := by
  obtain ⟨k1, k2, k3⟩ := h
  exact ⟨k1, hA, k3⟩
def aSetPl (A : AS) (t : Nat) (v : Int32) : AS := (A.1, A.2.1, A.2.2.1, A.2.2.2.1, A.2.2.2.2.1, va_up (aPl A) t v)
theorem cS.setPl {σ : tp_M} {P : PD} {A : AS} {t : Nat} {v : Int32} (h : cS σ 9 P A) : cS (tp_u σ 13 t v) 9 P (aSetPl A t v) := by
  obtain ⟨h1, h2, h3, h4, h5⟩ := h
  refine ⟨by rw [uu3 _ _ _ (by omega)]; exact h1, fun k hk => by rw [uu3 _ _ _ (by omega)]; exact h2 k hk, fun k hk => by rw [uu3 _ _ _ (by omega)]; exact h3 k hk, fun k hk => by rw [uu3 _ _ _ (by omega)]; exact h4 k hk, fun s hs => ?_⟩
  show tp_u σ 13 t v 13 s = va_up (aPl A) t v s
  unfold va_up
  by_cases hst : s = t
  · rw [if_pos hst, hst, uu1]
  · rw [if_neg hst, uu2 _ _ _ hst]; exact h5 s hs
theorem mS.setPl {σ : tp_M} {P : PD} {A : AS} {b t : Nat} {v : Int32} (hw : pw P ≤ 4) (h : mS σ b P A) : mS (tp_u σ 1 (b + 50 + t) v) b P (aSetPl A t v) := by
  obtain ⟨h1, h2, h3, h4, h5⟩ := h
  refine ⟨⟨by rw [uu2 _ _ _ (by omega)]; exact h1.1, by rw [uu2 _ _ _ (by omega)]; exact h1.2⟩, fun k hk => by rw [uu2 _ _ _ (by omega)]; exact h2 k hk, fun k hk => ⟨by rw [uu2 _ _ _ (by omega)]; exact (h3 k hk).1, fun e he => ?_⟩, fun k hk => by rw [uu2 _ _ _ (by omega)]; exact h4 k hk, fun s hs => ?_⟩
  · have := nd_le (aRt A k)
    have he : e < nd (aRt A k) := he
    rw [uu2 _ _ _ (by omega)]
    exact (h3 k hk).2 e he
  · show tp_u σ 1 (b + 50 + t) v 1 (b + 50 + s) = va_up (aPl A) t v s
    unfold va_up
    by_cases hst : s = t
    · rw [if_pos hst, hst, uu1]
    · rw [if_neg hst, uu2 _ _ _ (by omega)]; exact h5 s hs
theorem okA.setPl {P : PD} {A : AS} (h : okA P A) {t : Nat} {v : Int32} (ht : t < pt P) (hv : v = -1 ∨ v = -2 ∨ ∃ k, k < 2 * pw P ∧ v = nI k) : okA P (aSetPl A t v) := by
  obtain ⟨h1, h2, h3, h4, h5⟩ := h
  refine ⟨h1, h2, h3, fun s hs => ?_, fun s hs => ?_⟩
  · show va_up (aPl A) t v s = -3
    unfold va_up
    rw [if_neg (by omega)]
    exact h4 s hs
  · show va_up (aPl A) t v s = -1 ∨ va_up (aPl A) t v s = -2 ∨ ∃ k, k < 2 * pw P ∧ va_up (aPl A) t v s = nI k
    unfold va_up
    by_cases hst : s = t
    · rw [if_pos hst]; exact hv
    · rw [if_neg hst]; exact h5 s hs
theorem sc_put {E : tp_E} {d : Nat} {σ : tp_M} {Q : tp_M → Prop} {t : Nat} {v : Int32} (ht : t < 8) (h : Q (tp_u σ 13 t v)) : Cv E TC yX8_put iX8_put d [.ref 9, .int (nI t), .int v] σ Q := by
  refine eX8_put _ _ (if2_t (n := 8) rfl ht (by decide) ⟨vin ht (by decide), ?_⟩)
  rw [vcl (by omega)]
  exact h
/-- laid anew: both sides -/
theorem cR.setPl {σ : tp_M} {D : DD} (hc : cR σ D) (t : Nat) (v : Int32) : cR (tp_u σ 13 t v) (dSetA D (aSetPl (dA D) t v)) := hc.setA hc.2.1.setPl (fun q a => uu3 _ _ _ (by omega))
theorem mR.setPl {σ : tp_M} {D : DD} (hok : okD D) (hm : mR σ D) {t : Nat} (ht : t < 8) (v : Int32) : mR (tp_u σ 1 (50 + t) v) (dSetA D (aSetPl (dA D) t v)) := by
  have := (hm.2.1).setPl (t := t) (v := v) hok.1.1.2.2.2.1
  rw [Nat.zero_add] at this
  exact hm.setA hok this (fun i a b => uu2 _ _ _ (by omega)) (fun q a => uu3 _ _ _ a)
theorem half {j : Nat} (h : j < 2147483648) : nI j / 2 = nI (j / 2) := pk_div (d := 2) h (by decide) (by decide)
theorem nI_ne_m1 {k : Nat} (hk : k < 2147483648) : ¬ nI k = -1 := fun h => by
  have := (fa_eq _ _).mp h
  rw [nI_toInt hk] at this
  have e : (-1 : Int32).toInt = -1 := by decide
  omega
theorem op_takeOff {D : DD} (h : okD D) (x : Int32) : op_Q yX9_takeOff iX9_takeOff yX10_takeOff iX10_takeOff [.int x] D := by
  have h8 := h.1.1.2.2.2.2.1
  have h4 := h.1.1.2.2.2.1
  rcases vrng x (pt (dP D)) (by omega) with ⟨t, ht, rfl⟩ | hx
  · have hc0 : ∀ {E : tp_E} {d : Nat} {σ : tp_M} {Q : Int32 → tp_M → Prop}, cR σ D → Q 1 σ → Ci E TC yX5_hasThing iX5_hasThing d [.ref 1, .int (nI t)] σ Q := fun hc hq => sc_hasThing_t hc.1.1.2.2.2.2.1 h8 ht hq
    have hm0 : ∀ {E : tp_E} {d : Nat} {σ : tp_M} {Q : Int32 → tp_M → Prop}, mR σ D → Q 1 σ → Ci E TM yX10_isThing iX10_isThing (d + 1) [.ref 0, .int (nI t)] σ Q := fun hm hq => sm_isThing_t hm.1.1.2.2.2.2.1 h8 ht hq
    have ce : ∀ {σ : tp_M}, cR σ D → σ 13 t = aPl (dA D) t := fun hc => hc.2.1.2.2.2.2 t (by omega)
    have me : ∀ {σ : tp_M}, mR σ D → σ 1 (50 + t) = aPl (dA D) t := fun hm => by have := hm.2.1.2.2.2.2 t ht; rw [Nat.zero_add] at this; exact this
    have hno : ∀ v : Int32, aPl (dA D) t = v → ¬ 0 ≤ v → op_Q yX9_takeOff iX9_takeOff yX10_takeOff iX10_takeOff [.int (nI t)] D := fun v hv hn => by
      refine op_Q.ask (-1000000003) h (fun E σ Q hc hq => eX9_takeOff _ (hc0 hc ?_)) (fun E σ Q hm hq => eX10_takeOff _ (hm0 hm ?_))
      · rw [if_neg (by decide)]
        refine sc_bearerOf (by omega) ?_
        rw [ce hc, hv, if_neg hn, if_pos rfl]
        exact hq
      · rw [if_neg (by decide)]
        refine sm_whose (by omega) ?_
        rw [me hm, hv, if_neg hn, if_pos rfl]
        exact hq
    rcases h.2.1.2.2.2.2 t ht with e | e | ⟨j, hj, e⟩
    · exact hno _ e (by decide)
    · exact hno _ e (by decide)
    · refine ⟨nI (j / 2), dSetA (dSetU D (pushU (dU D) (dA D))) (aSetPl (dA D) t (-1)), (okD.setU h).setA (h.2.1.setPl ht (Or.inl rfl)), fun E σ Q hc hq => eX9_takeOff _ (hc0 hc ?_), fun E σ Q hm hq => eX10_takeOff _ (hm0 hm ?_)⟩
      · rw [if_neg (by decide)]
        refine sc_bearerOf (by omega) ?_
        rw [ce hc, e, if_pos (nI_pos' (by omega)), half (by omega), if_neg (nI_ne_m1 (by omega))]
        refine sC_remember h hc (fun σ1 hc1 _ => sc_put (by omega) ?_)
        exact hq _ (hc1.setPl t (-1))
      · rw [if_neg (by decide)]
        refine sm_whose (by omega) ?_
        rw [me hm, e, if_pos (nI_pos' (by omega)), half (by omega), if_neg (nI_ne_m1 (by omega))]
        refine sM_minds h hm (fun σ1 hm1 => ?_)
        rw [lit_add 50, vcl (by omega)]
        exact ⟨vin (by omega) (by decide), hq _ (hm1.setPl (okD.setU h) (by omega) (-1))⟩
  · refine op_Q.ask (-1000000001) h (fun E σ Q hc hq => eX9_takeOff _ ?_) (fun E σ Q hm hq => eX10_takeOff _ ?_)
    · refine sc_hasThing_f hc.1.1.2.2.2.2.1 h8 hx ?_
      rw [if_pos rfl]
      exact hq
    · refine sm_isThing_f hm.1.1.2.2.2.2.1 h8 hx ?_
      rw [if_pos rfl]
      exact hq
/-- the thing is at hand -/
def hand (A : AS) (t k : Nat) : Prop := aPl A t = -1 ∨ ∃ j, aPl A t = nI j ∧ j < 8 ∧ j / 2 ≠ k ∧ aAt A (j / 2) = aAt A k
section LAY
variable {E : tp_E} {d : Nat} {σ : tp_M} {Q : Int32 → tp_M → Prop} {D : DD}
theorem sC_hand (h : okD D) (hc : cR σ D) {t k : Nat} (ht : t < pt (dP D)) (hk : k < pw (dP D)) (h1 : hand (dA D) t k → Q 1 σ) (h0 : ¬ hand (dA D) t k → Q 0 σ) : Ci E TC yX8_isAtHand iX8_isAtHand (d + 1 + 1) [.ref 9, .int (nI t), .int (nI k)] σ Q := by
  have h8 := h.1.1.2.2.2.2.1
  have h4 := h.1.1.2.2.2.1
  have hn8 := h.1.1.1
  have ce : σ 13 t = aPl (dA D) t := hc.2.1.2.2.2.2 t (by omega)
  refine eX8_isAtHand _ _ (sc_bearerOf (by omega) ?_)
  rw [ce]
  rcases h.2.1.2.2.2.2 t ht with e | e | ⟨j, hj, e⟩
  · rw [e, if_neg (show ¬ (0 : Int32) ≤ -1 by decide), if_pos rfl]
    refine sc_placeOf (by omega) ?_
    rw [ce, e, if_pos rfl]
    exact h1 (Or.inl e)
  · rw [e, if_neg (show ¬ (0 : Int32) ≤ -2 by decide), if_pos rfl]
    refine sc_placeOf (by omega) ?_
    rw [ce, e, if_neg (show ¬ (-2 : Int32) = -1 by decide)]
    refine h0 (fun q => ?_)
    rcases q with q | ⟨j, q, hj8, -⟩
    · rw [e] at q; exact absurd q (by decide)
    · rw [e] at q
      have := (fa_eq _ _).mp q
      have e2 : (-2 : Int32).toInt = -2 := by decide
      rw [nI_toInt (by omega)] at this
      omega
  · rw [e, if_pos (nI_pos' (by omega)), half (by omega), if_neg (nI_ne_m1 (by omega))]
    have hj2 : j / 2 < pw (dP D) := by omega
    have nh : ∀ (z : ¬ (j / 2 ≠ k ∧ aAt (dA D) (j / 2) = aAt (dA D) k)), ¬ hand (dA D) t k := fun z q => by
      rcases q with q | ⟨i, q, hi, q2⟩
      · rw [e] at q; exact nI_ne_m1 (by omega) q
      · rw [e, nI_eq (by omega) (by omega)] at q
        subst q
        exact z q2
    by_cases hjk : j / 2 = k
    · rw [if_pos (by rw [hjk])]
      exact h0 (nh (fun z => z.1 hjk))
    · rw [if_neg (by rw [nI_eq (by omega) (by omega)]; exact hjk)]
      refine sc_roomOf (by omega) (sc_roomOf (by omega) ?_)
      have a1 := (h.2.1.2.1 (j / 2) hj2).1
      have a2 := (h.2.1.2.1 k hk).1
      rw [show σ 10 (j / 2) = nI (aAt (dA D) (j / 2)) from hc.2.1.2.1 _ hj2, show σ 10 k = nI (aAt (dA D) k) from hc.2.1.2.1 _ hk]
      by_cases ha : aAt (dA D) (j / 2) = aAt (dA D) k
      · rw [if_pos (by rw [ha])]
        exact h1 (Or.inr ⟨j, e, by omega, hjk, ha⟩)
      · rw [if_neg (by rw [nI_eq (by omega) (by omega)]; exact ha)]
        exact h0 (nh (fun z => ha z.2))
end LAY
theorem op_lay {D : DD} (h : okD D) (x y z : Int32) : op_Q yX9_lay iX9_lay yX10_lay iX10_lay [.int x, .int y, .int z] D := by
  have h8 := h.1.1.2.2.2.2.1
  have h4 := h.1.1.2.2.2.1
  have hn8 := h.1.1.1
  rcases vrng x (pt (dP D)) (by omega) with ⟨t, ht, rfl⟩ | hx
  · have hc0 : ∀ {E : tp_E} {d : Nat} {σ : tp_M} {Q : Int32 → tp_M → Prop}, cR σ D → Q 1 σ → Ci E TC yX5_hasThing iX5_hasThing d [.ref 1, .int (nI t)] σ Q := fun hc hq => sc_hasThing_t hc.1.1.2.2.2.2.1 h8 ht hq
    have hm0 : ∀ {E : tp_E} {d : Nat} {σ : tp_M} {Q : Int32 → tp_M → Prop}, mR σ D → Q 1 σ → Ci E TM yX10_isThing iX10_isThing (d + 1) [.ref 0, .int (nI t)] σ Q := fun hm hq => sm_isThing_t hm.1.1.2.2.2.2.1 h8 ht hq
    rcases vrng y (pw (dP D)) (by omega) with ⟨k, hk, rfl⟩ | hy
    · have hc1 : ∀ {E : tp_E} {d : Nat} {σ : tp_M} {Q : Int32 → tp_M → Prop}, cR σ D → Q 1 σ → Ci E TC yX5_hasWaiter iX5_hasWaiter d [.ref 1, .int (nI k)] σ Q := fun hc hq => sc_hasWaiter_t hc.1.1.2.2.2.1 h4 hk hq
      have hm1 : ∀ {E : tp_E} {d : Nat} {σ : tp_M} {Q : Int32 → tp_M → Prop}, mR σ D → Q 1 σ → Ci E TM yX10_isWaiter iX10_isWaiter (d + 1) [.ref 0, .int (nI k)] σ Q := fun hm hq => sm_isWaiter_t hm.1.1.2.2.2.1 h4 hk hq
      rcases rng z 0 1 (by decide) with ⟨s, -, hs, rfl⟩ | hz
      · have htr := tray_sml h.1 (dA D) k
        have hg := gS_le h.1 (tray (dP D) (dA D) k)
        have hgt := h.1.2.2.2.1 t ht
        have hck := h.1.2.2.1 k hk
        -- the class up to isAtHand
        have cpre : ∀ {E : tp_E} {d : Nat} {σ : tp_M} {Q : Int32 → tp_M → Prop}, cR σ D → (hand (dA D) t k → (if gS (dP D) (tray (dP D) (dA D) k) + pG (dP D) t ≤ pC (dP D) k then Cv E TC yX4_remember iX4_remember (d + 1 + 1 + 1) [.ref 37, .ref 9] σ (fun σ19 => Ci E TC yX9_sideOf iX9_sideOf (d + 1 + 1 + 1) [.int (nI k), .int (nI s)] σ19 (fun v21 σ20 => Cv E TC yX8_put iX8_put (d + 1 + 1 + 1) [.ref 9, .int (nI t), .int v21] σ20 (fun σ22 => Q (nI (gS (dP D) (tray (dP D) (dA D) k) + pG (dP D) t)) σ22))) else Q (-1000000003) σ)) → (¬ hand (dA D) t k → Q (-1000000003) σ) → Ci E TC yX9_lay iX9_lay (d + 1 + 1 + 1 + 1) [.ref 0, .int (nI t), .int (nI k), .int (nI s)] σ Q := by
          intro E d σ Q hc q1 q0
          refine eX9_lay _ _ _ (hc0 hc ?_)
          rw [if_neg (by decide)]
          refine hc1 hc ?_
          rw [if_neg (by decide), if_neg (nI_pos (by omega)), if_pos (nI_leL 1 hs (by decide))]
          refine sC_tray h.1 h.2.1 hc.2.1 (by omega) (sC_weight h.1 hc.1 htr ⟨vin (by omega) (by decide), sC_hand h hc ht hk (fun hh => ?_) (fun hh => ?_)⟩)
          · rw [if_neg (by decide), vcl (by omega), vcl (by omega), show σ 5 t = nI (pG (dP D) t) from (hc.1.2.2.2.1 t ht).1, show σ 4 k = nI (pC (dP D) k) from (hc.1.2.2.1 k hk).2, nI_add]
            refine ⟨vin (by omega) (by decide), ?_⟩
            have := q1 hh
            by_cases hle : gS (dP D) (tray (dP D) (dA D) k) + pG (dP D) t ≤ pC (dP D) k
            · rw [if_pos hle] at this
              rw [if_pos (nI_le hle (by omega))]
              exact this
            · rw [if_neg hle] at this
              rw [if_neg (nI_ge (by omega) (by omega))]
              exact this
          · rw [if_pos rfl]
            exact q0 hh
        have mpre : ∀ {E : tp_E} {d : Nat} {σ : tp_M} {Q : Int32 → tp_M → Prop}, mR σ D → (hand (dA D) t k → (if gS (dP D) (tray (dP D) (dA D) k) + pG (dP D) t ≤ pC (dP D) k then Cv E TM yX10_minds iX10_minds (d + 1) [.ref 0] σ (fun σ9 => Q (nI (gS (dP D) (tray (dP D) (dA D) k) + pG (dP D) t)) (tp_u σ9 1 (50 + t) (nI (2 * k + s)))) else Q (-1000000003) σ)) → (¬ hand (dA D) t k → Q (-1000000003) σ) → Ci E TM yX10_lay iX10_lay (d + 1 + 1) [.ref 0, .int (nI t), .int (nI k), .int (nI s)] σ Q := by
          intro E d σ Q hm q1 q0
          have me : σ 1 (50 + t) = aPl (dA D) t := by have := hm.2.1.2.2.2.2 t ht; rw [Nat.zero_add] at this; exact this
          have tail : ∀ b : Bool, (b = true ↔ hand (dA D) t k) → Wi E TM iX10_lay (d + 1 + 1) Q 89 [(0, .ref 0), (1, .int (nI t)), (2, .int (nI k)), (3, .int (nI s))] [.int (bI b)] σ := by
            intro b hb
            refine bX10_lay_89 _ _ _ _ (sM_tray (b := 0) h.1 hm.1 (by decide) hm.2.1 (sM_weight h.1 hm.1 _ ⟨vin (by omega) (by decide), ?_⟩))
            cases b with
            | false =>
              rw [if_pos (by decide)]
              exact q0 (fun q => by have := hb.mpr q; cases this)
            | true =>
              rw [if_neg (by decide), vcl (by omega), vcl (by omega), (hm.1.2.2.2.1 t ht).1, hm.1.2.2.1 k hk, nI_add, lit_add 50, vcl (by omega), two_k, nI_add]
              refine ⟨vin (by omega) (by decide), ?_⟩
              have := q1 (hb.mp rfl)
              by_cases hle : gS (dP D) (tray (dP D) (dA D) k) + pG (dP D) t ≤ pC (dP D) k
              · rw [if_pos hle] at this
                rw [if_pos (nI_le hle (by omega))]
                exact Cv.mono this (fun σ9 q => ⟨vin (by omega) (by decide), q⟩)
              · rw [if_neg hle] at this
                rw [if_neg (nI_ge (by omega) (by omega))]
                exact this
          refine eX10_lay _ _ _ (hm0 hm ?_)
          rw [if_neg (by decide)]
          refine hm1 hm ?_
          rw [if_neg (by decide)]
          refine sm_inL_t 0 1 (by omega) hs (by decide) ?_
          rw [if_neg (by decide)]
          refine sm_whose (by omega) ?_
          rw [lit_add 50, vcl (by omega), me]
          refine ⟨vin (by omega) (by decide), ?_⟩
          rcases h.2.1.2.2.2.2 t ht with e | e | ⟨j, hj, e⟩
          · rw [e, if_pos rfl]
            exact tail true ⟨fun _ => Or.inl e, fun _ => rfl⟩
          · rw [e, if_neg (show ¬ (-2 : Int32) = -1 by decide), if_neg (show ¬ (0 : Int32) ≤ -2 by decide), if_pos rfl]
            refine tail false ⟨fun q => (by cases q), fun q => ?_⟩
            rcases q with q | ⟨j, q, hj8, -⟩
            · rw [e] at q; exact absurd q (by decide)
            · rw [e] at q
              have := (fa_eq _ _).mp q
              have e2 : (-2 : Int32).toInt = -2 := by decide
              rw [nI_toInt (by omega)] at this
              omega
          · have hj2 : j / 2 < pw (dP D) := by omega
            have nh : ∀ (z : ¬ (j / 2 ≠ k ∧ aAt (dA D) (j / 2) = aAt (dA D) k)), ¬ hand (dA D) t k := fun z q => by
              rcases q with q | ⟨i, q, hi, q2⟩
              · rw [e] at q; exact nI_ne_m1 (by omega) q
              · rw [e, nI_eq (by omega) (by omega)] at q
                subst q
                exact z q2
            rw [e, if_neg (nI_ne_m1 (by omega)), if_pos (nI_pos' (by omega)), half (by omega), if_neg (nI_ne_m1 (by omega))]
            by_cases hjk : j / 2 = k
            · rw [if_pos (by rw [hjk])]
              exact tail false ⟨fun q => (by cases q), fun q => absurd q (nh (fun z => z.1 hjk))⟩
            · rw [if_neg (by rw [nI_eq (by omega) (by omega)]; exact hjk), lit_add 2, lit_add 2, vcl (by omega), vcl (by omega)]
              have a1 := (h.2.1.2.1 (j / 2) hj2).1
              have a2 := (h.2.1.2.1 k hk).1
              have b1 : σ 1 (2 + j / 2) = nI (aAt (dA D) (j / 2)) := by have := hm.2.1.2.1 (j / 2) hj2; rw [Nat.zero_add] at this; exact this
              have b2 : σ 1 (2 + k) = nI (aAt (dA D) k) := by have := hm.2.1.2.1 k hk; rw [Nat.zero_add] at this; exact this
              refine ⟨vin (by omega) (by decide), vin (by omega) (by decide), ?_⟩
              rw [b1, b2]
              by_cases ha : aAt (dA D) (j / 2) = aAt (dA D) k
              · rw [if_pos (by rw [ha])]
                exact tail true ⟨fun _ => Or.inr ⟨j, e, by omega, hjk, ha⟩, fun _ => rfl⟩
              · rw [if_neg (by rw [nI_eq (by omega) (by omega)]; exact ha)]
                exact tail false ⟨fun q => (by cases q), fun q => absurd q (nh (fun z => ha z.2))⟩
        by_cases hh : hand (dA D) t k
        · by_cases hle : gS (dP D) (tray (dP D) (dA D) k) + pG (dP D) t ≤ pC (dP D) k
          · refine ⟨nI (gS (dP D) (tray (dP D) (dA D) k) + pG (dP D) t), dSetA (dSetU D (pushU (dU D) (dA D))) (aSetPl (dA D) t (nI (2 * k + s))), (okD.setU h).setA (h.2.1.setPl ht (Or.inr (Or.inr ⟨2 * k + s, by omega, rfl⟩))), fun E σ Q hc hq => cpre hc (fun _ => ?_) (fun q => absurd hh q), fun E σ Q hm hq => mpre hm (fun _ => ?_) (fun q => absurd hh q)⟩
            · rw [if_pos hle]
              refine sC_remember h hc (fun σ1 hc1 _ => sc_sideOf (sc_put (by omega) ?_))
              exact hq _ (hc1.setPl t _)
            · rw [if_pos hle]
              refine sM_minds h hm (fun σ1 hm1 => ?_)
              exact hq _ (hm1.setPl (okD.setU h) (by omega) _)
          · exact op_Q.ask (-1000000003) h (fun E σ Q hc hq => cpre hc (fun _ => by rw [if_neg hle]; exact hq) (fun q => absurd hh q)) (fun E σ Q hm hq => mpre hm (fun _ => by rw [if_neg hle]; exact hq) (fun q => absurd hh q))
        · exact op_Q.ask (-1000000003) h (fun E σ Q hc hq => cpre hc (fun q => absurd q hh) (fun _ => hq)) (fun E σ Q hm hq => mpre hm (fun q => absurd q hh) (fun _ => hq))
      · refine op_Q.ask (-1000000002) h (fun E σ Q hc hq => eX9_lay _ _ _ (hc0 hc ?_)) (fun E σ Q hm hq => eX10_lay _ _ _ (hm0 hm ?_))
        · rw [if_neg (by decide)]
          refine hc1 hc ?_
          rw [if_neg (by decide)]
          by_cases h0 : z < 0
          · rw [if_pos h0]; exact hq
          · rw [if_neg h0, if_neg (fun q => by
              rw [fa_lt] at h0
              rw [fa_le, lit_t 1 (by decide)] at q
              have e : (0 : Int32).toInt = 0 := by decide
              omega)]
            exact hq
        · rw [if_neg (by decide)]
          refine hm1 hm ?_
          rw [if_neg (by decide)]
          refine sm_inL_f 0 1 hz (by decide) (by decide) ?_
          rw [if_pos rfl]
          exact hq
    · refine op_Q.ask (-1000000001) h (fun E σ Q hc hq => eX9_lay _ _ _ (hc0 hc ?_)) (fun E σ Q hm hq => eX10_lay _ _ _ (hm0 hm ?_))
      · rw [if_neg (by decide)]
        refine sc_hasWaiter_f hc.1.1.2.2.2.1 h4 hy ?_
        rw [if_pos rfl]
        exact hq
      · rw [if_neg (by decide)]
        refine sm_isWaiter_f hm.1.1.2.2.2.1 h4 hy ?_
        rw [if_pos rfl]
        exact hq
  · refine op_Q.ask (-1000000001) h (fun E σ Q hc hq => eX9_lay _ _ _ ?_) (fun E σ Q hm hq => eX10_lay _ _ _ ?_)
    · refine sc_hasThing_f hc.1.1.2.2.2.2.1 h8 hx ?_
      rw [if_pos rfl]
      exact hq
    · refine sm_isThing_f hm.1.1.2.2.2.2.1 h8 hx ?_
      rw [if_pos rfl]
      exact hq

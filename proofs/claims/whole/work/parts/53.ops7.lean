/-! ===== the images ===== -/
theorem cU.clear {σ σ' : tp_M} {P : PD} {U : Nat × (Nat → AS)} (h : cU σ P U) (h1 : σ' 37 1 = σ 37 1) (h2 : σ' 37 2 = 0) : cU σ' P (0, U.2) := by
  obtain ⟨nx, n1, n2, n3, n4⟩ := h
  exact ⟨nx, n1, h1.trans n2, h2, fun j hj => absurd hj (Nat.not_lt_zero j)⟩
theorem img_st {i : Nat} (hi : i < 2) : isSt (15 + 6 * i + 1) := by
  rcases (show i = 0 ∨ i = 1 by omega) with rfl | rfl
  · exact stC_16
  · exact stC_22
theorem mul59 (u : Nat) : (59 : Int32) * nI u = nI (59 * u) := by rw [show (59 : Int32) = nI 59 from rfl, pk_mul]
def dKeep (D : DD) (i : Nat) : DD := (D.1, D.2.1, D.2.2.1, (0, (dU D).2), (fun j => if j = i then some (dA D, dZ D) else dI D j), D.2.2.2.2.2)
def dBack (D : DD) (a : AS × Int32) : DD := (D.1, a.1, a.2, (0, (dU D).2), D.2.2.2.2)
theorem op_keep {D : DD} (h : okD D) (x : Int32) : op_Q yX9_keep iX9_keep yX10_keep iX10_keep [.int x] D := by
  have hw : pw (dP D) ≤ 4 := h.1.1.2.2.2.1
  have ht : pt (dP D) ≤ 8 := h.1.1.2.2.2.2.1
  rcases rng x 0 1 (by decide) with ⟨i, -, hi, rfl⟩ | hx
  · refine ⟨1, dKeep D i, ?_, fun E σ Q hc hq => eX9_keep _ ?_, fun E σ Q hm hq => eX10_keep _ ?_⟩
    · obtain ⟨k1, k2, k3, k4, k5, k6⟩ := h
      have e : ∀ j, okI (dP D) (dI D j) → okI (dP D) (if j = i then some (dA D, dZ D) else dI D j) := fun j hj => by
        by_cases q : j = i
        · rw [if_pos q]; intro a ha; cases ha; exact ⟨k2, k3⟩
        · rw [if_neg q]; exact hj
      exact ⟨k1, k2, k3, ⟨Nat.zero_le 20, fun j hj => absurd hj (Nat.not_lt_zero j)⟩, ⟨e 0 k5.1, e 1 k5.2⟩, k6⟩
    · rw [if_neg (nI_pos (by omega)), if_pos (nI_ltL 2 (by omega) (by decide))]
      refine ⟨vin (by omega) (by decide), fun o ho => ?_⟩
      rw [vcl (by omega)] at ho
      subst ho
      obtain ⟨h1, h2, h3, h4, h5, h6, h7⟩ := hc
      refine sc_become (img_st (by omega)) stC_9 (by omega) (fun σ1 f1 e1 => eX4_forget ?_)
      generalize hσ2 : tp_u (tp_u (tp_u σ1 (15 + 6 * i) 1 (σ1 139 3)) (15 + 6 * i) 2 1) 37 2 0 = σ2
      have fr2 : ∀ q, q ≠ 37 → q ≠ 15 + 6 * i → σ2 q = σ1 q := fun q a b => by rw [← hσ2, uu3 _ _ _ a, uu3 _ _ _ b, uu3 _ _ _ b]
      have fr : ∀ q, q ≠ 37 → (q < 15 + 6 * i ∨ 15 + 6 * i + 5 < q) → σ2 q = σ q := fun q a b => by rw [fr2 q a (by omega), f1 q (by omega)]
      have ci : ∀ j, j < 2 → cI1 σ (dP D) j (dI D j) → cI1 σ2 (dP D) j (if j = i then some (dA D, dZ D) else dI D j) := fun j hj hcj => by
        by_cases q : j = i
        · subst q
          rw [if_pos rfl]
          refine ⟨?_, ?_, cS.fr (σ := σ1) (fun q a b => fr2 q (by omega) (by omega)) (cS.mv hw e1 h2)⟩
          · rw [← hσ2, uu3 _ _ _ (by omega), uu1]
          · show σ2 (15 + 6 * j) 1 = dZ D
            rw [← hσ2, uu3 _ _ _ (by omega), uu2 _ _ _ (by omega), uu1, f1 139 (by omega)]
            exact h3
        · rw [if_neg q]; exact hcj.fr (fun q a b => fr q (by omega) (by omega))
      refine hq σ2 ⟨h1.fr (fun q a b => fr q (by omega) (by omega)), h2.fr (fun q a b => fr q (by omega) (by omega)), by rw [fr 139 (by omega) (by omega)]; exact h3, h4.clear ?_ ?_, ⟨ci 0 (by omega) h5.1, ci 1 (by omega) h5.2⟩, h6.fr (congrFun (fr 27 (by omega) (by omega)) 2) (congrFun (fr 27 (by omega) (by omega)) 3) (fr 36 (by omega) (by omega)), h7.fr (fun q a b => fr q (by omega) (by omega))⟩
      · rw [← hσ2, uu2 _ _ _ (by omega), uu3 _ _ _ (by omega), uu3 _ _ _ (by omega), f1 37 (by omega)]
      · rw [← hσ2, uu1]
    · refine sm_inL_t 0 1 (by omega) hi (by decide) ?_
      rw [if_neg (by decide), mul59, lit_add 118]
      obtain ⟨g1, g2, g3, g4, g5, g6, g7⟩ := hm
      refine sm_copy (a := 0) (by omega) (by omega) (by omega) (fun σ1 b1 b2 b3 => ⟨vin (by omega) (by decide), ?_⟩)
      rw [vcl (by omega)]
      generalize hσ2 : tp_u (tp_u σ1 2 i 1) 0 2 0 = σ2
      have f0 : ∀ k, k ≠ 2 → σ2 0 k = σ 0 k := fun k hk => by rw [← hσ2, uu2 _ _ _ hk, uu3 _ _ _ (by omega), b3 0 (by omega)]
      have fq : ∀ q, 3 ≤ q → σ2 q = σ q := fun q hq => by rw [← hσ2, uu3 _ _ _ (by omega), uu3 _ _ _ (by omega), b3 q (by omega)]
      have f1 : ∀ k, (k < 118 + 59 * i ∨ 118 + 59 * i + 59 ≤ k) → σ2 1 k = σ 1 k := fun k hk => by rw [← hσ2, uu3 _ _ _ (by omega), uu3 _ _ _ (by omega), b2 k hk]
      have mi : ∀ j, j < 2 → mI1 σ (dP D) j (dI D j) → mI1 σ2 (dP D) j (if j = i then some (dA D, dZ D) else dI D j) := fun j hj hcj => by
        by_cases q : j = i
        · subst q
          rw [if_pos rfl]
          refine ⟨?_, ?_, mS.mv (b := 0) hw ht (fun k hk => ?_) g2⟩
          · rw [← hσ2, uu3 _ _ _ (by omega), uu1]
          · show σ2 1 (118 + 59 * j + 58) = dZ D
            rw [← hσ2, uu3 _ _ _ (by omega), uu3 _ _ _ (by omega), b1 58 (by omega)]
            exact g3
          · rw [← hσ2, uu3 _ _ _ (by omega), uu3 _ _ _ (by omega), b1 k (by omega)]
        · rw [if_neg q]
          refine hcj.fr hw ht ?_ (fun k a b => f1 k (by omega))
          rw [← hσ2, uu3 _ _ _ (by omega), uu2 _ _ _ q, b3 2 (by omega)]
      exact hq σ2 ⟨g1.fr (fun k a => f0 k (by omega)) (fun q a b => fq q (by omega)), g2.fr hw ht (fun k a b => f1 k (by omega)), by rw [f1 58 (by omega)]; exact g3, ⟨by rw [← hσ2, uu1]; rfl, fun j hj => absurd hj (Nat.not_lt_zero j)⟩, ⟨mi 0 (by omega) g5.1, mi 1 (by omega) g5.2⟩, g6.fr (f0 16 (by omega)) (f0 21 (by omega)) (fq 9 (by omega)), g7.fr (f0 39 (by omega)) (f0 43 (by omega)) (fun q a b => fq q (by omega))⟩
  · refine op_Q.ask (-1000000001) h (fun E σ Q hc hq => eX9_keep _ ?_) (fun E σ Q hm hq => eX10_keep _ (sm_inL_f 0 1 hx (by decide) (by decide) ?_))
    · by_cases h0 : x < 0
      · rw [if_pos h0]; exact hq
      · rw [if_neg h0, if_neg (fun q => by
          rw [fa_lt] at h0
          rw [fa_lt, lit_t 2 (by decide)] at q
          have e : (0 : Int32).toInt = 0 := by decide
          omega)]
        exact hq
    · rw [if_pos rfl]; exact hq
theorem op_goBack {D : DD} (h : okD D) (x : Int32) : op_Q yX9_goBack iX9_goBack yX10_goBack iX10_goBack [.int x] D := by
  have hw : pw (dP D) ≤ 4 := h.1.1.2.2.2.1
  have ht : pt (dP D) ≤ 8 := h.1.1.2.2.2.2.1
  rcases rng x 0 1 (by decide) with ⟨i, -, hi, rfl⟩ | hx
  · have ci : ∀ {σ : tp_M}, cR σ D → cI1 σ (dP D) i (dI D i) := fun hc => by
      rcases (show i = 0 ∨ i = 1 by omega) with rfl | rfl
      · exact hc.2.2.2.2.1.1
      · exact hc.2.2.2.2.1.2
    have mi : ∀ {σ : tp_M}, mR σ D → mI1 σ (dP D) i (dI D i) := fun hc => by
      rcases (show i = 0 ∨ i = 1 by omega) with rfl | rfl
      · exact hc.2.2.2.2.1.1
      · exact hc.2.2.2.2.1.2
    have oi : okI (dP D) (dI D i) := by
      rcases (show i = 0 ∨ i = 1 by omega) with rfl | rfl
      · exact h.2.2.2.2.1.1
      · exact h.2.2.2.2.1.2
    cases hx : dI D i with
    | none =>
      refine op_Q.ask (-1000000003) h (fun E σ Q hc hq => eX9_goBack _ ?_) (fun E σ Q hm hq => eX10_goBack _ (sm_inL_t 0 1 (by omega) hi (by decide) ?_))
      · rw [if_neg (nI_pos (by omega)), if_pos (nI_ltL 2 (by omega) (by decide))]
        refine ⟨vin (by omega) (by decide), fun o ho => ?_⟩
        rw [vcl (by omega)] at ho
        subst ho
        have c := ci hc
        rw [hx] at c
        rw [if_pos (show σ (15 + 6 * i) 2 = 0 from c)]
        exact hq
      · have c := mi hm
        rw [hx] at c
        rw [if_neg (by decide), vcl (by omega), if_pos (show σ 2 i = 0 from c)]
        exact ⟨vin (by omega) (by decide), hq⟩
    | some a =>
      have oa := oi a hx
      refine ⟨1, dBack D a, ?_, fun E σ Q hc hq => eX9_goBack _ ?_, fun E σ Q hm hq => eX10_goBack _ (sm_inL_t 0 1 (by omega) hi (by decide) ?_)⟩
      · obtain ⟨k1, k2, k3, k4, k5⟩ := h
        exact ⟨k1, oa.1, oa.2, ⟨Nat.zero_le 20, fun j hj => absurd hj (Nat.not_lt_zero j)⟩, k5⟩
      · rw [if_neg (nI_pos (by omega)), if_pos (nI_ltL 2 (by omega) (by decide))]
        refine ⟨vin (by omega) (by decide), fun o ho => ?_⟩
        rw [vcl (by omega)] at ho
        subst ho
        have c := ci hc
        rw [hx] at c
        obtain ⟨c1, c2, c3⟩ := c
        rw [c1, if_neg (show ¬ (1 : Int32) = 0 by decide)]
        obtain ⟨h1, h2, h3, h4, h5, h6, h7⟩ := hc
        refine sc_become stC_9 (img_st (by omega)) (by omega) (fun σ1 f1 e1 => eX4_forget ?_)
        generalize hσ2 : tp_u (tp_u σ1 139 3 (σ1 (15 + 6 * i) 1)) 37 2 0 = σ2
        have fr2 : ∀ q, q ≠ 37 → q ≠ 139 → σ2 q = σ1 q := fun q a b => by rw [← hσ2, uu3 _ _ _ a, uu3 _ _ _ b]
        have fr : ∀ q, q ≠ 37 → q ≠ 139 → (q < 9 ∨ 13 < q) → σ2 q = σ q := fun q a b c => by rw [fr2 q a b, f1 q (by omega)]
        refine hq σ2 ⟨h1.fr (fun q a b => fr q (by omega) (by omega) (by omega)), cS.fr (σ := σ1) (fun q a b => fr2 q (by omega) (by omega)) (cS.mv hw e1 c3), ?_, h4.clear ?_ ?_, ⟨h5.1.fr (fun q a b => fr q (by omega) (by omega) (by omega)), h5.2.fr (fun q a b => fr q (by omega) (by omega) (by omega))⟩, h6.fr (congrFun (fr 27 (by omega) (by omega) (by omega)) 2) (congrFun (fr 27 (by omega) (by omega) (by omega)) 3) (fr 36 (by omega) (by omega) (by omega)), h7.fr (fun q a b => fr q (by omega) (by omega) (by omega))⟩
        · rw [← hσ2, uu3 _ _ _ (by omega), uu1, f1 _ (by omega)]; exact c2
        · rw [← hσ2, uu2 _ _ _ (by omega), uu3 _ _ _ (by omega), f1 37 (by omega)]
        · rw [← hσ2, uu1]
      · have c := mi hm
        rw [hx] at c
        obtain ⟨c1, c2, c3⟩ := c
        rw [if_neg (by decide), vcl (by omega), c1, if_neg (show ¬ (1 : Int32) = 0 by decide), mul59, lit_add 118]
        refine ⟨vin (by omega) (by decide), ?_⟩
        obtain ⟨g1, g2, g3, g4, g5, g6, g7⟩ := hm
        refine sm_copy (b := 0) (by omega) (by omega) (by omega) (fun σ1 b1 b2 b3 => ?_)
        generalize hσ2 : tp_u σ1 0 2 0 = σ2
        have f0 : ∀ k, k ≠ 2 → σ2 0 k = σ 0 k := fun k hk => by rw [← hσ2, uu2 _ _ _ hk, b3 0 (by omega)]
        have fq : ∀ q, 2 ≤ q → σ2 q = σ q := fun q hq => by rw [← hσ2, uu3 _ _ _ (by omega), b3 q (by omega)]
        have f1 : ∀ k, 59 ≤ k → σ2 1 k = σ 1 k := fun k hk => by rw [← hσ2, uu3 _ _ _ (by omega), b2 k (by omega)]
        have f1' : ∀ k, k < 59 → σ2 1 (0 + k) = σ 1 (118 + 59 * i + k) := fun k hk => by rw [← hσ2, uu3 _ _ _ (by omega), b1 k hk]
        exact hq σ2 ⟨g1.fr (fun k a => f0 k (by omega)) (fun q a b => fq q (by omega)), mS.mv hw ht (fun k hk => f1' k (by omega)) c3, (f1' 58 (by omega)).trans c2, ⟨by rw [← hσ2, uu1]; rfl, fun j hj => absurd hj (Nat.not_lt_zero j)⟩, ⟨g5.1.fr hw ht (by rw [fq 2 (by omega)]) (fun q a b => f1 q (by omega)), g5.2.fr hw ht (by rw [fq 2 (by omega)]) (fun q a b => f1 q (by omega))⟩, g6.fr (f0 16 (by omega)) (f0 21 (by omega)) (fq 9 (by omega)), g7.fr (f0 39 (by omega)) (f0 43 (by omega)) (fun q a b => fq q (by omega))⟩
  · refine op_Q.ask (-1000000001) h (fun E σ Q hc hq => eX9_goBack _ ?_) (fun E σ Q hm hq => eX10_goBack _ (sm_inL_f 0 1 hx (by decide) (by decide) ?_))
    · by_cases h0 : x < 0
      · rw [if_pos h0]; exact hq
      · rw [if_neg h0, if_neg (fun q => by
          rw [fa_lt] at h0
          rw [fa_lt, lit_t 2 (by decide)] at q
          have e : (0 : Int32).toInt = 0 := by decide
          omega)]
        exact hq
    · rw [if_pos rfl]; exact hq
/-! ===== the treaties ===== -/
def trv (s : Int32) (b : Bool) (j : Nat) : Int32 := if bI b = 0 then s &&& (((1 : Int32) <<< (nI j &&& 31)) ^^^ (-1)) else s ||| ((1 : Int32) <<< (nI j &&& 31))
def aSetTr (A : AS) (k : Nat) (v : Int32) : AS := (A.1, A.2.1, A.2.2.1, A.2.2.2.1, va_up (aTr A) k v, A.2.2.2.2.2)
theorem cS.setTr {σ : tp_M} {P : PD} {A : AS} {t : Nat} {v : Int32} (h : cS σ 9 P A) : cS (tp_u σ 12 t v) 9 P (aSetTr A t v) := by
  obtain ⟨h1, h2, h3, h4, h5⟩ := h
  refine ⟨by rw [uu3 _ _ _ (by omega)]; exact h1, fun k hk => by rw [uu3 _ _ _ (by omega)]; exact h2 k hk, fun k hk => by rw [uu3 _ _ _ (by omega)]; exact h3 k hk, fun s hs => ?_, fun k hk => by rw [uu3 _ _ _ (by omega)]; exact h5 k hk⟩
  show tp_u σ 12 t v 12 s = va_up (aTr A) t v s
  unfold va_up
  by_cases hst : s = t
  · rw [if_pos hst, hst, uu1]
  · rw [if_neg hst, uu2 _ _ _ hst]; exact h4 s hs
theorem mS.setTr {σ : tp_M} {P : PD} {A : AS} {b t : Nat} {v : Int32} (hw : pw P ≤ 4) (ht : t < 4) (h : mS σ b P A) : mS (tp_u σ 1 (b + 46 + t) v) b P (aSetTr A t v) := by
  obtain ⟨h1, h2, h3, h4, h5⟩ := h
  refine ⟨⟨by rw [uu2 _ _ _ (by omega)]; exact h1.1, by rw [uu2 _ _ _ (by omega)]; exact h1.2⟩, fun k hk => by rw [uu2 _ _ _ (by omega)]; exact h2 k hk, fun k hk => ⟨by rw [uu2 _ _ _ (by omega)]; exact (h3 k hk).1, fun e he => ?_⟩, fun s hs => ?_, fun k hk => by rw [uu2 _ _ _ (by omega)]; exact h5 k hk⟩
  · have := nd_le (aRt A k)
    have he : e < nd (aRt A k) := he
    rw [uu2 _ _ _ (by omega)]
    exact (h3 k hk).2 e he
  · show tp_u σ 1 (b + 46 + t) v 1 (b + 46 + s) = va_up (aTr A) t v s
    unfold va_up
    by_cases hst : s = t
    · rw [if_pos hst, hst, uu1]
    · rw [if_neg hst, uu2 _ _ _ (by omega)]; exact h4 s hs
theorem cR.setTr {σ : tp_M} {D : DD} (hc : cR σ D) (t : Nat) (v : Int32) : cR (tp_u σ 12 t v) (dSetA D (aSetTr (dA D) t v)) := hc.setA hc.2.1.setTr (fun q a => uu3 _ _ _ (by omega))
theorem mR.setTr {σ : tp_M} {D : DD} (hok : okD D) (hm : mR σ D) {t : Nat} (ht : t < 4) (v : Int32) : mR (tp_u σ 1 (46 + t) v) (dSetA D (aSetTr (dA D) t v)) := by
  have := (hm.2.1).setTr (t := t) (v := v) hok.1.1.2.2.2.1 ht
  rw [Nat.zero_add] at this
  exact hm.setA hok this (fun i a b => uu2 _ _ _ (by omega)) (fun q a => uu3 _ _ _ a)
theorem sc_setTreaty {E : tp_E} {d : Nat} {σ : tp_M} {Q : tp_M → Prop} {k j : Nat} {b : Bool} (hk : k < 4) (hj : j < 4) (h : Q (tp_u σ 12 k (trv (σ 12 k) b j))) : Cv E TC yX8_setTreaty iX8_setTreaty (d + 1) [.ref 9, .int (nI k), .int (nI j), .int (bI b)] σ Q := by
  refine eX8_setTreaty _ _ _ (sc_isSeat hk ?_)
  rw [if_neg (by decide)]
  refine sc_isSeat hj ?_
  rw [if_neg (by decide), vcl (by omega)]
  unfold trv at h
  by_cases hb : bI b = 0
  · rw [if_pos hb] at h ⊢
    exact ⟨vin hk (by decide), vin hk (by decide), h⟩
  · rw [if_neg hb] at h ⊢
    exact ⟨vin hk (by decide), vin hk (by decide), h⟩
theorem op_treaty {D : DD} (h : okD D) (x y : Int32) (b : Bool) : op_Q yX9_treaty iX9_treaty yX10_treaty iX10_treaty [.int x, .int y, .int (bI b)] D := by
  have h4 := h.1.1.2.2.2.1
  by_cases hxy : vp_in x (pw (dP D)) ∧ vp_in y (pw (dP D)) ∧ x ≠ y
  · obtain ⟨hx, hy, hne⟩ := hxy
    obtain ⟨j, hj, rfl⟩ := vp_in_of hx (by omega)
    obtain ⟨k, hk, rfl⟩ := vp_in_of hy (by omega)
    have hjk : j ≠ k := fun q => hne (by rw [q])
    have hok : okD (dSetA (dSetU D (pushU (dU D) (dA D))) (aSetTr (dA D) j (trv (aTr (dA D) j) b k))) := (okD.setU h).setA (A := aSetTr (dA D) j (trv (aTr (dA D) j) b k)) h.2.1
    refine ⟨if bt (aTr (dA D) j) k = true then 1 else 0, dSetA (dSetU D (pushU (dU D) (dA D))) (aSetTr (aSetTr (dA D) j (trv (aTr (dA D) j) b k)) k (trv (aTr (dA D) k) b j)), (okD.setU h).setA (A := aSetTr (aSetTr (dA D) j (trv (aTr (dA D) j) b k)) k (trv (aTr (dA D) k) b j)) h.2.1, fun E σ Q hc hq => eX9_treaty _ _ _ (sc_two_t hc.1.1.2.2.2.1 h4 hj hk hjk ?_), fun E σ Q hm hq => eX10_treaty _ _ _ (sm_two_t hm.1.1.2.2.2.1 h4 hj hk hjk ?_)⟩
    · rw [if_neg (by decide)]
      refine sC_remember h hc (fun σ1 hc1 _ => sc_treatiesOf (by omega) ?_)
      have e1 : σ1 12 j = aTr (dA D) j := hc1.2.1.2.2.2.1 j hj
      have e2 : σ1 12 k = aTr (dA D) k := hc1.2.1.2.2.2.1 k hk
      rw [e1]
      refine sc_has (by omega) ?_
      have fin : ∀ v : Int32, v = (if bt (aTr (dA D) j) k = true then 1 else 0) → Wi E TC iX9_treaty 8 Q 46 [(0, .ref 0), (1, .int (nI j)), (2, .int (nI k)), (3, .int (bI b))] [.int v] σ1 := fun v hv => by
        refine bX9_treaty_46 _ _ _ _ (sc_setTreaty (by omega) (by omega) (sc_setTreaty (by omega) (by omega) ?_))
        rw [e1, uu2 _ _ _ (Ne.symm hjk), e2, hv]
        exact hq _ ((hc1.setTr j _).setTr k _)
      by_cases hb : bt (aTr (dA D) j) k = true
      · rw [if_pos hb, if_neg (by decide)]
        exact fin 1 (by rw [if_pos hb])
      · rw [if_neg hb, if_pos rfl]
        exact fin 0 (by rw [if_neg hb])
    · rw [if_neg (by decide)]
      refine sM_minds h hm (fun σ1 hm1 => ?_)
      have e1 : σ1 1 (46 + j) = aTr (dA D) j := by have := hm1.2.1.2.2.2.1 j hj; rw [Nat.zero_add] at this; exact this
      have e2 : σ1 1 (46 + k) = aTr (dA D) k := by have := hm1.2.1.2.2.2.1 k hk; rw [Nat.zero_add] at this; exact this
      have ev : ((aTr (dA D) j >>> (nI k &&& 31)) &&& 1) = (if bt (aTr (dA D) j) k = true then 1 else 0) := by
        by_cases hb : bt (aTr (dA D) j) k = true
        · rw [if_pos hb]; exact (hb_bt _ (by omega)).mpr hb
        · rw [if_neg hb]; exact hb_0 _ (by omega) (by cases q : bt (aTr (dA D) j) k; rfl; exact absurd q hb)
      rw [lit_add 46, vcl (by omega), e1, ev]
      have fin : ∀ s : Int32, s = trv (aTr (dA D) j) b k → Wi E TM iX10_treaty 8 Q 74 [(0, .ref 0), (1, .int (nI j)), (2, .int (nI k)), (3, .int (bI b)), (4, .int (if bt (aTr (dA D) j) k = true then 1 else 0))] [.int s, .int (nI (46 + j)), .ref 1] σ1 := fun s hs => by
        refine bX10_treaty_74 _ _ _ _ _ _ ?_
        rw [lit_add 46, vcl (by omega), vcl (by omega), uu2 _ _ _ (show 46 + k ≠ 46 + j by omega), e2, hs]
        have g := hq _ ((hm1.setTr (okD.setU h) (t := j) (by omega) (trv (aTr (dA D) j) b k)).setTr hok (t := k) (by omega) (trv (aTr (dA D) k) b j))
        refine ⟨vin (by omega) (by decide), ?_⟩
        rw [show trv (aTr (dA D) k) b j = if bI b = 0 then aTr (dA D) k &&& (((1 : Int32) <<< (nI j &&& 31)) ^^^ (-1)) else aTr (dA D) k ||| ((1 : Int32) <<< (nI j &&& 31)) from rfl] at g
        by_cases hb : bI b = 0
        · rw [if_pos hb] at g ⊢
          exact ⟨vin (by omega) (by decide), vin (by omega) (by decide), g⟩
        · rw [if_neg hb] at g ⊢
          exact ⟨vin (by omega) (by decide), vin (by omega) (by decide), g⟩
      refine ⟨vin (by omega) (by decide), ?_⟩
      by_cases hb : bI b = 0
      · rw [if_pos hb]
        exact ⟨vin (by omega) (by decide), fin _ (by unfold trv; rw [if_pos hb])⟩
      · rw [if_neg hb]
        exact ⟨vin (by omega) (by decide), fin _ (by unfold trv; rw [if_neg hb])⟩
  · refine op_Q.ask (-1000000001) h (fun E σ Q hc hq => eX9_treaty _ _ _ (sc_two_f hc.1.1.2.2.2.1 h4 hxy ?_)) (fun E σ Q hm hq => eX10_treaty _ _ _ (sm_two_f hm.1.1.2.2.2.1 h4 hxy ?_))
    · rw [if_pos rfl]; exact hq
    · rw [if_pos rfl]; exact hq

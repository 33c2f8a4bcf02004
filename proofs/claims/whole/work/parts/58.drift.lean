/-! ===== drift ===== -/
def dDrw (f : Nat → Nat) (D : DD) (z : Nat) : DD := dSetZ (dSetA D (drw f (dP D) (dA D, z)).1) (nI (drw f (dP D) (dA D, z)).2)
theorem dSetZ_self {D : DD} {z : Nat} (ez : dZ D = nI z) : dSetZ (dSetA D (dA D)) (nI z) = D := by
  obtain ⟨P, A, Z, R⟩ := D
  show (P, A, nI z, R) = (P, A, Z, R)
  rw [show Z = nI z from ez]
theorem drw_z {f : Nat → Nat} (hf : isL f) (P : PD) (A : AS) {z : Nat} (hz : z < 2147483648) : (drw f P (A, z)).2 < 2147483648 := by
  unfold drw
  by_cases h1 : pw P = 0
  · rw [if_pos h1]; exact hz
  · rw [if_neg h1]
    by_cases h2 : aRt (A, z).1 (f (A, z).2 / 65536 % pw P) = 0 ∧ pJ P (aAt (A, z).1 (f (A, z).2 / 65536 % pw P)) ≠ 0
    · rw [if_pos h2]
      cases mb (pJ P (aAt (A, z).1 (f (A, z).2 / 65536 % pw P))) 8 0 (f (f (A, z).2) / 65536 % ctN (pJ P (aAt (A, z).1 (f (A, z).2 / 65536 % pw P)))) with
      | none => exact hf.1 _
      | some r => exact hf.1 _
    · rw [if_neg h2]; exact hf.1 _
theorem drw_0 {f : Nat → Nat} {P : PD} {A : AS} {z : Nat} (h : pw P = 0) : drw f P (A, z) = (A, z) := by unfold drw; rw [if_pos h]
theorem drw_n {f : Nat → Nat} {P : PD} {A : AS} {z k : Nat} (h : pw P ≠ 0) (hk : f z / 65536 % pw P = k) (h2 : ¬ (aRt A k = 0 ∧ pJ P (aAt A k) ≠ 0)) : drw f P (A, z) = (A, f z) := by
  subst hk
  unfold drw
  rw [if_neg h, if_neg h2]
theorem drw_s {f : Nat → Nat} {P : PD} {A : AS} {z k r : Nat} (h : pw P ≠ 0) (hk : f z / 65536 % pw P = k) (h2 : aRt A k = 0 ∧ pJ P (aAt A k) ≠ 0) (hr : mb (pJ P (aAt A k)) 8 0 (f (f z) / 65536 % ctN (pJ P (aAt A k))) = some r) : drw f P (A, z) = (aSetRt A k (r + 1), f (f z)) := by
  subst hk
  unfold drw
  rw [if_neg h, if_pos h2]
  show (match mb (pJ P (aAt A (f z / 65536 % pw P))) 8 0 (f (f z) / 65536 % ctN (pJ P (aAt A (f z / 65536 % pw P)))) with | some r => (aSetRt A (f z / 65536 % pw P) (r + 1), f (f z)) | none => (A, f (f z))) = _
  rw [hr]
/-- the member that is drawn -/
theorem drw_mb {P : PD} (hP : okP P) {c z : Nat} (hc : c < pn P) (hJ : pJ P c ≠ 0) : onesF (pJ P c) = nI (ctN (pJ P c)) ∧ 1 ≤ ctN (pJ P c) ∧ ctN (pJ P c) ≤ 8 ∧ ∃ r, mb (pJ P c) 8 0 (z % ctN (pJ P c)) = some r ∧ r < 8 ∧ bt (pJ P c) r = true := by
  obtain ⟨j, hj, e⟩ := J_small hP hc
  rw [e] at hJ ⊢
  obtain ⟨c1, c2, c3, c4⟩ := ct_all j hj
  have hj0 : j ≠ 0 := fun q => hJ (by rw [q]; rfl)
  have h1 := c3 hj0
  have hlt : z % ctN (nI j) < ctN (nI j) := Nat.mod_lt _ (by omega)
  have hs := c4 _ (by omega) hlt
  refine ⟨c1, h1, c2, ?_⟩
  cases hm : mb (nI j) 8 0 (z % ctN (nI j)) with
  | none => rw [hm] at hs; cases hs
  | some r =>
    have := mb_in _ _ _ _ _ hm
    exact ⟨r, rfl, by omega, this.2.2⟩
theorem drw_ok {f : Nat → Nat} {P : PD} {A : AS} (hP : okP P) (hA : okA P A) (z : Nat) : okA P (drw f P (A, z)).1 ∧ aMi (drw f P (A, z)).1 = aMi A := by
  by_cases h : pw P = 0
  · rw [drw_0 h]; exact ⟨hA, rfl⟩
  · generalize hk : f z / 65536 % pw P = k
    have hk2 : k < pw P := by rw [← hk]; exact Nat.mod_lt _ (by omega)
    by_cases h2 : aRt A k = 0 ∧ pJ P (aAt A k) ≠ 0
    · obtain ⟨-, -, -, r, h3, h4, h5⟩ := drw_mb (z := f (f z) / 65536) hP (hA.2.1 k hk2).1 h2.2
      rw [drw_s h hk h2 h3]
      exact ⟨hA.setRt hk2 (chn_one hP (hA.2.1 k hk2).1 h4 h5), rfl⟩
    · rw [drw_n h hk h2]; exact ⟨hA, rfl⟩
section DR2
variable {f : Nat → Nat} {E : tp_E} {d : Nat} {σ : tp_M} {D : DD} {z : Nat}
theorem sC_drawRoute {Q : tp_M → Prop} (hf : isL f) (h : okD D) (hz : z < 2147483648) (ez : dZ D = nI z) (hc : cR σ D) (hq : ∀ σ', cR σ' (dDrw f D z) → Q σ') : Cv E TC yX0_drawRoute iX0_drawRoute (d + 1 + 1 + 1) [.ref 139] σ Q := by
  have hP := h.1
  have hA := h.2.1
  have h4 := hP.1.2.2.2.1
  have h8 := hP.1.1
  unfold dDrw at hq
  refine eX0_drawRoute ?_
  rw [hc.1.1.2.2.2.1]
  by_cases hw : pw (dP D) = 0
  · rw [if_pos (by rw [hw]; rfl)]
    rw [drw_0 hw, dSetZ_self ez] at hq
    exact hq σ hc
  · rw [if_neg (by rw [nI_eqL 0 (by omega) (by decide)]; exact hw)]
    refine sC_draw hf hz (by omega) (by omega) (hc.2.2.1.trans ez) ?_
    generalize hk : f z / 65536 % pw (dP D) = k
    have hk2 : k < pw (dP D) := by rw [← hk]; exact Nat.mod_lt _ (by omega)
    have hc1 := hc.setZ (nI (f z))
    generalize tp_u σ 139 3 (nI (f z)) = σ1 at hc1
    have hat := (hA.2.1 k hk2).1
    have hrt := okA_rt hA k
    refine sc_roomOf (by omega) ?_
    rw [show σ1 10 k = nI (aAt (dA D) k) from hc1.2.1.2.1 k hk2]
    refine sc_joinedTo hc1.1.1.1 h8 hat ?_
    rw [show σ1 2 (aAt (dA D) k) = pJ (dP D) (aAt (dA D) k) from hc1.1.2.1 _ (by omega)]
    refine sc_routeOf (by omega) ?_
    rw [show σ1 11 k = nI (aRt (dA D) k) from hc1.2.1.2.2.1 k (by omega)]
    by_cases h0 : aRt (dA D) k = 0
    · rw [if_pos (by rw [h0]; rfl)]
      by_cases hJ : pJ (dP D) (aAt (dA D) k) = 0
      · rw [if_pos hJ]
        rw [drw_n hw hk (fun q => q.2 hJ)] at hq
        exact hq σ1 hc1
      · rw [if_neg hJ]
        obtain ⟨b1, b2, b3, r, b4, b5, b6⟩ := drw_mb (z := f (f z) / 65536) hP hat hJ
        rw [drw_s hw hk ⟨h0, hJ⟩ b4] at hq
        refine sC_bits (fun i a b => ?_) ?_
        · cases q : bt (pJ (dP D) (aAt (dA D) k)) i
          · rfl
          · have := (hP.2.1 _ i (by omega) b q).1
            omega
        · rw [b1]
          refine sC_draw hf (hf.1 z) b2 (by omega) hc1.2.2.1 (sC_member (by have := Nat.mod_lt (f (f z) / 65536) b2; omega) ?_)
          have hc2 := hc1.setZ (nI (f (f z)))
          generalize tp_u σ1 139 3 (nI (f (f z))) = σ2 at hc2
          rw [b4]
          show Cv E TC yX8_setRoute iX8_setRoute _ [.ref 9, .int (nI k), .int (nI r + 1)] σ2 _
          rw [nI_1]
          refine eX8_setRoute _ _ (sc_isSeat (by omega) ?_)
          rw [if_neg (by decide), vcl (by omega)]
          exact ⟨vin (by omega) (by decide), hq _ (hc2.setA hc2.2.1.setRt (fun q a => uu3 _ _ _ (by omega)))⟩
    · rw [if_neg (by rw [nI_eqL 0 (by omega) (by decide)]; exact h0)]
      rw [drw_n hw hk (fun q => h0 q.1)] at hq
      exact hq σ1 hc1
theorem sM_drawRoute {Q : Int32 → tp_M → Prop} {n j : Nat} (hj : j < n) (hn : n ≤ 60) (hf : isL f) (h : okD D) (hz : z < 2147483648) (ez : dZ D = nI z) (hm : mR σ D) (hq : ∀ σ', mR σ' (dDrw f D z) → Cv E TM yX10_passes iX10_passes (d + 1) [.ref 0, .int 0] σ' (fun σ2 => Wi E TM iX10_drift (d + 1 + 1) Q 46 [(0, .ref 0), (1, .int (nI n)), (2, .int (nI (j + 1)))] [] σ2)) : Wi E TM iX10_drift (d + 1 + 1) Q 46 [(0, .ref 0), (1, .int (nI n)), (2, .int (nI j))] [] σ := by
  have hP := h.1
  have hA := h.2.1
  have h4 := hP.1.2.2.2.1
  have ht := hP.1.2.2.2.2.1
  have h8 := hP.1.1
  unfold dDrw at hq
  refine bX10_drift_46 _ _ ?_
  rw [if_neg (nI_ge hj (by omega)), hm.1.1.2.2.2.1]
  by_cases hw : pw (dP D) = 0
  · rw [if_pos (by rw [hw]; decide)]
    rw [drw_0 hw, dSetZ_self ez] at hq
    refine bX10_drift_70 _ _ _ ?_
    rw [if_pos rfl]
    refine bX10_drift_105 _ _ _ _ ?_
    rw [if_pos rfl, nI_1]
    exact hq σ hm
  · rw [if_neg (nI_nleL 0 (by omega) (by omega))]
    refine sM_draw hf hz (by omega) (by omega) (hm.2.2.1.trans ez) ?_
    generalize hk : f z / 65536 % pw (dP D) = k
    have hk2 : k < pw (dP D) := by rw [← hk]; exact Nat.mod_lt _ (by omega)
    have hm1 := hm.setZ h (nI (f z))
    generalize tp_u σ 1 58 (nI (f z)) = σ1 at hm1
    have hat := (hA.2.1 k hk2).1
    have hrt := okA_rt hA k
    have hok1 : okD (dSetZ D (nI (f z))) := okD.setZ h (nI_pos' (hf.1 z))
    have e2 : σ1 1 (2 + k) = nI (aAt (dA D) k) := by have := hm1.2.1.2.1 k hk2; rw [Nat.zero_add] at this; exact this
    have e6 : σ1 1 (6 + k) = nI (nd (aRt (dA D) k)) := by have := (hm1.2.1.2.2.1 k hk2).1; rw [Nat.zero_add] at this; exact this
    refine bX10_drift_70 _ _ _ ?_
    rw [if_neg (nI_ne_m1 (by omega)), lit_add 6, vcl (by omega), e6, lit_add 2, vcl (by omega), e2, vcl (by omega), hm1.1.2.1 _ (show aAt (dA D) k < 8 by omega)]
    refine ⟨vin (by omega) (by decide), ?_⟩
    have hnd := nd_le (aRt (dA D) k)
    by_cases h0 : aRt (dA D) k = 0
    · rw [if_pos (by rw [h0]; decide)]
      refine ⟨vin (by omega) (by decide), vin (by omega) (by decide), bX10_drift_105 _ _ _ _ ?_⟩
      by_cases hJ : pJ (dP D) (aAt (dA D) k) = 0
      · rw [show pJ (dSetZ D (nI (f z))).1 (aAt (dA D) k) = 0 from hJ, if_pos rfl, nI_1]
        rw [drw_n hw hk (fun q => q.2 hJ)] at hq
        exact hq σ1 hm1
      · rw [if_neg (show ¬ pJ (dSetZ D (nI (f z))).1 (aAt (dA D) k) = 0 from hJ)]
        obtain ⟨b1, b2, b3, r, b4, b5, b6⟩ := drw_mb (z := f (f z) / 65536) hP hat hJ
        rw [drw_s hw hk ⟨h0, hJ⟩ b4] at hq
        refine sM_ones ?_
        show Ci E TM yX10_draw iX10_draw _ [.ref 0, .int (onesF (pJ (dP D) (aAt (dA D) k)))] σ1 _
        rw [b1]
        refine sM_draw hf (hf.1 z) b2 (by omega) hm1.2.2.1 (sM_nth (by have := Nat.mod_lt (f (f z) / 65536) b2; omega) ?_)
        have hm2 := hm1.setZ hok1 (nI (f (f z)))
        have hok2 : okD (dSetZ D (nI (f (f z)))) := okD.setZ h (nI_pos' (hf.1 _))
        generalize tp_u σ1 1 58 (nI (f (f z))) = σ2 at hm2
        rw [show mb (pJ (dSetZ D (nI (f z))).1 (aAt (dA D) k)) 8 0 (f (f z) / 65536 % ctN (pJ (dP D) (aAt (dA D) k))) = some r from b4, mul9, lit_add 10, lit_add 6, vcl (by omega), vcl (by omega), nI_1]
        obtain ⟨o1, o2⟩ := one_fig r b5
        refine ⟨vin (by omega) (by decide), vin (by omega) (by decide), hq _ (hm2.setA hok2 (mS.setRt h4 ht hk2 hm2.2.1 ?_ (fun e he => ?_) (fun i a b => ?_)) (fun i a b => ?_) (fun q a => ?_))⟩
        · rw [uu1, o1]; rfl
        · rw [o1] at he
          have he0 : e = 0 := by omega
          subst he0
          rw [uu2 _ _ _ (by omega), Nat.add_zero, uu1, o2]; rfl
        · rw [uu2 _ _ _ a, uu2 _ _ _ (by omega)]
        · rw [uu2 _ _ _ (by omega), uu2 _ _ _ (by omega)]
        · rw [uu3 _ _ _ a, uu3 _ _ _ a]
    · have hnd1 : nd (aRt (dA D) k) ≠ 0 := fun q => h0 ((nd_0 hrt).mp q)
      rw [if_neg (nI_nleL 0 (Nat.pos_of_ne_zero hnd1) (by omega))]
      refine bX10_drift_105 _ _ _ _ ?_
      rw [if_pos rfl, nI_1]
      rw [drw_n hw hk (fun q => h0 q.1)] at hq
      exact hq σ1 hm1
end DR2
/-- n drifting minutes -/
def dft (f : Nat → Nat) (P : PD) (x : AS × Nat) : AS × Nat := (tick P (drw f P x).1, (drw f P x).2)
def dfts (f : Nat → Nat) (P : PD) (x : AS × Nat) (n : Nat) : AS × Nat := itr (fun _ y => dft f P y) n x
theorem dfts_ok {f : Nat → Nat} (hf : isL f) {P : PD} {A : AS} (hP : okP P) (h : okA P A) {m z : Nat} (hm : m ≤ 9000) (hz : z < 2147483648) (e : aMi A = nI m) : ∀ n, n ≤ 60 → okA P (dfts f P (A, z) n).1 ∧ aMi (dfts f P (A, z) n).1 = nI (m + n) ∧ (dfts f P (A, z) n).2 < 2147483648
  | 0, _ => ⟨h, e, hz⟩
  | n + 1, hn => by
    obtain ⟨i1, i2, i3⟩ := dfts_ok hf hP h hm hz e n (by omega)
    show okA P (dft f P (dfts f P (A, z) n)).1 ∧ aMi (dft f P (dfts f P (A, z) n)).1 = nI (m + n + 1) ∧ (dft f P (dfts f P (A, z) n)).2 < 2147483648
    generalize dfts f P (A, z) n = y at i1 i2 i3
    obtain ⟨B, w⟩ := y
    obtain ⟨o1, o2⟩ := drw_ok hP i1 w
    refine ⟨okA_tick (m := m + n) hP o1 (by omega) (o2.trans i2), ?_, drw_z hf P B i3⟩
    show aMi (drw f P (B, w)).1 + 1 = _
    rw [o2, i2, nI_1]
theorem op_drift {D : DD} (h : okD D) (x : Int32) : op_Q yX9_drift iX9_drift yX10_drift iX10_drift [.int x] D := by
  obtain ⟨f, hf⟩ := isL_ex
  obtain ⟨m, hm, em⟩ := h.2.1.1
  have h8 := h.1.1.1
  rcases rng x 1 60 (by decide) with ⟨n, h1, h2, rfl⟩ | hx
  · have mpre : ∀ {E : tp_E} {d : Nat} {σ : tp_M} {Q : Int32 → tp_M → Prop}, mR σ D → (pn (dP D) = 0 → Q (-1000000003) σ) → (pn (dP D) ≠ 0 → 9000 < m → Q (-1000000004) σ) → (pn (dP D) ≠ 0 → m ≤ 9000 → Cv E TM yX10_minds iX10_minds (d + 1) [.ref 0] σ (fun σ7 => Wi E TM iX10_drift (d + 1 + 1) Q 46 [(0, .ref 0), (1, .int (nI n)), (2, .int 0)] [] σ7)) → Ci E TM yX10_drift iX10_drift (d + 1 + 1) [.ref 0, .int (nI n)] σ Q := by
      intro E d σ Q hmr k3 k4 k0
      refine eX10_drift _ (sm_inL_t 1 60 h1 h2 (by decide) ?_)
      rw [if_neg (by decide), hmr.1.1.1, show Int32.toNatClampNeg 0 = 0 from rfl, hmr.2.1.1.1, em]
      by_cases c : pn (dP D) = 0
      · rw [if_pos (by rw [c]; rfl)]; exact k3 c
      · rw [if_neg (by rw [nI_eqL 0 (by omega) (by decide)]; exact c)]
        refine ⟨vin (j := 0) (by decide) (by decide), ?_⟩
        by_cases c2 : m ≤ 9000
        · rw [if_pos (nI_leL 9000 c2 (by decide))]; exact k0 c c2
        · rw [if_neg (nI_nleL 9000 (by omega) (by omega))]; exact k4 c (by omega)
    by_cases c : pn (dP D) = 0
    · refine op_Q.ask (-1000000003) h (fun E σ Q hc hq => eX9_drift _ (sC_refusal h1 h2 hc h8 em hm (fun _ => ?_) (fun q => absurd c q) (fun q => absurd c q))) (fun E σ Q hmr hq => mpre hmr (fun _ => hq) (fun q => absurd c q) (fun q => absurd c q))
      rw [if_neg (by decide)]; exact hq
    · by_cases c2 : m ≤ 9000
      · obtain ⟨z, hz, ez⟩ : ∃ z, z < 2147483648 ∧ dZ D = nI z := by
          have h0 := h.2.2.1
          rw [fa_le] at h0
          have e0 : (0 : Int32).toInt = 0 := by decide
          have hl := Int32.toInt_lt (dZ D)
          refine ⟨(dZ D).toInt.toNat, by omega, ?_⟩
          rw [fa_eq, nI_toInt (by omega)]
          omega
        have okU := okD.setU h
        have dok := dfts_ok hf h.1 h.2.1 c2 hz em
        have oks : ∀ j, j ≤ 60 → okD (dSetZ (dSetA (dSetU D (pushU (dU D) (dA D))) (dfts f (dP D) (dA D, z) j).1) (nI (dfts f (dP D) (dA D, z) j).2)) := fun j hj => okD.setZ (okU.setA (dok j hj).1) (nI_pos' (dok j hj).2.2)
        refine ⟨aMe (dfts f (dP D) (dA D, z) n).1, _, oks n h2, fun E σ Q hc hq => eX9_drift _ (sC_refusal h1 h2 hc h8 em hm (fun q => absurd q c) (fun _ q => absurd c2 (by omega)) (fun _ _ => ?_)), fun E σ Q hmr hq => mpre hmr (fun q => absurd q c) (fun _ q => absurd c2 (by omega)) (fun _ _ => ?_)⟩
        · rw [if_pos rfl]
          refine sC_remember h hc (fun σ1 hc1 _ => ?_)
          refine lup (fun j s => Wi E TC iX9_drift 8 Q 25 [(0, .ref 0), (1, .int (nI n)), (3, .int (nI j))] [] s) (fun j s => cR s (dSetZ (dSetA (dSetU D (pushU (dU D) (dA D))) (dfts f (dP D) (dA D, z) j).1) (nI (dfts f (dP D) (dA D, z) j).2))) n ?_ ?_ 0 σ1 (Nat.zero_le _) (by rw [show dfts f (dP D) (dA D, z) 0 = (dA D, z) from rfl]; have e := dSetZ_self (D := dSetU D (pushU (dU D) (dA D))) ez; rw [← e] at hc1; exact hc1)
          · intro s hs
            refine bX9_drift_25 _ _ ?_
            rw [if_pos (nI_le (Nat.le_refl _) (by omega)), show s 9 1 = aMe (dfts f (dP D) (dA D, z) n).1 from hs.2.1.1.2]
            exact hq s hs
          · intro j s hj hs ih
            refine bX9_drift_25 _ _ ?_
            rw [if_neg (nI_ge hj (by omega)), nI_1]
            refine sC_drawRoute hf (oks j (by omega)) (dok j (by omega)).2.2 rfl hs (fun s' hs' => ?_)
            have okd := drw_ok (f := f) h.1 (dok j (by omega)).1 (dfts f (dP D) (dA D, z) j).2
            exact sC_tick (okD.setZ (okD.setA (oks j (by omega)) okd.1) (nI_pos' (drw_z hf _ _ (dok j (by omega)).2.2))) hs' (fun s2 hs2 => ih s2 hs2)
        · refine sM_minds h hmr (fun σ1 hm1 => ?_)
          refine lup (fun j s => Wi E TM iX10_drift 8 Q 46 [(0, .ref 0), (1, .int (nI n)), (2, .int (nI j))] [] s) (fun j s => mR s (dSetZ (dSetA (dSetU D (pushU (dU D) (dA D))) (dfts f (dP D) (dA D, z) j).1) (nI (dfts f (dP D) (dA D, z) j).2))) n ?_ ?_ 0 σ1 (Nat.zero_le _) (by rw [show dfts f (dP D) (dA D, z) 0 = (dA D, z) from rfl]; have e := dSetZ_self (D := dSetU D (pushU (dU D) (dA D))) ez; rw [← e] at hm1; exact hm1)
          · intro s hs
            refine bX10_drift_46 _ _ ?_
            rw [if_pos (nI_le (Nat.le_refl _) (by omega)), show Int32.toNatClampNeg 1 = 1 from rfl, show s 1 1 = aMe (dfts f (dP D) (dA D, z) n).1 from hs.2.1.1.2]
            exact ⟨vin (j := 1) (by decide) (by decide), hq s hs⟩
          · intro j s hj hs ih
            refine sM_drawRoute hj h2 hf (oks j (by omega)) (dok j (by omega)).2.2 rfl hs (fun s' hs' => ?_)
            have okd := drw_ok (f := f) h.1 (dok j (by omega)).1 (dfts f (dP D) (dA D, z) j).2
            exact sM_passes (okD.setZ (okD.setA (oks j (by omega)) okd.1) (nI_pos' (drw_z hf _ _ (dok j (by omega)).2.2))) hs' (fun s2 hs2 => ih s2 hs2)
      · refine op_Q.ask (-1000000004) h (fun E σ Q hc hq => eX9_drift _ (sC_refusal h1 h2 hc h8 em hm (fun q => absurd q c) (fun _ _ => ?_) (fun _ q => absurd q c2))) (fun E σ Q hmr hq => mpre hmr (fun q => absurd q c) (fun _ _ => hq) (fun _ q => absurd q c2))
        rw [if_neg (by decide)]; exact hq
  · refine op_Q.ask (-1000000002) h (fun E σ Q hc hq => eX9_drift _ (sC_refusal_r hx ?_)) (fun E σ Q hmr hq => eX10_drift _ (sm_inL_f 1 60 hx (by decide) (by decide) ?_))
    · rw [if_neg (by decide)]; exact hq
    · rw [if_pos rfl]; exact hq

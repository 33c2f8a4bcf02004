/-! ===== hotel ===== -/
section HT
variable {E : tp_E} {d : Nat} {σ : tp_M} {Q : Int32 → tp_M → Prop} {D : DD} {G : PD}
theorem cR.failT {σ' : tp_M} (hc : cR σ D) (a : Nat) (h2 : σ' 27 2 = 0) (h3 : σ' 27 3 = nI a) (fr : ∀ q, ¬ (27 ≤ q ∧ q ≤ 35) → σ' q = σ q) : cR σ' (dSetT D (0, (dT D).2.1, nI a)) := by
  obtain ⟨g1, g2, g3, g4, g5, g6, g7⟩ := hc
  exact ⟨g1.fr (fun q a b => fr q (by omega)), g2.fr (fun q a b => fr q (by omega)), by rw [fr 139 (by omega)]; exact g3, g4.fr (fun q a b => fr q (by omega)), ⟨g5.1.fr (fun q a b => fr q (by omega)), g5.2.fr (fun q a b => fr q (by omega))⟩, ⟨h2, fun i hi => absurd hi (Nat.not_lt_zero i), h3⟩, g7.fr (fun q a b => fr q (by omega))⟩
theorem mR.failT {σ' : tp_M} (hok : okD D) (hm : mR σ D) (a : Nat) (h16 : σ' 0 16 = 0) (h21 : σ' 0 21 = nI a) (fq : ∀ q, q ≠ 0 → ¬ (10 ≤ q ∧ q ≤ 13) → σ' q = σ q) (f0 : ∀ k, k ≠ 16 → ¬ (17 ≤ k ∧ k ≤ 30) → σ' 0 k = σ 0 k) : mR σ' (dSetT D (0, (dT D).2.1, nI a)) := by
  have hw : pw (dP D) ≤ 4 := hok.1.1.2.2.2.1
  have ht : pt (dP D) ≤ 8 := hok.1.1.2.2.2.2.1
  obtain ⟨g1, g2, g3, g4, g5, g6, g7⟩ := hm
  have e1 : σ' 1 = σ 1 := fq 1 (by omega) (by omega)
  exact ⟨g1.fr (fun k a => f0 k (by omega) (by omega)) (fun q a b => fq q (by omega) (by omega)), g2.fr hw ht (fun i a b => by rw [e1]), by rw [e1]; exact g3, g4.fr hw ht hok.2.2.2.1.1 (f0 2 (by omega) (by omega)) (fun i a b => by rw [e1]), ⟨g5.1.fr hw ht (by rw [fq 2 (by omega) (by omega)]) (fun q a b => by rw [e1]), g5.2.fr hw ht (by rw [fq 2 (by omega) (by omega)]) (fun q a b => by rw [e1])⟩, ⟨h16, fun i hi => absurd hi (Nat.not_lt_zero i), h21⟩, g7.fr (f0 39 (by omega) (by omega)) (f0 43 (by omega) (by omega)) (fun q a b => fq q (by omega) (by omega))⟩
theorem sC_new {σ1 : tp_M} (hG : okP G) (hc : cR σ D) (c28 : cP σ1 28 G) (e2 : σ1 27 2 = 0) (e3 : σ1 27 3 = -1) (fr1 : ∀ q, ¬ (27 ≤ q ∧ q ≤ 35) → σ1 q = σ q) (hq : ∀ σ', cR σ' (dNew D G) → Q (nI (pw G)) σ') : Cv E TC yX5_become iX5_become (d + 1) [.ref 1, .ref 28] σ1 (fun σ4 => Cv E TC yX8_open iX8_open (d + 1) [.ref 9, .ref 1] σ4 (fun σ5 => Cv E TC yX4_forget iX4_forget (d + 1) [.ref 37] σ5 (fun σ6 => Cv E TC yX3_clear iX3_clear (d + 1) [.ref 151] σ6 (fun σ7 => Wi E TC iX9_hotel (d + 1 + 1) Q 58 [(0, .ref 0), (2, .int 0)] [] σ7)))) := by
  refine sC_become5 hG c28 (fun s2 c2 f2 => sC_open hG c2 (fun s3 c3 f3 => eX4_forget (eX3_clear ?_)))
  refine bX9_hotel_58 _ ?_
  rw [if_neg (by decide)]
  refine ⟨vin (j := 0) (by decide) (by decide), fun o ho => ?_⟩
  rw [show 15 + 6 * Int32.toNatClampNeg 0 = 15 from rfl] at ho
  subst ho
  refine bX9_hotel_58 _ ?_
  rw [if_neg (by decide)]
  refine ⟨vin (j := 1) (by decide) (by decide), fun o ho => ?_⟩
  rw [show 15 + 6 * Int32.toNatClampNeg (0 + 1) = 21 from rfl] at ho
  subst ho
  refine bX9_hotel_58 _ ?_
  rw [if_pos (by decide)]
  generalize hs : tp_u (tp_u (tp_u (tp_u (tp_u s3 37 2 0) 151 7 0) 151 8 0) 15 2 0) 21 2 0 = s
  have fs : ∀ q, q ≠ 37 → q ≠ 151 → q ≠ 15 → q ≠ 21 → s q = s3 q := fun q a b c e => by rw [← hs, uu3 _ _ _ e, uu3 _ _ _ c, uu3 _ _ _ b, uu3 _ _ _ b, uu3 _ _ _ a]
  have fr : ∀ q, q ≠ 37 → q ≠ 151 → q ≠ 15 → q ≠ 21 → ¬ (1 ≤ q ∧ q ≤ 13) → ¬ (28 ≤ q ∧ q ≤ 35) → q ≠ 27 → s q = σ q := fun q a b c e f g i => by rw [fs q a b c e, f3 q (by omega), f2 q (by omega), fr1 q (by omega)]
  have p1 : cP s 1 G := c2.fr (fun q a b => by rw [fs q (by omega) (by omega) (by omega) (by omega), f3 q (by omega)])
  rw [show s 1 3 = nI (pw G) from p1.1.2.2.2.1]
  obtain ⟨g1, g2, g3, ⟨nx, n1, n2, n3, n4⟩, g5, g6, g7⟩ := hc
  refine hq s ⟨p1, c3.fr (fun q a b => fs q (by omega) (by omega) (by omega) (by omega)), by rw [fr 139 (by omega) (by omega) (by omega) (by omega) (by omega) (by omega) (by omega)]; exact g3, ⟨nx, n1, ?_, ?_, fun j hj => absurd hj (Nat.not_lt_zero j)⟩, ⟨?_, ?_⟩, ⟨?_, fun i hi => absurd hi (Nat.not_lt_zero i), ?_⟩, ⟨⟨?_, ?_⟩, fun i hi => absurd hi (Nat.not_lt_zero i), fun i hi => absurd hi (Nat.not_lt_zero i)⟩⟩
  · rw [← hs, uu3 _ _ _ (by omega), uu3 _ _ _ (by omega), uu3 _ _ _ (by omega), uu3 _ _ _ (by omega), uu2 _ _ _ (by omega), f3 37 (by omega), f2 37 (by omega), fr1 37 (by omega)]; exact n2
  · rw [← hs, uu3 _ _ _ (by omega), uu3 _ _ _ (by omega), uu3 _ _ _ (by omega), uu3 _ _ _ (by omega), uu1]; rfl
  · show s 15 2 = 0
    rw [← hs, uu3 _ _ _ (by omega), uu1]
  · show s 21 2 = 0
    rw [← hs, uu1]
  · rw [fs 27 (by omega) (by omega) (by omega) (by omega), f3 27 (by omega), f2 27 (by omega)]; exact e2
  · rw [fs 27 (by omega) (by omega) (by omega) (by omega), f3 27 (by omega), f2 27 (by omega)]; exact e3
  · rw [← hs, uu3 _ _ _ (by omega), uu3 _ _ _ (by omega), uu2 _ _ _ (by omega), uu1]; rfl
  · rw [← hs, uu3 _ _ _ (by omega), uu3 _ _ _ (by omega), uu1]; rfl
theorem sM_new {σ1 : tp_M} (hG : okP G) (hm : mR σ D) (hF : mF σ1 G) (e21 : σ1 0 21 = -1) (fd : fD σ1 σ) (hq : ∀ σ', mR σ' (dNew D G) → Q (nI (pw G)) σ') : Wi E TM iX10_hotel (d + 1) Q 88 [(0, .ref 0), (1, .int 1)] [] σ1 := by
  have h4 := hG.1.2.2.2.1
  have h8 := hG.1.2.2.2.2.1
  have ho := hG.1.2.2.2.2.2
  refine bX10_hotel_88 _ ?_
  have e58 : tp_u σ1 0 16 0 1 58 = dZ D := by rw [uu3 _ _ _ (by omega), fd.1 1 (by omega) (by omega)]; exact hm.2.2.1
  rw [if_neg (by decide), show Int32.toNatClampNeg 58 = 58 from rfl, e58]
  refine ⟨vin (j := 58) (by decide) (by decide), ?_⟩
  obtain ⟨⟨m22, m23, m24, m26, m28, m30⟩, mJ, mW, mTh, mO⟩ := hF
  refine lup (fun j s => Wi E TM iX10_hotel (d + 1) Q 115 [(0, .ref 0), (2, .int (dZ D)), (3, .int (nI j))] [] s) (fun j s => (∀ q, q ≠ 1 → s q = tp_u σ1 0 16 0 q) ∧ ∀ i, i < j → s 1 i = 0) 59 ?_ ?_ 0 _ (by omega) ⟨fun q _ => rfl, fun i hi => absurd hi (Nat.not_lt_zero i)⟩
  rotate_left
  · intro j s hj ⟨g1, g2⟩ ih
    refine bX10_hotel_115 _ _ ?_
    rw [if_neg (nle_lit 59 hj (by decide)), vcl (by omega), nI_1]
    refine ⟨vin (by omega) (by decide), ih _ ⟨fun q a => by rw [uu3 _ _ _ a]; exact g1 q a, fun i hi => ?_⟩⟩
    by_cases q : i = j
    · subst q; rw [uu1]
    · rw [uu2 _ _ _ q]; exact g2 i (by omega)
  intro s ⟨g1, g2⟩
  have z0 : ∀ k, k ≠ 16 → s 0 k = σ1 0 k := fun k hk => by rw [g1 0 (by omega), uu2 _ _ _ hk]
  have zq : ∀ q, q ≠ 0 → q ≠ 1 → s q = σ1 q := fun q a b => by rw [g1 q b, uu3 _ _ _ a]
  have z16 : s 0 16 = 0 := by rw [g1 0 (by omega), uu1]
  refine bX10_hotel_115 _ _ ?_
  rw [if_pos (by decide), show Int32.toNatClampNeg 58 = 58 from rfl]
  refine ⟨vin (j := 58) (by decide) (by decide), ?_⟩
  simp only [uu3 _ _ _ (show (0 : Nat) ≠ 1 by omega), uu2 _ 0 _ (show (23 : Nat) ≠ 3 by omega), uu2 _ 0 _ (show (24 : Nat) ≠ 3 by omega), uu2 _ 0 _ (show (24 : Nat) ≠ 4 by omega), uu2 _ 0 _ (show (26 : Nat) ≠ 3 by omega), uu2 _ 0 _ (show (26 : Nat) ≠ 4 by omega), uu2 _ 0 _ (show (26 : Nat) ≠ 5 by omega), uu2 _ 0 _ (show (28 : Nat) ≠ 3 by omega), uu2 _ 0 _ (show (28 : Nat) ≠ 4 by omega), uu2 _ 0 _ (show (28 : Nat) ≠ 5 by omega), uu2 _ 0 _ (show (28 : Nat) ≠ 7 by omega), uu2 _ 0 _ (show (30 : Nat) ≠ 3 by omega), uu2 _ 0 _ (show (30 : Nat) ≠ 4 by omega), uu2 _ 0 _ (show (30 : Nat) ≠ 5 by omega), uu2 _ 0 _ (show (30 : Nat) ≠ 7 by omega), uu2 _ 0 _ (show (30 : Nat) ≠ 9 by omega)]
  rw [z0 22 (by omega), z0 23 (by omega), z0 24 (by omega), z0 26 (by omega), z0 28 (by omega), z0 30 (by omega), m22, m23, m24, m26, m28, m30]
  generalize ht1 : tp_u (tp_u (tp_u (tp_u (tp_u (tp_u (tp_u s 1 58 (dZ D)) 0 3 (nI (pn G))) 0 4 (nI (pe G))) 0 5 (nI (pp G))) 0 7 (nI (pw G))) 0 9 (nI (pt G))) 0 12 (nI (po G)) = t1
  have y3 : t1 0 3 = nI (pn G) := by rw [← ht1, uu2 _ _ _ (by omega), uu2 _ _ _ (by omega), uu2 _ _ _ (by omega), uu2 _ _ _ (by omega), uu2 _ _ _ (by omega), uu1]
  have y4 : t1 0 4 = nI (pe G) := by rw [← ht1, uu2 _ _ _ (by omega), uu2 _ _ _ (by omega), uu2 _ _ _ (by omega), uu2 _ _ _ (by omega), uu1]
  have y5 : t1 0 5 = nI (pp G) := by rw [← ht1, uu2 _ _ _ (by omega), uu2 _ _ _ (by omega), uu2 _ _ _ (by omega), uu1]
  have y7 : t1 0 7 = nI (pw G) := by rw [← ht1, uu2 _ _ _ (by omega), uu2 _ _ _ (by omega), uu1]
  have y9 : t1 0 9 = nI (pt G) := by rw [← ht1, uu2 _ _ _ (by omega), uu1]
  have y12 : t1 0 12 = nI (po G) := by rw [← ht1, uu1]
  have y16 : t1 0 16 = 0 := by rw [← ht1, uu2 _ _ _ (by omega), uu2 _ _ _ (by omega), uu2 _ _ _ (by omega), uu2 _ _ _ (by omega), uu2 _ _ _ (by omega), uu2 _ _ _ (by omega), uu3 _ _ _ (by omega)]; exact z16
  have y21 : t1 0 21 = -1 := by rw [← ht1, uu2 _ _ _ (by omega), uu2 _ _ _ (by omega), uu2 _ _ _ (by omega), uu2 _ _ _ (by omega), uu2 _ _ _ (by omega), uu2 _ _ _ (by omega), uu3 _ _ _ (by omega), z0 21 (by omega)]; exact e21
  have yq : ∀ q, q ≠ 0 → q ≠ 1 → t1 q = σ1 q := fun q a b => by rw [← ht1, uu3 _ _ _ a, uu3 _ _ _ a, uu3 _ _ _ a, uu3 _ _ _ a, uu3 _ _ _ a, uu3 _ _ _ a, uu3 _ _ _ b, zq q a b]
  have y1 : t1 1 58 = dZ D ∧ ∀ i, i < 58 → t1 1 i = 0 := ⟨by rw [← ht1, uu3 _ _ _ (by omega), uu3 _ _ _ (by omega), uu3 _ _ _ (by omega), uu3 _ _ _ (by omega), uu3 _ _ _ (by omega), uu3 _ _ _ (by omega), uu1], fun i hi => by rw [← ht1, uu3 _ _ _ (by omega), uu3 _ _ _ (by omega), uu3 _ _ _ (by omega), uu3 _ _ _ (by omega), uu3 _ _ _ (by omega), uu3 _ _ _ (by omega), uu2 _ _ _ (by omega)]; exact g2 i (by omega)⟩
  -- the passages
  refine lup (fun j s => Wi E TM iX10_hotel (d + 1) Q 192 [(0, .ref 0), (3, .int (nI j))] [] s) (fun j s => (∀ q, q ≠ 3 → s q = t1 q) ∧ ∀ r, r < j → s 3 r = pJ G r) 8 ?_ ?_ 0 t1 (by omega) ⟨fun q _ => rfl, fun i hi => absurd hi (Nat.not_lt_zero i)⟩
  rotate_left
  · intro j s hj ⟨k1, k2⟩ ih
    refine bX10_hotel_192 _ ?_
    rw [if_neg (nle_lit 8 hj (by decide)), vcl (by omega), nI_1, k1 10 (by omega), yq 10 (by omega) (by omega), mJ j hj]
    refine ⟨vin hj (by decide), vin hj (by decide), ih _ ⟨fun q a => by rw [uu3 _ _ _ a]; exact k1 q a, fun r hr => ?_⟩⟩
    by_cases q : r = j
    · subst q; rw [uu1]
    · rw [uu2 _ _ _ q]; exact k2 r (by omega)
  intro t2 ⟨k1, k2⟩
  refine bX10_hotel_192 _ ?_
  rw [if_pos (by decide)]
  -- the waiters
  refine lup (fun j s => Wi E TM iX10_hotel (d + 1) Q 218 [(0, .ref 0), (3, .int (nI j))] [] s) (fun j s => (∀ q, q ≠ 1 → q ≠ 4 → s q = t2 q) ∧ (∀ i, (i < 2 ∨ 6 ≤ i) → s 1 i = t2 1 i) ∧ ∀ k, k < j → s 1 (2 + k) = nI (pS G k) ∧ s 4 k = nI (pC G k)) (pw G) ?_ ?_ 0 t2 (Nat.zero_le _) ⟨fun q _ _ => rfl, fun i _ => rfl, fun i hi => absurd hi (Nat.not_lt_zero i)⟩
  rotate_left
  · intro j s hj ⟨l1, l2, l3⟩ ih
    refine bX10_hotel_218 _ ?_
    rw [l1 0 (by omega) (by omega), k1 0 (by omega), y7, if_neg (nI_ge hj (by omega)), two_k1, two_k, lit_add 2, vcl (by omega), vcl (by omega), vcl (by omega), vcl (by omega), nI_1, uu3 _ _ _ (show 11 ≠ 1 by omega), l1 11 (by omega) (by omega), k1 11 (by omega), yq 11 (by omega) (by omega), (mW j hj).1, (mW j hj).2]
    refine ⟨vin (by omega) (by decide), vin (by omega) (by decide), vin (by omega) (by decide), vin (by omega) (by decide), ih _ ⟨fun q a b => by rw [uu3 _ _ _ b, uu3 _ _ _ a]; exact l1 q a b, fun i hi => by rw [uu3 _ _ _ (by omega), uu2 _ _ _ (by omega)]; exact l2 i hi, fun k hk => ?_⟩⟩
    by_cases q : k = j
    · subst q; exact ⟨by rw [uu3 _ _ _ (by omega), uu1], by rw [uu1]⟩
    · have := l3 k (by omega)
      exact ⟨by rw [uu3 _ _ _ (by omega), uu2 _ _ _ (by omega)]; exact this.1, by rw [uu2 _ _ _ q, uu3 _ _ _ (by omega)]; exact this.2⟩
  intro t3 ⟨l1, l2, l3⟩
  refine bX10_hotel_218 _ ?_
  rw [l1 0 (by omega) (by omega), k1 0 (by omega), y7, if_pos (nI_le (Nat.le_refl _) (by omega))]
  -- the things
  refine lup (fun j s => Wi E TM iX10_hotel (d + 1) Q 266 [(0, .ref 0), (3, .int (nI j))] [] s) (fun j s => (∀ q, q ≠ 1 → q ≠ 5 → q ≠ 6 → s q = t3 q) ∧ (∀ i, (i < 50 ∨ 58 ≤ i) → s 1 i = t3 1 i) ∧ ∀ k, k < j → (s 5 k = nI (pG G k) ∧ s 6 k = nI (pV G k)) ∧ s 1 (50 + k) = -1) (pt G) ?_ ?_ 0 t3 (Nat.zero_le _) ⟨fun q _ _ _ => rfl, fun i _ => rfl, fun i hi => absurd hi (Nat.not_lt_zero i)⟩
  rotate_left
  · intro j s hj ⟨i1, i2, i3⟩ ih
    refine bX10_hotel_266 _ ?_
    rw [i1 0 (by omega) (by omega) (by omega), l1 0 (by omega) (by omega), k1 0 (by omega), y9, if_neg (nI_ge hj (by omega)), two_k1, two_k, lit_add 50, vcl (by omega), vcl (by omega), vcl (by omega), vcl (by omega), nI_1, uu3 _ _ _ (show 12 ≠ 5 by omega), i1 12 (by omega) (by omega) (by omega), l1 12 (by omega) (by omega), k1 12 (by omega), yq 12 (by omega) (by omega), (mTh j hj).1, (mTh j hj).2]
    refine ⟨vin (by omega) (by decide), vin (by omega) (by decide), vin (by omega) (by decide), vin (by omega) (by decide), vin (by omega) (by decide), ih _ ⟨fun q a b c => by rw [uu3 _ _ _ a, uu3 _ _ _ c, uu3 _ _ _ b]; exact i1 q a b c, fun i hi => by rw [uu2 _ _ _ (by omega), uu3 _ _ _ (by omega), uu3 _ _ _ (by omega)]; exact i2 i hi, fun k hk => ?_⟩⟩
    by_cases q : k = j
    · subst q; exact ⟨⟨by rw [uu3 _ _ _ (by omega), uu3 _ _ _ (by omega), uu1], by rw [uu3 _ _ _ (by omega), uu1]⟩, by rw [uu1]⟩
    · have := i3 k (by omega)
      exact ⟨⟨by rw [uu3 _ _ _ (by omega), uu3 _ _ _ (by omega), uu2 _ _ _ q]; exact this.1.1, by rw [uu3 _ _ _ (by omega), uu2 _ _ _ q, uu3 _ _ _ (by omega)]; exact this.1.2⟩, by rw [uu2 _ _ _ (by omega), uu3 _ _ _ (by omega), uu3 _ _ _ (by omega)]; exact this.2⟩
  intro t4 ⟨i1, i2, i3⟩
  refine bX10_hotel_266 _ ?_
  rw [i1 0 (by omega) (by omega) (by omega), l1 0 (by omega) (by omega), k1 0 (by omega), y9, if_pos (nI_le (Nat.le_refl _) (by omega))]
  -- the orders
  refine lup (fun j s => Wi E TM iX10_hotel (d + 1) Q 322 [(0, .ref 0), (3, .int (nI j))] [] s) (fun j s => (∀ q, q ≠ 7 → q ≠ 8 → s q = t4 q) ∧ ∀ k, k < j → s 7 k = nI (pR G k) ∧ s 8 k = nI (pM G k)) (po G) ?_ ?_ 0 t4 (Nat.zero_le _) ⟨fun q _ _ => rfl, fun i hi => absurd hi (Nat.not_lt_zero i)⟩
  rotate_left
  · intro j s hj ⟨o1, o2⟩ ih
    refine bX10_hotel_322 _ ?_
    rw [o1 0 (by omega) (by omega), i1 0 (by omega) (by omega) (by omega), l1 0 (by omega) (by omega), k1 0 (by omega), y12, if_neg (nI_ge hj (by omega)), two_k1, two_k, vcl (by omega), vcl (by omega), vcl (by omega), nI_1, uu3 _ _ _ (show 13 ≠ 7 by omega), o1 13 (by omega) (by omega), i1 13 (by omega) (by omega) (by omega), l1 13 (by omega) (by omega), k1 13 (by omega), yq 13 (by omega) (by omega), (mO j hj).1, (mO j hj).2]
    refine ⟨vin (by omega) (by decide), vin (by omega) (by decide), vin (by omega) (by decide), vin (by omega) (by decide), ih _ ⟨fun q a b => by rw [uu3 _ _ _ b, uu3 _ _ _ a]; exact o1 q a b, fun k hk => ?_⟩⟩
    by_cases q : k = j
    · subst q; exact ⟨by rw [uu3 _ _ _ (by omega), uu1], by rw [uu1]⟩
    · have := o2 k (by omega)
      exact ⟨by rw [uu3 _ _ _ (by omega), uu2 _ _ _ q]; exact this.1, by rw [uu2 _ _ _ q, uu3 _ _ _ (by omega)]; exact this.2⟩
  intro t5 ⟨o1, o2⟩
  refine bX10_hotel_322 _ ?_
  have w0 : ∀ k, t5 0 k = t1 0 k := fun k => by rw [o1 0 (by omega) (by omega), i1 0 (by omega) (by omega) (by omega), l1 0 (by omega) (by omega), k1 0 (by omega)]
  rw [w0 12, y12, if_pos (nI_le (Nat.le_refl _) (by omega)), show Int32.toNatClampNeg 0 = 0 from rfl, show Int32.toNatClampNeg 1 = 1 from rfl]
  refine ⟨vin (j := 0) (by decide) (by decide), vin (j := 1) (by decide) (by decide), ?_⟩
  generalize hs6 : tp_u (tp_u (tp_u (tp_u (tp_u t5 0 39 0) 0 43 0) 0 2 0) 2 0 0) 2 1 0 = t6
  have v0 : ∀ k, k ≠ 39 → k ≠ 43 → k ≠ 2 → t6 0 k = t1 0 k := fun k a b c => by rw [← hs6, uu3 _ _ _ (by omega), uu3 _ _ _ (by omega), uu2 _ _ _ c, uu2 _ _ _ b, uu2 _ _ _ a, w0 k]
  have vq : ∀ q, q ≠ 0 → q ≠ 2 → t6 q = t5 q := fun q a b => by rw [← hs6, uu3 _ _ _ b, uu3 _ _ _ b, uu3 _ _ _ a, uu3 _ _ _ a, uu3 _ _ _ a]
  have v1 : ∀ i, t6 1 i = t4 1 i := fun i => by rw [vq 1 (by omega) (by omega), o1 1 (by omega) (by omega)]
  have vz : ∀ i, (i < 2 ∨ (6 ≤ i ∧ i < 50)) → t6 1 i = 0 := fun i hi => by rw [v1 i, i2 i (by omega), l2 i (by omega), k1 1 (by omega), y1.2 i (by omega)]
  rw [v0 7 (by omega) (by omega) (by omega), y7]
  refine hq t6 ⟨⟨⟨?_, ?_, ?_, ?_, ?_, ?_⟩, fun r hr => ?_, fun k hk => ?_, fun k hk => ?_, fun k hk => ?_⟩, ⟨⟨?_, ?_⟩, fun k hk => ?_, fun k hk => ⟨?_, fun e he => ?_⟩, fun k hk => ?_, fun t ht => ?_⟩, ?_, ⟨?_, fun j hj => absurd hj (Nat.not_lt_zero j)⟩, ⟨?_, ?_⟩, ⟨?_, fun i hi => absurd hi (Nat.not_lt_zero i), ?_⟩, ⟨⟨?_, ?_⟩, fun i hi => absurd hi (Nat.not_lt_zero i), fun i hi => absurd hi (Nat.not_lt_zero i)⟩⟩
  · rw [v0 3 (by omega) (by omega) (by omega)]; exact y3
  · rw [v0 4 (by omega) (by omega) (by omega)]; exact y4
  · rw [v0 5 (by omega) (by omega) (by omega)]; exact y5
  · rw [v0 7 (by omega) (by omega) (by omega)]; exact y7
  · rw [v0 9 (by omega) (by omega) (by omega)]; exact y9
  · rw [v0 12 (by omega) (by omega) (by omega)]; exact y12
  · rw [vq 3 (by omega) (by omega), o1 3 (by omega) (by omega), i1 3 (by omega) (by omega) (by omega), l1 3 (by omega) (by omega)]; exact k2 r hr
  · rw [vq 4 (by omega) (by omega), o1 4 (by omega) (by omega), i1 4 (by omega) (by omega) (by omega)]; exact (l3 k hk).2
  · rw [vq 5 (by omega) (by omega), o1 5 (by omega) (by omega), vq 6 (by omega) (by omega), o1 6 (by omega) (by omega)]; exact (i3 k hk).1
  · rw [vq 7 (by omega) (by omega), vq 8 (by omega) (by omega)]; exact o2 k hk
  · rw [vz 0 (by omega)]; rfl
  · rw [vz _ (by omega)]; rfl
  · have hk : k < pw G := hk
    rw [show 0 + 2 + k = 2 + k by omega, v1, i2 _ (by omega)]; exact (l3 k hk).1
  · have hk : k < pw G := hk
    rw [vz _ (by omega)]; rfl
  · exact absurd he (Nat.not_lt_zero e)
  · have hk : k < pw G := hk
    rw [vz _ (by omega)]; rfl
  · have ht : t < pt G := ht
    rw [show 0 + 50 + t = 50 + t by omega, v1, (i3 t ht).2]
    exact (if_pos ht).symm
  · rw [v1, i2 58 (by omega), l2 58 (by omega), k1 1 (by omega)]; exact y1.1
  · rw [← hs6, uu3 _ _ _ (by omega), uu3 _ _ _ (by omega), uu1]; rfl
  · show t6 2 0 = 0
    rw [← hs6, uu2 _ _ _ (by omega), uu1]
  · show t6 2 1 = 0
    rw [← hs6, uu1]
  · rw [v0 16 (by omega) (by omega) (by omega)]; exact y16
  · rw [v0 21 (by omega) (by omega) (by omega)]; exact y21
  · rw [← hs6, uu3 _ _ _ (by omega), uu3 _ _ _ (by omega), uu2 _ _ _ (by omega), uu2 _ _ _ (by omega), uu1]; rfl
  · rw [← hs6, uu3 _ _ _ (by omega), uu3 _ _ _ (by omega), uu2 _ _ _ (by omega), uu1]; rfl
end HT
theorem op_hotel {D : DD} (h : okD D) : op_Q yX9_hotel iX9_hotel yX10_hotel iX10_hotel [] D := by
  obtain ⟨hn, hx⟩ := h.2.2.2.2.2.1
  obtain ⟨ok1, ok2⟩ := prs_ok hx 240 P0 (skip (dT D).1 (dT D).2.1 0) P0_ok
  -- the reference up to its loop
  have mpre : ∀ {E : tp_E} {d : Nat} {σ : tp_M} {Q : Int32 → tp_M → Prop}, mR σ D → (∀ s, mF s P0 → s 0 16 = nI (dT D).1 → s 0 17 = nI 0 → s 0 20 = 0 → s 0 21 = -1 → tT s (dT D).1 (dT D).2.1 → fD s σ → Wi E TM iX10_hotel (d + 1) Q 68 [(0, .ref 0), (1, .int 1)] [] s) → Ci E TM yX10_hotel iX10_hotel (d + 1) [.ref 0] σ Q := by
    intro E d σ Q hm hk
    refine eX10_hotel ?_
    generalize hs0 : tp_u (tp_u (tp_u (tp_u (tp_u (tp_u (tp_u (tp_u (tp_u σ 0 17 0) 0 20 0) 0 21 (-1)) 0 22 0) 0 23 0) 0 24 0) 0 26 0) 0 28 0) 0 30 0 = s0
    have fd0 : fD s0 σ := by rw [← hs0]; exact (((((((((fN.refl σ).d.u 17 _ (by omega)).u 20 _ (by omega)).u 21 _ (by omega)).u 22 _ (by omega)).u 23 _ (by omega)).u 24 _ (by omega)).u 26 _ (by omega)).u 28 _ (by omega)).u 30 _ (by omega)
    have z17 : s0 0 17 = 0 := by rw [← hs0, uu2 _ _ _ (by omega), uu2 _ _ _ (by omega), uu2 _ _ _ (by omega), uu2 _ _ _ (by omega), uu2 _ _ _ (by omega), uu2 _ _ _ (by omega), uu2 _ _ _ (by omega), uu2 _ _ _ (by omega), uu1]
    have z20 : s0 0 20 = 0 := by rw [← hs0, uu2 _ _ _ (by omega), uu2 _ _ _ (by omega), uu2 _ _ _ (by omega), uu2 _ _ _ (by omega), uu2 _ _ _ (by omega), uu2 _ _ _ (by omega), uu2 _ _ _ (by omega), uu1]
    have z21 : s0 0 21 = -1 := by rw [← hs0, uu2 _ _ _ (by omega), uu2 _ _ _ (by omega), uu2 _ _ _ (by omega), uu2 _ _ _ (by omega), uu2 _ _ _ (by omega), uu2 _ _ _ (by omega), uu1]
    have z22 : s0 0 22 = 0 := by rw [← hs0, uu2 _ _ _ (by omega), uu2 _ _ _ (by omega), uu2 _ _ _ (by omega), uu2 _ _ _ (by omega), uu2 _ _ _ (by omega), uu1]
    have z23 : s0 0 23 = 0 := by rw [← hs0, uu2 _ _ _ (by omega), uu2 _ _ _ (by omega), uu2 _ _ _ (by omega), uu2 _ _ _ (by omega), uu1]
    have z24 : s0 0 24 = 0 := by rw [← hs0, uu2 _ _ _ (by omega), uu2 _ _ _ (by omega), uu2 _ _ _ (by omega), uu1]
    have z26 : s0 0 26 = 0 := by rw [← hs0, uu2 _ _ _ (by omega), uu2 _ _ _ (by omega), uu1]
    have z28 : s0 0 28 = 0 := by rw [← hs0, uu2 _ _ _ (by omega), uu1]
    have z30 : s0 0 30 = 0 := by rw [← hs0, uu1]
    refine lup (fun j s => Wi E TM iX10_hotel (d + 1) Q 47 [(0, .ref 0), (1, .int (nI j))] [] s) (fun j s => (∀ q, q ≠ 10 → s q = s0 q) ∧ ∀ r, r < j → s 10 r = 0) 8 ?_ ?_ 0 s0 (by omega) ⟨fun q _ => rfl, fun r hr => absurd hr (Nat.not_lt_zero r)⟩
    · intro s ⟨g1, g2⟩
      refine bX10_hotel_47 _ ?_
      rw [if_pos (by decide)]
      have e0 := g1 0 (by omega)
      have fd : fD s σ := ⟨fun q a b => by rw [g1 q (by omega)]; exact fd0.1 q a b, fun k a => by rw [e0]; exact fd0.2 k a⟩
      refine hk s ⟨⟨by rw [e0]; exact z22, by rw [e0]; exact z23, by rw [e0]; exact z24, by rw [e0]; exact z26, by rw [e0]; exact z28, by rw [e0]; exact z30⟩, fun r hr => g2 r hr, fun k hk => absurd hk (Nat.not_lt_zero k), fun k hk => absurd hk (Nat.not_lt_zero k), fun k hk => absurd hk (Nat.not_lt_zero k)⟩ ?_ (by rw [e0]; exact z17) (by rw [e0]; exact z20) (by rw [e0]; exact z21) (fun i hi => ?_) fd
      · rw [fd.2 16 (by omega)]; exact hm.2.2.2.2.2.1.1
      · rw [fd.1 9 (by omega) (by omega)]; exact hm.2.2.2.2.2.1.2.1 i hi
    · intro j s hj ⟨g1, g2⟩ ih
      refine bX10_hotel_47 _ ?_
      rw [if_neg (nle_lit 8 hj (by decide)), vcl (by omega), nI_1]
      refine ⟨vin hj (by decide), ih _ ⟨fun q a => by rw [uu3 _ _ _ a]; exact g1 q a, fun r hr => ?_⟩⟩
      by_cases q : r = j
      · subst q; rw [uu1]
      · rw [uu2 _ _ _ q]; exact g2 r (by omega)
  cases hR : rdA (dT D).1 (dT D).2.1 with
  | inl e =>
    obtain ⟨e1, e2⟩ := ok2 e hR
    refine ⟨-10 - nI e.1, dSetT D (0, (dT D).2.1, nI e.2), ?_, fun E σ Q hc hq => eX9_hotel (sC_readAll (n := (dT D).1) (tx := (dT D).2.1) hn hx hc.2.2.2.2.2.1.1 hc.2.2.2.2.2.1.2.1 ?_), fun E σ Q hm hq => mpre hm (fun s a b c f g t fd => ?_)⟩
    · obtain ⟨q1, q2, q3, q4, q5, q6, q7⟩ := h
      exact ⟨q1, q2, q3, q4, q5, ⟨Nat.zero_le 240, fun i hi => absurd hi (Nat.not_lt_zero i)⟩, q7⟩
    · rw [hR]
      intro s a b c
      rw [if_neg (nI_nz e1 e2)]
      exact hq s (hc.failT e.2 a b c)
    · refine sM_loop (d := 2) (R := .inl e) hn hx b t f g ?_ 240 0 P0 0 s rfl (Nat.zero_le _) (Nat.zero_le _) P0_ok a c f g (fN.refl s).d hR
      intro s2 b20 b21 fd2
      refine bX10_hotel_88 _ ?_
      rw [if_pos rfl, uu2 _ _ _ (by omega), b20]
      have fd3 := fd2.t fd
      exact hq _ (hm.failT h e.2 (uu1 _ _ _ _) (by rw [uu2 _ _ _ (by omega)]; exact b21) (fun q x y => by rw [uu3 _ _ _ x]; exact fd3.1 q x y) (fun k x y => by rw [uu2 _ _ _ x]; exact fd3.2 k y))
  | inr G =>
    have hG := ok1 G hR
    refine ⟨nI (pw G), dNew D G, ?_, fun E σ Q hc hq => eX9_hotel (sC_readAll (n := (dT D).1) (tx := (dT D).2.1) hn hx hc.2.2.2.2.2.1.1 hc.2.2.2.2.2.1.2.1 ?_), fun E σ Q hm hq => mpre hm (fun s a b c f g t fd => ?_)⟩
    · exact ⟨hG, A0_ok hG, h.2.2.1, ⟨Nat.zero_le 20, fun j hj => absurd hj (Nat.not_lt_zero j)⟩, ⟨fun a ha => (by cases ha), fun a ha => (by cases ha)⟩, ⟨Nat.zero_le 240, fun i hi => absurd hi (Nat.not_lt_zero i)⟩, ⟨Nat.zero_le 6, fun i hi => absurd hi (Nat.not_lt_zero i)⟩, ⟨Nat.zero_le 15, fun i hi => absurd hi (Nat.not_lt_zero i)⟩⟩
    · rw [hR]
      intro s a b c e
      rw [if_pos rfl]
      exact sC_new hG hc c a b e hq
    · refine sM_loop (d := 2) (R := .inr G) hn hx b t f g ?_ 240 0 P0 0 s rfl (Nat.zero_le _) (Nat.zero_le _) P0_ok a c f g (fN.refl s).d hR
      intro s2 mF2 b20 b21 fd2
      exact sM_new hG hm mF2 b21 (fd2.t fd) hq

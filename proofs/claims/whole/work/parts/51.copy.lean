/-! ===== states copied ===== -/
theorem cp_ne (σ : tp_M) {a b s d n q : Nat} (h : q ≠ b) : tp_cp σ a b s d n q = σ q := by simp [tp_cp, h]
theorem cp_eq (σ : tp_M) {a b n k : Nat} (h : k < n) : tp_cp σ a b 0 0 n b k = σ a k := by
  simp only [tp_cp, if_true, va_cpy]
  rw [if_pos ⟨by omega, by omega⟩]
  congr 1
  omega
/-- cell block o holds what p held -/
def stEq (σ' : tp_M) (o : Nat) (σ : tp_M) (p : Nat) : Prop := (σ' o 0 = σ p 0 ∧ σ' o 1 = σ p 1) ∧ (∀ k, k < 4 → σ' (o + 1) k = σ (p + 1) k ∧ σ' (o + 2) k = σ (p + 2) k ∧ σ' (o + 3) k = σ (p + 3) k) ∧ ∀ k, k < 8 → σ' (o + 4) k = σ (p + 4) k
theorem cS.mv {σ σ' : tp_M} {o p : Nat} {P : PD} {A : AS} (hw : pw P ≤ 4) (h : stEq σ' o σ p) (hc : cS σ p P A) : cS σ' o P A :=
  ⟨⟨h.1.1.trans hc.1.1, h.1.2.trans hc.1.2⟩, fun k hk => (h.2.1 k (by omega)).1.trans (hc.2.1 k hk), fun k hk => (h.2.1 k hk).2.1.trans (hc.2.2.1 k hk), fun k hk => (h.2.1 k (by omega)).2.2.trans (hc.2.2.2.1 k hk), fun t ht => (h.2.2 t ht).trans (hc.2.2.2.2 t ht)⟩
theorem sc_become {E : tp_E} {d : Nat} {σ : tp_M} {Q : tp_M → Prop} {o p : Nat} (ho : isSt o) (hp : isSt p) (hd : o + 4 < p ∨ p + 4 < o) (h : ∀ σ', (∀ q, (q < o ∨ o + 4 < q) → σ' q = σ q) → stEq σ' o σ p → Q σ') : Cv E TC yX8_become iX8_become (d + 1) [.ref o, .ref p] σ Q := by
  refine eX8_become o p ho hp ?_
  rw [show Int32.toNatClampNeg 0 = 0 from rfl, show Int32.toNatClampNeg 4 = 4 from rfl, show Int32.toNatClampNeg 8 = 8 from rfl]
  refine h _ (fun q hq => ?_) ⟨⟨?_, ?_⟩, fun k hk => ⟨?_, ?_, ?_⟩, fun k hk => ?_⟩
  · rw [cp_ne _ (by omega), cp_ne _ (by omega), cp_ne _ (by omega), cp_ne _ (by omega), uu3 _ _ _ (by omega), uu3 _ _ _ (by omega)]
  · rw [cp_ne _ (by omega), cp_ne _ (by omega), cp_ne _ (by omega), cp_ne _ (by omega), uu2 _ _ _ (by omega), uu1]
  · rw [cp_ne _ (by omega), cp_ne _ (by omega), cp_ne _ (by omega), cp_ne _ (by omega), uu1, uu3 _ _ _ (by omega)]
  · rw [cp_ne _ (by omega), cp_ne _ (by omega), cp_ne _ (by omega), cp_eq _ hk, uu3 _ _ _ (by omega), uu3 _ _ _ (by omega)]
  · rw [cp_ne _ (by omega), cp_ne _ (by omega), cp_eq _ hk, cp_ne _ (by omega), uu3 _ _ _ (by omega), uu3 _ _ _ (by omega)]
  · rw [cp_ne _ (by omega), cp_eq _ hk, cp_ne _ (by omega), cp_ne _ (by omega), uu3 _ _ _ (by omega), uu3 _ _ _ (by omega)]
  · rw [cp_eq _ hk, cp_ne _ (by omega), cp_ne _ (by omega), cp_ne _ (by omega), uu3 _ _ _ (by omega), uu3 _ _ _ (by omega)]
theorem sm_copy {E : tp_E} {d : Nat} {σ : tp_M} {Q : tp_M → Prop} {a b : Nat} (ha : a + 59 ≤ 1416) (hb : b + 59 ≤ 1416) (hd : a + 59 ≤ b ∨ b + 59 ≤ a) (h : ∀ σ', (∀ i, i < 59 → σ' 1 (b + i) = σ 1 (a + i)) → (∀ i, (i < b ∨ b + 59 ≤ i) → σ' 1 i = σ 1 i) → (∀ q, q ≠ 1 → σ' q = σ q) → Q σ') : Cv E TM yX10_copy iX10_copy d [.ref 0, .int (nI a), .int (nI b)] σ Q := by
  refine eX10_copy _ _ ?_
  refine wl_up (fun i s => Wv E TM iX10_copy d Q 2 [(0, .ref 0), (1, .int (nI a)), (2, .int (nI b)), (3, .int i)] [] s) (fun j s => (∀ i, i < j → s 1 (b + i) = σ 1 (a + i)) ∧ (∀ i, (i < b ∨ b + j ≤ i) → s 1 i = σ 1 i) ∧ (∀ q, q ≠ 1 → s q = σ q)) 59 ?_ ?_ 0 σ (by omega) ⟨fun i hi => absurd hi (Nat.not_lt_zero i), fun i _ => rfl, fun q _ => rfl⟩
  · intro s hs
    refine bX10_copy_2 _ _ _ ?_
    rw [if_pos (by decide)]
    exact h s hs.1 hs.2.1 hs.2.2
  · intro j s hj hs ih
    refine bX10_copy_2 _ _ _ ?_
    rw [if_neg (nle_lit 59 hj (by decide)), nI_add, nI_add, vcl (by omega), vcl (by omega)]
    refine ⟨vin (by omega) (by decide), vin (by omega) (by decide), ih _ ⟨fun i hi => ?_, fun i hi => ?_, fun q hq => by rw [uu3 _ _ _ hq]; exact hs.2.2 q hq⟩⟩
    · by_cases hij : i = j
      · subst hij
        rw [uu1]
        exact hs.2.1 _ (by omega)
      · rw [uu2 _ _ _ (by omega)]
        exact hs.1 i (by omega)
    · rw [uu2 _ _ _ (by omega)]
      exact hs.2.1 i (by omega)
/-! ===== what can be undone ===== -/
def pushU (U : Nat × (Nat → AS)) (A : AS) : Nat × (Nat → AS) := if U.1 < 20 then (U.1 + 1, fun j => if j = U.1 then A else U.2 j) else (20, fun j => if j = 19 then A else U.2 (j + 1))
theorem pushU_ok {P : PD} {U : Nat × (Nat → AS)} {A : AS} (hA : okA P A) (hU : U.1 ≤ 20 ∧ ∀ j, j < U.1 → okA P (U.2 j)) : (pushU U A).1 ≤ 20 ∧ ∀ j, j < (pushU U A).1 → okA P ((pushU U A).2 j) := by
  unfold pushU
  by_cases h : U.1 < 20
  · rw [if_pos h]
    refine ⟨by show U.1 + 1 ≤ 20; omega, fun j hj => ?_⟩
    show okA P (if j = U.1 then A else U.2 j)
    by_cases hj2 : j = U.1
    · rw [if_pos hj2]; exact hA
    · rw [if_neg hj2]; exact hU.2 j (by have : j < U.1 + 1 := hj; omega)
  · rw [if_neg h]
    refine ⟨Nat.le_refl 20, fun j hj => ?_⟩
    show okA P (if j = 19 then A else U.2 (j + 1))
    by_cases hj2 : j = 19
    · rw [if_pos hj2]; exact hA
    · rw [if_neg hj2]; exact hU.2 (j + 1) (by have : j < 20 := hj; omega)
theorem mod20 {a : Nat} (h : a < 40) : nI a - nI a / 20 * 20 = nI (a % 20) := pk_rem (d := 20) (by omega) (by decide) (by decide)
theorem past_is {j : Nat} (h : j < 20) : isSt (39 + 5 * j) := (past_all j h).1
def dSetU (D : DD) (U : Nat × (Nat → AS)) : DD := (D.1, D.2.1, D.2.2.1, U, D.2.2.2.2)
def dSetA (D : DD) (A : AS) : DD := (D.1, A, D.2.2)
theorem sC_remember {E : tp_E} {d : Nat} {σ : tp_M} {Q : tp_M → Prop} {D : DD} (hok : okD D) (hc : cR σ D) (h : ∀ σ', cR σ' (dSetU D (pushU (dU D) (dA D))) → (∀ q, q < 37 ∨ 138 < q → σ' q = σ q) → Q σ') : Cv E TC yX4_remember iX4_remember (d + 1 + 1) [.ref 37, .ref 9] σ Q := by
  obtain ⟨h1, h2, h3, ⟨nx, n1, n2, n3, n4⟩, h5, h6, h7⟩ := hc
  have hu := hok.2.2.2.1.1
  have hw : pw (dP D) ≤ 4 := hok.1.1.2.2.2.1
  refine eX4_remember ?_
  rw [n2, if_neg (nI_pos (by omega)), if_pos (nI_ltL 20 n1 (by decide))]
  refine ⟨vin n1 (by decide), fun o ho => ?_⟩
  rw [vcl (by omega)] at ho
  subst ho
  refine sc_become (past_is n1) stC_9 (by omega) (fun σ1 f1 e1 => ?_)
  have g1 : σ1 37 1 = nI nx := by rw [f1 37 (by omega)]; exact n2
  have g2 : σ1 37 2 = nI (dU D).1 := by rw [f1 37 (by omega)]; exact n3
  rw [g1, nI_1, mod20 (by omega), uu2 _ _ _ (by omega), g2, nI_1]
  have hmin : (if (20 : Int32) < nI ((dU D).1 + 1) then 20 else nI ((dU D).1 + 1)) = nI (pushU (dU D) (dA D)).1 := by
    unfold pushU
    by_cases hl : (dU D).1 < 20
    · rw [if_neg (nlt_lit 20 (by omega) (by decide)), if_pos hl]
    · rw [if_pos (lt_litp 20 (by omega) (by omega)), if_neg hl]; rfl
  rw [hmin]
  generalize hσ2 : tp_u (tp_u σ1 37 1 (nI ((nx + 1) % 20))) 37 2 (nI (pushU (dU D) (dA D)).1) = σ2
  have fr2 : ∀ q, q ≠ 37 → σ2 q = σ1 q := fun q hq => by rw [← hσ2, uu3 _ _ _ hq, uu3 _ _ _ hq]
  have fr : ∀ q, q < 37 ∨ 138 < q → σ2 q = σ q := fun q hq => by rw [fr2 q (by omega), f1 q (by omega)]
  refine h σ2 ⟨h1.fr (fun q a b => fr q (by omega)), h2.fr (fun q a b => fr q (by omega)), by rw [fr 139 (by omega)]; exact h3, ⟨(nx + 1) % 20, Nat.mod_lt _ (by omega), ?_, ?_, fun j hj => ?_⟩, ⟨h5.1.fr (fun q a b => fr q (by omega)), h5.2.fr (fun q a b => fr q (by omega))⟩, h6.fr (congrFun (fr 27 (by omega)) 2) (congrFun (fr 27 (by omega)) 3) (fr 36 (by omega)), h7.fr (fun q a b => fr q (by omega))⟩ fr
  · rw [← hσ2, uu2 _ _ _ (by omega), uu1]
  · rw [← hσ2, uu1]; rfl
  · show cS σ2 (39 + 5 * (((nx + 1) % 20 + 20 - (pushU (dU D) (dA D)).1 + j) % 20)) (dP D) ((pushU (dU D) (dA D)).2 j)
    have hj : j < (pushU (dU D) (dA D)).1 := hj
    have new : cS σ2 (39 + 5 * nx) (dP D) (dA D) := cS.fr (σ := σ1) (fun q a b => fr2 q (by omega)) (cS.mv hw e1 h2)
    have old : ∀ i, i < (dU D).1 → (nx + 20 - (dU D).1 + i) % 20 ≠ nx → cS σ2 (39 + 5 * ((nx + 20 - (dU D).1 + i) % 20)) (dP D) ((dU D).2 i) := fun i hi hne => (n4 i hi).fr (fun q a b => by rw [fr2 q (by omega), f1 q (by omega)])
    unfold pushU at hj ⊢
    by_cases hl : (dU D).1 < 20
    · rw [if_pos hl] at hj ⊢
      have hj : j < (dU D).1 + 1 := hj
      show cS σ2 (39 + 5 * (((nx + 1) % 20 + 20 - ((dU D).1 + 1) + j) % 20)) (dP D) (if j = (dU D).1 then dA D else (dU D).2 j)
      by_cases hj2 : j = (dU D).1
      · rw [if_pos hj2, show ((nx + 1) % 20 + 20 - ((dU D).1 + 1) + j) % 20 = nx by omega]
        exact new
      · rw [if_neg hj2, show ((nx + 1) % 20 + 20 - ((dU D).1 + 1) + j) % 20 = (nx + 20 - (dU D).1 + j) % 20 by omega]
        exact old j (by omega) (by omega)
    · rw [if_neg hl] at hj ⊢
      have hj : j < 20 := hj
      show cS σ2 (39 + 5 * (((nx + 1) % 20 + 20 - 20 + j) % 20)) (dP D) (if j = 19 then dA D else (dU D).2 (j + 1))
      have hu20 : (dU D).1 = 20 := by omega
      by_cases hj2 : j = 19
      · rw [if_pos hj2, show ((nx + 1) % 20 + 20 - 20 + j) % 20 = nx by omega]
        exact new
      · have o := old (j + 1) (by omega) (by omega)
        rw [if_neg hj2, show ((nx + 1) % 20 + 20 - 20 + j) % 20 = (nx + 20 - (dU D).1 + (j + 1)) % 20 by omega]
        exact o
theorem sM_minds' {E : tp_E} {d : Nat} {σ : tp_M} {Q : tp_M → Prop} {D : DD} (hok : okD D) (hm : mR σ D) (h : ∀ σ', mR σ' (dSetU D (pushU (dU D) (dA D))) → (∀ q, 2 ≤ q → σ' q = σ q) → Q σ') : Cv E TM yX10_minds iX10_minds (d + 1) [.ref 0] σ Q := by
  have hw : pw (dP D) ≤ 4 := hok.1.1.2.2.2.1
  have ht : pt (dP D) ≤ 8 := hok.1.1.2.2.2.2.1
  have hu := hok.2.2.2.1.1
  obtain ⟨g1, g2, g3, g4, g5, g6, g7⟩ := hm
  -- the end of it: u states kept (u < 20) in σ1
  have fin : ∀ (u : Nat) (U : Nat → AS) (σ1 : tp_M), u < 20 → σ1 0 2 = nI u → (∀ j, j < u → mS σ1 (236 + 59 * j) (dP D) (U j)) → (∀ i, i < 236 → σ1 1 i = σ 1 i) → (∀ k, k ≠ 2 → σ1 0 k = σ 0 k) → (∀ q, 2 ≤ q → σ1 q = σ q) → pushU (dU D) (dA D) = (u + 1, fun j => if j = u then dA D else U j) → Wv E TM iX10_minds (d + 1) Q 57 [(0, .ref 0)] [] σ1 := by
    intro u U σ1 hu1 a1 a2 a3 a4 a5 a6
    refine bX10_minds_57 ?_
    rw [a1, show (59 : Int32) * nI u = nI (59 * u) from by rw [show (59 : Int32) = nI 59 from rfl, pk_mul], lit_add 236]
    refine sm_copy (a := 0) (by omega) (by omega) (by omega) (fun σ2 b1 b2 b3 => ?_)
    have e2 : σ2 0 2 = nI u := by rw [b3 0 (by omega)]; exact a1
    rw [e2, nI_1]
    have f0 : ∀ k, k ≠ 2 → tp_u σ2 0 2 (nI (u + 1)) 0 k = σ 0 k := fun k hk => by rw [uu2 _ _ _ hk, b3 0 (by omega)]; exact a4 k hk
    have fq : ∀ q, 2 ≤ q → tp_u σ2 0 2 (nI (u + 1)) q = σ q := fun q hq => by rw [uu3 _ _ _ (by omega), b3 q (by omega)]; exact a5 q hq
    have f1 : ∀ i, i < 236 → tp_u σ2 0 2 (nI (u + 1)) 1 i = σ 1 i := fun i hi => by rw [uu3 _ _ _ (by omega), b2 i (by omega)]; exact a3 i hi
    refine h _ ⟨g1.fr (fun k a => f0 k (by omega)) (fun q a b => fq q (by omega)), g2.fr hw ht (fun i a b => f1 i (by omega)), by rw [f1 58 (by omega)]; exact g3, ?_, ⟨g5.1.fr hw ht (by rw [fq 2 (by omega)]) (fun q a b => f1 q (by omega)), g5.2.fr hw ht (by rw [fq 2 (by omega)]) (fun q a b => f1 q (by omega))⟩, g6.fr (f0 16 (by omega)) (f0 21 (by omega)) (fq 9 (by omega)), g7.fr (f0 39 (by omega)) (f0 43 (by omega)) (fun q a b => fq q (by omega))⟩ fq
    show mU _ (dP D) (pushU (dU D) (dA D))
    rw [a6]
    refine ⟨uu1 _ 0 2 _, fun j hj => ?_⟩
    have hj : j < u + 1 := hj
    show mS _ (236 + 59 * j) (dP D) (if j = u then dA D else U j)
    by_cases hj2 : j = u
    · rw [if_pos hj2, hj2]
      refine mS.mv (b := 0) hw ht (fun i hi => ?_) g2
      rw [uu3 _ _ _ (by omega), b1 i (by omega)]
      exact a3 _ (by omega)
    · rw [if_neg hj2]
      exact (a2 j (by omega)).fr hw ht (fun i a b => by rw [uu3 _ _ _ (by omega)]; exact b2 i (by omega))
  refine eX10_minds ?_
  rw [g4.1]
  by_cases hl : (dU D).1 < 20
  · rw [if_neg (by rw [nI_eqL 20 (by omega) (by decide)]; omega)]
    exact fin (dU D).1 (dU D).2 σ hl g4.1 g4.2 (fun i _ => rfl) (fun k _ => rfl) (fun q _ => rfl) (by unfold pushU; rw [if_pos hl])
  · have hu20 : (dU D).1 = 20 := by omega
    rw [if_pos (by rw [nI_eqL 20 (by omega) (by decide)]; omega)]
    refine wl_up (fun i s => Wv E TM iX10_minds (d + 1) Q 11 [(0, .ref 0), (1, .int i)] [] s) (fun j s => (∀ i, 236 ≤ i → i < 236 + j → s 1 i = σ 1 (i + 59)) ∧ (∀ i, (i < 236 ∨ 236 + j ≤ i) → s 1 i = σ 1 i) ∧ (∀ q, q ≠ 1 → s q = σ q)) 1121 ?_ ?_ 0 σ (by omega) ⟨fun i a b => by omega, fun i _ => rfl, fun q _ => rfl⟩
    · intro s hs
      refine bX10_minds_11 _ ?_
      rw [if_pos (by decide), hs.2.2 0 (by omega), g4.1, hu20, show nI 20 - 1 = nI 19 from by decide]
      refine fin 19 (fun j => (dU D).2 (j + 1)) _ (by omega) (uu1 _ 0 2 _) (fun j hj => ?_) (fun i hi => by rw [uu3 _ _ _ (by omega)]; exact hs.2.1 i (by omega)) (fun k hk => by rw [uu2 _ _ _ hk, hs.2.2 0 (by omega)]) (fun q hq => by rw [uu3 _ _ _ (by omega)]; exact hs.2.2 q (by omega)) (by unfold pushU; rw [if_neg hl])
      refine mS.mv (b := 236 + 59 * (j + 1)) hw ht (fun i hi => ?_) (g4.2 (j + 1) (by omega))
      rw [uu3 _ _ _ (by omega), hs.1 _ (by omega) (by omega)]
      congr 1
      omega
    · intro j s hj hs ih
      refine bX10_minds_11 _ ?_
      rw [if_neg (nle_lit 1121 hj (by decide)), lit_add 236, show nI (236 + j) + 59 = nI (236 + j + 59) from nI_add _ 59, vcl (by omega), vcl (by omega)]
      refine ⟨vin (by omega) (by decide), vin (by omega) (by decide), ih _ ⟨fun i a b => ?_, fun i a => ?_, fun q hq => by rw [uu3 _ _ _ hq]; exact hs.2.2 q hq⟩⟩
      · by_cases hij : i = 236 + j
        · subst hij
          rw [uu1]
          exact hs.2.1 _ (by omega)
        · rw [uu2 _ _ _ hij]
          exact hs.1 i a (by omega)
      · rw [uu2 _ _ _ (by omega)]
        exact hs.2.1 i (by omega)
theorem sM_minds {E : tp_E} {d : Nat} {σ : tp_M} {Q : tp_M → Prop} {D : DD} (hok : okD D) (hm : mR σ D) (h : ∀ σ', mR σ' (dSetU D (pushU (dU D) (dA D))) → Q σ') : Cv E TM yX10_minds iX10_minds (d + 1) [.ref 0] σ Q := sM_minds' hok hm (fun σ' a _ => h σ' a)
theorem op_undo {D : DD} (h : okD D) : op_Q yX9_undo iX9_undo yX10_undo iX10_undo [] D := by
  have hw : pw (dP D) ≤ 4 := h.1.1.2.2.2.1
  have ht : pt (dP D) ≤ 8 := h.1.1.2.2.2.2.1
  have hu := h.2.2.2.1.1
  by_cases h0 : (dU D).1 = 0
  · refine op_Q.ask (-1000000003) h (fun E σ Q hc hq => eX9_undo (eX4_bringBack ?_)) (fun E σ Q hm hq => eX10_undo ?_)
    · obtain ⟨nx, n1, n2, n3, n4⟩ := hc.2.2.2.1
      rw [n3, h0, if_pos (show nI 0 = 0 from rfl), if_pos rfl]
      exact hq
    · rw [hm.2.2.2.1.1, h0, if_pos (show nI 0 = 0 from rfl)]
      exact hq
  · refine ⟨nI ((dU D).1 - 1), (D.1, (dU D).2 ((dU D).1 - 1), D.2.2.1, ((dU D).1 - 1, (dU D).2), D.2.2.2.2), ?_, fun E σ Q hc hq => eX9_undo (eX4_bringBack ?_), fun E σ Q hm hq => eX10_undo ?_⟩
    · obtain ⟨k1, k2, k3, k4, k5⟩ := h
      exact ⟨k1, k4.2 _ (by omega), k3, ⟨by show (dU D).1 - 1 ≤ 20; omega, fun j hj => k4.2 j (by have : j < (dU D).1 - 1 := hj; omega)⟩, k5⟩
    · obtain ⟨h1, h2, h3, ⟨nx, n1, n2, n3, n4⟩, h5, h6, h7⟩ := hc
      rw [n3, if_neg (by rw [nI_eqL 0 (by omega) (by decide)]; exact h0), n2, show nI nx + 20 - 1 = nI (nx + 19) from by rw [show nI nx + 20 = nI (nx + 20) from nI_add nx 20, nI_pred], mod20 (by omega)]
      have hlt := Nat.mod_lt (nx + 19) (show 0 < 20 by omega)
      rw [if_pos (le_litp 0 (by omega) (by omega))]
      refine ⟨vin hlt (by decide), fun o ho => ?_⟩
      rw [vcl (by omega)] at ho
      subst ho
      refine sc_become stC_9 (past_is hlt) (by omega) (fun σ1 f1 e1 => ?_)
      have e3 : σ1 37 2 = nI (dU D).1 := by rw [f1 37 (by omega)]; exact n3
      rw [if_neg (by decide), uu1, uu2 _ _ _ (show (2 : Nat) ≠ 1 by omega), e3, nI_sub1 (by omega)]
      generalize hσ2 : tp_u (tp_u σ1 37 1 (nI ((nx + 19) % 20))) 37 2 (nI ((dU D).1 - 1)) = σ2
      have fr2 : ∀ q, q ≠ 37 → σ2 q = σ1 q := fun q hq => by rw [← hσ2, uu3 _ _ _ hq, uu3 _ _ _ hq]
      have fr : ∀ q, q ≠ 37 → (q < 9 ∨ 13 < q) → σ2 q = σ q := fun q hq a => by rw [fr2 q hq, f1 q (by omega)]
      refine hq σ2 ⟨h1.fr (fun q a b => fr q (by omega) (by omega)), ?_, by rw [fr 139 (by omega) (by omega)]; exact h3, ⟨(nx + 19) % 20, hlt, by rw [← hσ2, uu2 _ _ _ (by omega), uu1], by rw [← hσ2, uu1], fun j hj => ?_⟩, ⟨h5.1.fr (fun q a b => fr q (by omega) (by omega)), h5.2.fr (fun q a b => fr q (by omega) (by omega))⟩, h6.fr (congrFun (fr 27 (by omega) (by omega)) 2) (congrFun (fr 27 (by omega) (by omega)) 3) (fr 36 (by omega) (by omega)), h7.fr (fun q a b => fr q (by omega) (by omega))⟩
      · have o := n4 ((dU D).1 - 1) (by omega)
        rw [show (nx + 20 - (dU D).1 + ((dU D).1 - 1)) % 20 = (nx + 19) % 20 by omega] at o
        exact cS.fr (σ := σ1) (fun q a b => fr2 q (by omega)) (cS.mv hw e1 o)
      · have hj : j < (dU D).1 - 1 := hj
        show cS σ2 (39 + 5 * (((nx + 19) % 20 + 20 - ((dU D).1 - 1) + j) % 20)) (dP D) ((dU D).2 j)
        rw [show ((nx + 19) % 20 + 20 - ((dU D).1 - 1) + j) % 20 = (nx + 20 - (dU D).1 + j) % 20 by omega]
        have := Nat.mod_lt (nx + 20 - (dU D).1 + j) (show 0 < 20 by omega)
        exact (n4 j (by omega)).fr (fun q a b => fr q (by omega) (by omega))
    · obtain ⟨g1, g2, g3, g4, g5, g6, g7⟩ := hm
      rw [g4.1, if_neg (by rw [nI_eqL 0 (by omega) (by decide)]; exact h0), nI_sub1 (by omega), uu1, show (59 : Int32) * nI ((dU D).1 - 1) = nI (59 * ((dU D).1 - 1)) from by rw [show (59 : Int32) = nI 59 from rfl, pk_mul], lit_add 236, show Int32.toNatClampNeg 58 = 58 from rfl]
      refine ⟨vin (j := 58) (by decide) (by decide), sm_copy (b := 0) (by omega) (by omega) (by omega) (fun σ2 b1 b2 b3 => ⟨vin (j := 58) (by decide) (by decide), ?_⟩)⟩
      have e2 : σ2 0 2 = nI ((dU D).1 - 1) := by rw [b3 0 (by omega), uu1]
      rw [uu3 _ _ _ (show (0 : Nat) ≠ 1 by omega), e2]
      have f0 : ∀ k, k ≠ 2 → tp_u σ2 1 58 (σ 1 58) 0 k = σ 0 k := fun k hk => by rw [uu3 _ _ _ (by omega), b3 0 (by omega), uu2 _ _ _ hk]
      have fq : ∀ q, 2 ≤ q → tp_u σ2 1 58 (σ 1 58) q = σ q := fun q hq => by rw [uu3 _ _ _ (by omega), b3 q (by omega), uu3 _ _ _ (by omega)]
      have f1 : ∀ i, 59 ≤ i → tp_u σ2 1 58 (σ 1 58) 1 i = σ 1 i := fun i hi => by rw [uu2 _ _ _ (by omega), b2 i (by omega), uu3 _ _ _ (by omega)]
      refine hq _ ⟨g1.fr (fun k a => f0 k (by omega)) (fun q a b => fq q (by omega)), ?_, (uu1 _ 1 58 _).trans g3, ⟨?_, fun j hj => ?_⟩, ⟨g5.1.fr hw ht (by rw [fq 2 (by omega)]) (fun q a b => f1 q (by omega)), g5.2.fr hw ht (by rw [fq 2 (by omega)]) (fun q a b => f1 q (by omega))⟩, g6.fr (f0 16 (by omega)) (f0 21 (by omega)) (fq 9 (by omega)), g7.fr (f0 39 (by omega)) (f0 43 (by omega)) (fun q a b => fq q (by omega))⟩
      · refine mS.mv (b := 236 + 59 * ((dU D).1 - 1)) hw ht (fun i hi => ?_) (g4.2 ((dU D).1 - 1) (by omega))
        rw [uu2 _ _ _ (by omega), b1 i (by omega), uu3 _ _ _ (by omega)]
      · rw [uu3 _ _ _ (by omega)]; exact e2
      · have hj : j < (dU D).1 - 1 := hj
        exact (g4.2 j (by omega)).fr hw ht (fun i a b => f1 i (by omega))

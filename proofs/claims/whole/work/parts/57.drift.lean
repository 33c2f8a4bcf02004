/-! ===== minute ===== -/
def dSetZ (D : DD) (z : Int32) : DD := (D.1, D.2.1, z, D.2.2.2)
def tks (P : PD) (A : AS) (n : Nat) : AS := itr (fun _ A => tick P A) n A
theorem tks_mi (P : PD) (A : AS) {m : Nat} (h : aMi A = nI m) : ∀ n, aMi (tks P A n) = nI (m + n)
  | 0 => h
  | n + 1 => by
    show aMi (tks P A n) + 1 = _
    rw [tks_mi P A h n, nI_1]; rfl
theorem tks_ok {P : PD} {A : AS} (hP : okP P) (h : okA P A) {m : Nat} (hm : m ≤ 9000) (e : aMi A = nI m) : ∀ n, n ≤ 60 → okA P (tks P A n)
  | 0, _ => h
  | n + 1, hn => okA_tick (m := m + n) hP (tks_ok hP h hm e n (by omega)) (by omega) (tks_mi P A e n)
section MIN
variable {E : tp_E} {d : Nat} {σ : tp_M} {D : DD}
theorem sC_refusal_r {Q : Int32 → tp_M → Prop} {x : Int32} (hx : ¬ ((1 : Nat) ≤ x.toInt ∧ x.toInt ≤ (60 : Nat))) (h : Q (-1000000002) σ) : Ci E TC yX9_refusalOfMinutes iX9_refusalOfMinutes d [.ref 0, .int x] σ Q := by
  refine eX9_refusalOfMinutes _ ?_
  by_cases h0 : x < 1
  · rw [if_pos h0]; exact h
  · rw [if_neg h0, if_neg (fun q => by
      rw [fa_lt, lit_t 1 (by decide)] at h0
      rw [fa_le, lit_t 60 (by decide)] at q
      omega)]
    exact h
theorem sC_refusal {Q : Int32 → tp_M → Prop} {n m : Nat} (h1 : 1 ≤ n) (h2 : n ≤ 60) (hc : cR σ D) (h8 : pn (dP D) ≤ 8) (em : aMi (dA D) = nI m) (hm : m ≤ 9060) (k3 : pn (dP D) = 0 → Q (-1000000003) σ) (k4 : pn (dP D) ≠ 0 → 9000 < m → Q (-1000000004) σ) (k0 : pn (dP D) ≠ 0 → m ≤ 9000 → Q 0 σ) : Ci E TC yX9_refusalOfMinutes iX9_refusalOfMinutes d [.ref 0, .int (nI n)] σ Q := by
  refine eX9_refusalOfMinutes _ ?_
  rw [if_neg (nI_nltL 1 h1 (by omega)), if_pos (nI_leL 60 h2 (by decide)), hc.1.1.1, hc.2.1.1.1, em]
  by_cases c : pn (dP D) = 0
  · rw [if_pos (by rw [c]; rfl)]; exact k3 c
  · rw [if_neg (by rw [nI_eqL 0 (by omega) (by decide)]; exact c)]
    by_cases c2 : m ≤ 9000
    · rw [if_pos (nI_leL 9000 c2 (by decide))]; exact k0 c c2
    · rw [if_neg (nI_nleL 9000 (by omega) (by omega))]; exact k4 c (by omega)
end MIN
theorem op_minute {D : DD} (h : okD D) (x : Int32) : op_Q yX9_minute iX9_minute yX10_minute iX10_minute [.int x] D := by
  obtain ⟨m, hm, em⟩ := h.2.1.1
  have h8 := h.1.1.1
  rcases rng x 1 60 (by decide) with ⟨n, h1, h2, rfl⟩ | hx
  · have mpre : ∀ {E : tp_E} {d : Nat} {σ : tp_M} {Q : Int32 → tp_M → Prop}, mR σ D → (pn (dP D) = 0 → Q (-1000000003) σ) → (pn (dP D) ≠ 0 → 9000 < m → Q (-1000000004) σ) → (pn (dP D) ≠ 0 → m ≤ 9000 → Cv E TM yX10_minds iX10_minds (d + 1) [.ref 0] σ (fun σ7 => Wi E TM iX10_minute (d + 1 + 1) Q 46 [(0, .ref 0), (1, .int (nI n)), (2, .int 0)] [] σ7)) → Ci E TM yX10_minute iX10_minute (d + 1 + 1) [.ref 0, .int (nI n)] σ Q := by
      intro E d σ Q hmr k3 k4 k0
      refine eX10_minute _ (sm_inL_t 1 60 h1 h2 (by decide) ?_)
      rw [if_neg (by decide), hmr.1.1.1, show Int32.toNatClampNeg 0 = 0 from rfl, hmr.2.1.1.1, em]
      by_cases c : pn (dP D) = 0
      · rw [if_pos (by rw [c]; rfl)]; exact k3 c
      · rw [if_neg (by rw [nI_eqL 0 (by omega) (by decide)]; exact c)]
        refine ⟨vin (j := 0) (by decide) (by decide), ?_⟩
        by_cases c2 : m ≤ 9000
        · rw [if_pos (nI_leL 9000 c2 (by decide))]; exact k0 c c2
        · rw [if_neg (nI_nleL 9000 (by omega) (by omega))]; exact k4 c (by omega)
    by_cases c : pn (dP D) = 0
    · refine op_Q.ask (-1000000003) h (fun E σ Q hc hq => eX9_minute _ (sC_refusal h1 h2 hc h8 em hm (fun _ => ?_) (fun q => absurd c q) (fun q => absurd c q))) (fun E σ Q hmr hq => mpre hmr (fun _ => hq) (fun q => absurd c q) (fun q => absurd c q))
      rw [if_neg (by decide)]; exact hq
    · by_cases c2 : m ≤ 9000
      · have okU := okD.setU h
        have oks : ∀ j, j ≤ 60 → okD (dSetA (dSetU D (pushU (dU D) (dA D))) (tks (dP D) (dA D) j)) := fun j hj => okU.setA (tks_ok h.1 h.2.1 c2 em j hj)
        refine ⟨aMi (tks (dP D) (dA D) n), dSetA (dSetU D (pushU (dU D) (dA D))) (tks (dP D) (dA D) n), oks n h2, fun E σ Q hc hq => eX9_minute _ (sC_refusal h1 h2 hc h8 em hm (fun q => absurd q c) (fun _ q => absurd c2 (by omega)) (fun _ _ => ?_)), fun E σ Q hmr hq => mpre hmr (fun q => absurd q c) (fun _ q => absurd c2 (by omega)) (fun _ _ => ?_)⟩
        · rw [if_pos rfl]
          refine sC_remember h hc (fun σ1 hc1 _ => ?_)
          refine lup (fun j s => Wi E TC iX9_minute 8 Q 25 [(0, .ref 0), (1, .int (nI n)), (3, .int (nI j))] [] s) (fun j s => cR s (dSetA (dSetU D (pushU (dU D) (dA D))) (tks (dP D) (dA D) j))) n ?_ ?_ 0 σ1 (Nat.zero_le _) hc1
          · intro s hs
            refine bX9_minute_25 _ _ ?_
            rw [if_pos (nI_le (Nat.le_refl _) (by omega)), show s 9 0 = aMi (tks (dP D) (dA D) n) from hs.2.1.1.1]
            exact hq s hs
          · intro j s hj hs ih
            refine bX9_minute_25 _ _ ?_
            rw [if_neg (nI_ge hj (by omega)), nI_1]
            exact sC_tick (oks j (by omega)) hs (fun s' hs' => ih s' hs')
        · refine sM_minds h hmr (fun σ1 hm1 => ?_)
          refine lup (fun j s => Wi E TM iX10_minute 8 Q 46 [(0, .ref 0), (1, .int (nI n)), (2, .int (nI j))] [] s) (fun j s => mR s (dSetA (dSetU D (pushU (dU D) (dA D))) (tks (dP D) (dA D) j))) n ?_ ?_ 0 σ1 (Nat.zero_le _) hm1
          · intro s hs
            refine bX10_minute_46 _ _ ?_
            rw [if_pos (nI_le (Nat.le_refl _) (by omega)), show Int32.toNatClampNeg 0 = 0 from rfl, show s 1 0 = aMi (tks (dP D) (dA D) n) from hs.2.1.1.1]
            exact ⟨vin (j := 0) (by decide) (by decide), hq s hs⟩
          · intro j s hj hs ih
            refine bX10_minute_46 _ _ ?_
            rw [if_neg (nI_ge hj (by omega)), nI_1]
            exact sM_passes (oks j (by omega)) hs (fun s' hs' => ih s' hs')
      · refine op_Q.ask (-1000000004) h (fun E σ Q hc hq => eX9_minute _ (sC_refusal h1 h2 hc h8 em hm (fun q => absurd q c) (fun _ _ => ?_) (fun _ q => absurd q c2))) (fun E σ Q hmr hq => mpre hmr (fun q => absurd q c) (fun _ _ => hq) (fun _ q => absurd q c2))
        rw [if_neg (by decide)]; exact hq
  · refine op_Q.ask (-1000000002) h (fun E σ Q hc hq => eX9_minute _ (sC_refusal_r hx ?_)) (fun E σ Q hmr hq => eX10_minute _ (sm_inL_f 1 60 hx (by decide) (by decide) ?_))
    · rw [if_neg (by decide)]; exact hq
    · rw [if_pos rfl]; exact hq
/-! ===== drawing ===== -/
def lcg (z : Nat) : Nat := (z * 1103515245 + 12345) % 2147483648
theorem lcg_lt (z : Nat) : lcg z < 2147483648 := Nat.mod_lt _ (by omega)
theorem lcg_eq {z : Nat} (hz : z < 2147483648) : Int64.toInt32 ((((nI z).toInt64 * 1103515245) + 12345) - (((nI z).toInt64 * 1103515245) + 12345) / 2147483648 * 2147483648) = nI (lcg z) := by
  have e : (nI z).toInt64 * 1103515245 + 12345 = lN (z * 1103515245 + 12345) := by
    rw [nI_l hz, show (1103515245 : Int64) = lN 1103515245 from rfl, show (12345 : Int64) = lN 12345 from rfl, lN_mul, lN_add]
  rw [e, show (2147483648 : Int64) = lN 2147483648 from rfl, pk_lRem (by omega) (by omega) (by omega), lN_i]
  rfl
theorem drawn {z n : Nat} (hz : z < 2147483648) (h1 : 1 ≤ n) (h2 : n ≤ 100) : (nI z / 65536) - (nI z / 65536) / nI n * nI n = nI (z / 65536 % n) := by
  rw [show (65536 : Int32) = nI 65536 from rfl, pk_div hz (by omega) (by omega), pk_rem (by omega) (by omega) (by omega)]
/-- what draws the next seed, by what it does -/
def isL (f : Nat → Nat) : Prop := (∀ z, f z < 2147483648) ∧ ∀ z, z < 2147483648 → Int64.toInt32 ((((nI z).toInt64 * 1103515245) + 12345) - (((nI z).toInt64 * 1103515245) + 12345) / 2147483648 * 2147483648) = nI (f z)
theorem isL_ex : ∃ f, isL f := ⟨lcg, lcg_lt, fun z hz => lcg_eq hz⟩
section DRW
variable {f : Nat → Nat} {E : tp_E} {d : Nat} {σ : tp_M} {Q : Int32 → tp_M → Prop}
theorem sC_draw {z n : Nat} (hf : isL f) (hz : z < 2147483648) (h1 : 1 ≤ n) (h2 : n ≤ 100) (e : σ 139 3 = nI z) (h : Q (nI (f z / 65536 % n)) (tp_u σ 139 3 (nI (f z)))) : Ci E TC yX0_draw iX0_draw d [.ref 139, .int (nI n)] σ Q := by
  refine eX0_draw _ ?_
  rw [if_neg (nI_nleL 0 h1 (by omega)), e, hf.2 z hz, uu1, drawn (hf.1 z) h1 h2]
  exact ⟨by rw [nI_eqL 0 (by omega) (by decide)]; omega, h⟩
theorem sM_draw {z n : Nat} (hf : isL f) (hz : z < 2147483648) (h1 : 1 ≤ n) (h2 : n ≤ 100) (e : σ 1 58 = nI z) (h : Q (nI (f z / 65536 % n)) (tp_u σ 1 58 (nI (f z)))) : Ci E TM yX10_draw iX10_draw d [.ref 0, .int (nI n)] σ Q := by
  refine eX10_draw _ ?_
  rw [show Int32.toNatClampNeg 58 = 58 from rfl, e, hf.2 z hz, uu1, drawn (hf.1 z) h1 h2]
  exact ⟨vin (j := 58) (by decide) (by decide), vin (j := 58) (by decide) (by decide), vin (j := 58) (by decide) (by decide), by rw [nI_eqL 0 (by omega) (by decide)]; omega, h⟩
/-- the i-th of a set -/
def mb (s : Int32) : Nat → Nat → Nat → Option Nat
  | 0, _, _ => none
  | f + 1, r, i => if bt s r = true then (if i = 0 then some r else mb s f (r + 1) (i - 1)) else mb s f (r + 1) i
theorem mb_in (s : Int32) : ∀ (f r i k : Nat), mb s f r i = some k → r ≤ k ∧ k < r + f ∧ bt s k = true
  | 0, r, i, k, h => by cases h
  | f + 1, r, i, k, h => by
    unfold mb at h
    by_cases hb : bt s r = true
    · rw [if_pos hb] at h
      by_cases hi : i = 0
      · rw [if_pos hi] at h; cases h; exact ⟨by omega, by omega, hb⟩
      · rw [if_neg hi] at h
        have := mb_in s f (r + 1) (i - 1) k h
        exact ⟨by omega, by omega, this.2.2⟩
    · rw [if_neg hb] at h
      have := mb_in s f (r + 1) i k h
      exact ⟨by omega, by omega, this.2.2⟩
def ctN (s : Int32) : Nat := (onesF s).toNatClampNeg
theorem ct_all : ∀ j, j < 256 → onesF (nI j) = nI (ctN (nI j)) ∧ ctN (nI j) ≤ 8 ∧ (j ≠ 0 → 1 ≤ ctN (nI j)) ∧ ∀ i, i < 8 → i < ctN (nI j) → (mb (nI j) 8 0 i).isSome = true := by decide +kernel
theorem sC_member {s : Int32} {i : Nat} (hi : i < 100) (h : Q (oI (mb s 8 0 i) (-1)) σ) : Ci E TC yX0_memberOf iX0_memberOf (d + 1) [.int s, .int (nI i)] σ Q := by
  refine eX0_memberOf _ _ ?_
  have key : ∀ f r i, r + f = 8 → i < 100 → Q (oI (mb s f r i) (-1)) σ → Wi E TC iX0_memberOf (d + 1) Q 4 [(0, .int s), (2, .int (nI i)), (3, .int (nI r))] [] σ := by
    intro f
    induction f with
    | zero =>
      intro r i hr hi hq
      refine bX0_memberOf_4 _ _ _ ?_
      rw [if_pos (le_litp 8 (by omega) (by omega))]
      exact hq
    | succ f ih =>
      intro r i hr hi hq
      refine bX0_memberOf_4 _ _ _ ?_
      rw [if_neg (nle_lit 8 (by omega) (by decide)), nI_1]
      unfold mb at hq
      refine sc_hasC (by omega) (fun hb => ?_) (fun hb => ?_)
      · rw [if_pos hb] at hq
        rw [if_neg (by decide)]
        by_cases h0 : i = 0
        · rw [if_pos h0] at hq
          rw [if_pos (by rw [h0]; rfl)]
          exact hq
        · rw [if_neg h0] at hq
          rw [if_neg (by rw [nI_eqL 0 (by omega) (by decide)]; exact h0), show nI i + (-1) = nI i - 1 from by rw [Int32.sub_eq_add_neg], nI_sub1 (by omega)]
          exact ih (r + 1) (i - 1) (by omega) (by omega) hq
      · rw [if_neg (by rw [hb]; decide)] at hq
        rw [if_pos rfl]
        exact ih (r + 1) i (by omega) hi hq
  exact key 8 0 i rfl hi h
theorem sM_nth {s : Int32} {i : Nat} (hi : i < 100) (h : Q (oI (mb s 8 0 i) (-1)) σ) : Ci E TM yX10_nth iX10_nth (d + 1) [.int s, .int (nI i)] σ Q := by
  refine eX10_nth _ _ ?_
  have key : ∀ f r c, r + f = 8 → c ≤ i → Q (oI (mb s f r (i - c)) (-1)) σ → Wi E TM iX10_nth (d + 1) Q 4 [(0, .int s), (1, .int (nI i)), (2, .int (nI c)), (3, .int (nI r))] [] σ := by
    intro f
    induction f with
    | zero =>
      intro r c hr hc hq
      refine bX10_nth_4 _ _ _ _ ?_
      rw [if_pos (le_litp 8 (by omega) (by omega))]
      exact hq
    | succ f ih =>
      intro r c hr hc hq
      refine bX10_nth_4 _ _ _ _ ?_
      rw [if_neg (nle_lit 8 (by omega) (by decide)), nI_1, nI_1]
      unfold mb at hq
      refine sm_hasC (by omega) (fun hb => ?_) (fun hb => ?_)
      · rw [if_pos hb] at hq
        rw [if_neg (by decide)]
        by_cases h0 : c = i
        · rw [if_pos (by omega)] at hq
          rw [if_pos (by rw [h0])]
          exact hq
        · rw [if_neg (by omega)] at hq
          rw [if_neg (nne (by omega) (by omega) h0)]
          exact ih (r + 1) (c + 1) (by omega) (by omega) (by rw [show i - (c + 1) = i - c - 1 by omega]; exact hq)
      · rw [if_neg (by rw [hb]; decide)] at hq
        rw [if_pos rfl]
        exact ih (r + 1) c (by omega) hc hq
  exact key 8 0 0 rfl (by omega) h
end DRW
/-- who is drawn gets a route, if none stands -/
def drw (f : Nat → Nat) (P : PD) (x : AS × Nat) : AS × Nat := if pw P = 0 then x else
  if aRt x.1 (f x.2 / 65536 % pw P) = 0 ∧ pJ P (aAt x.1 (f x.2 / 65536 % pw P)) ≠ 0 then
    (match mb (pJ P (aAt x.1 (f x.2 / 65536 % pw P))) 8 0 (f (f x.2) / 65536 % ctN (pJ P (aAt x.1 (f x.2 / 65536 % pw P)))) with
      | some r => (aSetRt x.1 (f x.2 / 65536 % pw P) (r + 1), f (f x.2))
      | none => (x.1, f (f x.2)))
  else (x.1, f x.2)
theorem cR.setZ {σ : tp_M} {D : DD} (hc : cR σ D) (z : Int32) : cR (tp_u σ 139 3 z) (dSetZ D z) := by
  obtain ⟨h1, h2, h3, h4, h5, h6, h7⟩ := hc
  have fr : ∀ q, q ≠ 139 → tp_u σ 139 3 z q = σ q := fun q a => uu3 _ _ _ a
  exact ⟨h1.fr (fun q a b => fr q (by omega)), h2.fr (fun q a b => fr q (by omega)), uu1 _ _ _ _, h4.fr (fun q a b => fr q (by omega)), ⟨h5.1.fr (fun q a b => fr q (by omega)), h5.2.fr (fun q a b => fr q (by omega))⟩, h6.fr (congrFun (fr 27 (by omega)) 2) (congrFun (fr 27 (by omega)) 3) (fr 36 (by omega)), h7.fr (fun q a b => fr q (by omega))⟩
theorem mR.setZ {σ : tp_M} {D : DD} (hok : okD D) (hm : mR σ D) (z : Int32) : mR (tp_u σ 1 58 z) (dSetZ D z) := by
  have hw : pw (dP D) ≤ 4 := hok.1.1.2.2.2.1
  have ht : pt (dP D) ≤ 8 := hok.1.1.2.2.2.2.1
  obtain ⟨g1, g2, g3, g4, g5, g6, g7⟩ := hm
  have fr : ∀ q, q ≠ 1 → tp_u σ 1 58 z q = σ q := fun q a => uu3 _ _ _ a
  have f1 : ∀ i, i ≠ 58 → tp_u σ 1 58 z 1 i = σ 1 i := fun i a => uu2 _ _ _ a
  exact ⟨g1.fr (fun k a => by rw [fr 0 (by omega)]) (fun q a b => fr q (by omega)), g2.fr hw ht (fun i a b => f1 i (by omega)), uu1 _ _ _ _, g4.fr hw ht hok.2.2.2.1.1 (by rw [fr 0 (by omega)]) (fun i a b => f1 i (by omega)), ⟨g5.1.fr hw ht (by rw [fr 2 (by omega)]) (fun q a b => f1 q (by omega)), g5.2.fr hw ht (by rw [fr 2 (by omega)]) (fun q a b => f1 q (by omega))⟩, g6.fr (by rw [fr 0 (by omega)]) (by rw [fr 0 (by omega)]) (fr 9 (by omega)), g7.fr (by rw [fr 0 (by omega)]) (by rw [fr 0 (by omega)]) (fun q a b => fr q (by omega))⟩
theorem okD.setZ {D : DD} (h : okD D) {z : Int32} (hz : 0 ≤ z) : okD (dSetZ D z) := ⟨h.1, h.2.1, hz, h.2.2.2⟩
theorem J_small {P : PD} (hP : okP P) {c : Nat} (hc : c < pn P) : ∃ j, j < 256 ∧ pJ P c = nI j := small_nI (fun i a b => by
  cases q : bt (pJ P c) i
  · rfl
  · have := (hP.2.1 c i (by have := hP.1.1; omega) b q).1
    have := hP.1.1
    omega)
theorem one_fig : ∀ r, r < 8 → nd (r + 1) = 1 ∧ dg (r + 1) 0 = r := by decide
theorem chn_one {P : PD} (hP : okP P) {c r : Nat} (hc : c < pn P) (hr : r < 8) (h : bt (pJ P c) r = true) : chn P 9 c (r + 1) := by
  have h8 := hP.1.1
  have := (hP.2.1 c r (by omega) (by omega) h).1
  refine Or.inr ⟨by omega, by omega, by rw [show (r + 1) % 10 - 1 = r by omega]; exact h, Or.inl (by omega)⟩

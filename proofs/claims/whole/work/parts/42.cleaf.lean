/-! ===== literals ===== -/
theorem nle_lit (n : Nat) {j : Nat} (h : j < n) (hn : n < 2147483648) : ¬ (OfNat.ofNat n : Int32) ≤ nI j := nI_ge h hn
theorem le_litp (n : Nat) {j : Nat} (h : n ≤ j) (hn : j < 2147483648) : (OfNat.ofNat n : Int32) ≤ nI j := nI_le h hn
theorem lt_litp (n : Nat) {j : Nat} (h : n < j) (hn : j < 2147483648) : (OfNat.ofNat n : Int32) < nI j := nI_lt h hn
theorem nlt_lit (n : Nat) {j : Nat} (h : j ≤ n) (hn : n < 2147483648) : ¬ (OfNat.ofNat n : Int32) < nI j := nI_nlt h hn
theorem nI_leL (n : Nat) {j : Nat} (h : j ≤ n) (hn : n < 2147483648) : nI j ≤ (OfNat.ofNat n : Int32) := nI_le h hn
theorem nI_nleL (n : Nat) {j : Nat} (h : n < j) (hn : j < 2147483648) : ¬ nI j ≤ (OfNat.ofNat n : Int32) := nI_ge h hn
theorem nI_ltL (n : Nat) {j : Nat} (h : j < n) (hn : n < 2147483648) : nI j < (OfNat.ofNat n : Int32) := nI_lt h hn
theorem nI_nltL (n : Nat) {j : Nat} (h : n ≤ j) (hn : j < 2147483648) : ¬ nI j < (OfNat.ofNat n : Int32) := nI_nlt h hn
theorem nI_eqL (n : Nat) {j : Nat} (hj : j < 2147483648) (hn : n < 2147483648) : nI j = (OfNat.ofNat n : Int32) ↔ j = n := nI_eq hj hn
theorem if3_t {a b : Prop} {N M : Int32} {j n m : Nat} (hN : N = nI n) (hM : M = nI m) (hj : j < n) (hn : n ≤ m) (hm : m < 2147483648) (h : b) : if nI j < 0 then a else if N ≤ nI j then a else if M ≤ nI j then a else b := by
  rw [if_neg (nI_pos (by omega)), hN, if_neg (nI_ge hj (by omega)), hM, if_neg (nI_ge (by omega) hm)]
  exact h
theorem if2_t {a b : Prop} {N : Int32} {j n : Nat} (hN : N = nI n) (hj : j < n) (hm : n < 2147483648) (h : b) : if nI j < 0 then a else if N ≤ nI j then a else b := by
  rw [if_neg (nI_pos (by omega)), hN, if_neg (nI_ge hj (by omega))]
  exact h
theorem if2_f {a b : Prop} {N x : Int32} {n : Nat} (hN : N = nI n) (hm : n < 2147483648) (hx : ¬ vp_in x n) (h : a) : if x < 0 then a else if N ≤ x then a else b := by
  rcases vin_not hx with h1 | h1 | h1
  · rw [if_pos h1]; exact h
  · by_cases h0 : x < 0
    · rw [if_pos h0]; exact h
    · rw [if_neg h0, hN, if_pos h1]; exact h
  · omega
def jabs (x : Int32) : Int32 := if 0 ≤ x then x else 0 - x
/-! ===== leaves of the class ===== -/
section CL
variable {E : tp_E} {d : Nat} {σ : tp_M} {Q : Int32 → tp_M → Prop}
theorem sc_has {s : Int32} {k : Nat} (hk : k < 32) (h : Q (if bt s k = true then 1 else 0) σ) : Ci E TC yX9_has iX9_has d [.int s, .int (nI k)] σ Q := by
  refine eX9_has _ _ ?_
  by_cases hb : bt s k = true
  · rw [if_pos ((hb_bt s hk).mpr hb)]; rw [if_pos hb] at h; exact h
  · rw [if_neg (fun q => hb ((hb_bt s hk).mp q))]; rw [if_neg hb] at h; exact h
/-- has, by cases -/
theorem sc_hasC {s : Int32} {k : Nat} (hk : k < 32) (h1 : bt s k = true → Q 1 σ) (h0 : bt s k = false → Q 0 σ) : Ci E TC yX9_has iX9_has d [.int s, .int (nI k)] σ Q := by
  refine sc_has hk ?_
  cases hb : bt s k
  · exact h0 hb
  · exact h1 hb
theorem sc_isSeat {k : Nat} (hk : k < 4) (h : Q 1 σ) : Ci E TC yX8_isSeat iX8_isSeat d [.int (nI k)] σ Q := eX8_isSeat _ (if2_t (n := 4) rfl hk (by decide) h)
theorem sc_roomOf {k : Nat} (hk : k < 4) (h : Q (σ 10 k) σ) : Ci E TC yX8_roomOf iX8_roomOf (d + 1) [.ref 9, .int (nI k)] σ Q := by
  refine eX8_roomOf _ (sc_isSeat hk ?_)
  rw [if_neg (by decide)]
  exact ⟨vin hk (by decide), by rw [vcl (by omega)]; exact h⟩
theorem sc_routeOf {k : Nat} (hk : k < 4) (h : Q (σ 11 k) σ) : Ci E TC yX8_routeOf iX8_routeOf (d + 1) [.ref 9, .int (nI k)] σ Q := by
  refine eX8_routeOf _ (sc_isSeat hk ?_)
  rw [if_neg (by decide)]
  exact ⟨vin hk (by decide), by rw [vcl (by omega)]; exact h⟩
theorem sc_treatiesOf {k : Nat} (hk : k < 4) (h : Q (σ 12 k) σ) : Ci E TC yX8_treatiesOf iX8_treatiesOf (d + 1) [.ref 9, .int (nI k)] σ Q := by
  refine eX8_treatiesOf _ (sc_isSeat hk ?_)
  rw [if_neg (by decide)]
  exact ⟨vin hk (by decide), by rw [vcl (by omega)]; exact h⟩
theorem sc_placeOf {t : Nat} (ht : t < 8) (h : Q (σ 13 t) σ) : Ci E TC yX8_placeOf iX8_placeOf d [.ref 9, .int (nI t)] σ Q := by
  refine eX8_placeOf _ (if2_t (n := 8) rfl ht (by decide) ⟨vin ht (by decide), ?_⟩)
  rw [vcl (by omega)]
  exact h
theorem sc_bearerOf {t : Nat} (ht : t < 8) (h : Q (if 0 ≤ σ 13 t then σ 13 t / 2 else -1) σ) : Ci E TC yX8_bearerOf iX8_bearerOf (d + 1) [.ref 9, .int (nI t)] σ Q := by
  refine eX8_bearerOf _ (sc_placeOf ht ?_)
  by_cases h0 : 0 ≤ σ 13 t
  · rw [if_pos h0] at h ⊢; exact h
  · rw [if_neg h0] at h ⊢; exact h
theorem sc_hasRoom_t {n j : Nat} (hn : σ 1 0 = nI n) (h8 : n ≤ 8) (hj : j < n) (h : Q 1 σ) : Ci E TC yX5_hasRoom iX5_hasRoom d [.ref 1, .int (nI j)] σ Q := eX5_hasRoom_1 _ (if3_t (n := n) (m := 8) hn rfl hj h8 (by decide) h)
theorem sc_hasRoom_f {n : Nat} {x : Int32} (hn : σ 1 0 = nI n) (h8 : n ≤ 8) (hx : ¬ vp_in x n) (h : Q 0 σ) : Ci E TC yX5_hasRoom iX5_hasRoom d [.ref 1, .int x] σ Q := eX5_hasRoom_1 _ (if2_f hn (by omega) hx h)
theorem sc_hasWaiter_t {n j : Nat} (hn : σ 1 3 = nI n) (h8 : n ≤ 4) (hj : j < n) (h : Q 1 σ) : Ci E TC yX5_hasWaiter iX5_hasWaiter d [.ref 1, .int (nI j)] σ Q := eX5_hasWaiter _ (if3_t (n := n) (m := 4) hn rfl hj h8 (by decide) h)
theorem sc_hasWaiter_f {n : Nat} {x : Int32} (hn : σ 1 3 = nI n) (h8 : n ≤ 4) (hx : ¬ vp_in x n) (h : Q 0 σ) : Ci E TC yX5_hasWaiter iX5_hasWaiter d [.ref 1, .int x] σ Q := eX5_hasWaiter _ (if2_f hn (by omega) hx h)
theorem sc_hasThing_t {n j : Nat} (hn : σ 1 4 = nI n) (h8 : n ≤ 8) (hj : j < n) (h : Q 1 σ) : Ci E TC yX5_hasThing iX5_hasThing d [.ref 1, .int (nI j)] σ Q := eX5_hasThing _ (if3_t (n := n) (m := 8) hn rfl hj h8 (by decide) h)
theorem sc_hasThing_f {n : Nat} {x : Int32} (hn : σ 1 4 = nI n) (h8 : n ≤ 8) (hx : ¬ vp_in x n) (h : Q 0 σ) : Ci E TC yX5_hasThing iX5_hasThing d [.ref 1, .int x] σ Q := eX5_hasThing _ (if2_f hn (by omega) hx h)
theorem sc_hasOrder_t {n j : Nat} (hn : σ 1 5 = nI n) (h8 : n ≤ 4) (hj : j < n) (h : Q 1 σ) : Ci E TC yX5_hasOrder iX5_hasOrder d [.ref 1, .int (nI j)] σ Q := eX5_hasOrder _ (if3_t (n := n) (m := 4) hn rfl hj h8 (by decide) h)
theorem sc_hasOrder_f {n : Nat} {x : Int32} (hn : σ 1 5 = nI n) (h8 : n ≤ 4) (hx : ¬ vp_in x n) (h : Q 0 σ) : Ci E TC yX5_hasOrder iX5_hasOrder d [.ref 1, .int x] σ Q := eX5_hasOrder _ (if2_f hn (by omega) hx h)
theorem sc_two_t {n a b : Nat} (hn : σ 1 3 = nI n) (h8 : n ≤ 4) (ha : a < n) (hb : b < n) (hab : a ≠ b) (h : Q 1 σ) : Ci E TC yX5_hasTwoWaiters iX5_hasTwoWaiters (d + 1) [.ref 1, .int (nI a), .int (nI b)] σ Q := by
  refine eX5_hasTwoWaiters _ _ (sc_hasWaiter_t hn h8 ha ?_)
  rw [if_neg (by decide)]
  refine sc_hasWaiter_t hn h8 hb ?_
  rw [if_neg (by decide), if_neg (by rw [nI_eq (by omega) (by omega)]; exact hab)]
  exact h
theorem sc_two_f {n : Nat} {x y : Int32} (hn : σ 1 3 = nI n) (h8 : n ≤ 4) (hx : ¬ (vp_in x n ∧ vp_in y n ∧ x ≠ y)) (h : Q 0 σ) : Ci E TC yX5_hasTwoWaiters iX5_hasTwoWaiters (d + 1) [.ref 1, .int x, .int y] σ Q := by
  refine eX5_hasTwoWaiters _ _ ?_
  by_cases h1 : vp_in x n
  · obtain ⟨a, ha, rfl⟩ := vp_in_of h1 (by omega)
    refine sc_hasWaiter_t hn h8 ha ?_
    rw [if_neg (by decide)]
    by_cases h2 : vp_in y n
    · obtain ⟨b, hb, rfl⟩ := vp_in_of h2 (by omega)
      refine sc_hasWaiter_t hn h8 hb ?_
      rw [if_neg (by decide)]
      by_cases h3 : nI a = nI b
      · rw [if_pos h3]; exact h
      · exact absurd ⟨h1, h2, h3⟩ hx
    · refine sc_hasWaiter_f hn h8 h2 ?_
      rw [if_pos rfl]
      exact h
  · refine sc_hasWaiter_f hn h8 h1 ?_
    rw [if_pos rfl]
    exact h
theorem sc_joinedTo {n j : Nat} (hn : σ 1 0 = nI n) (h8 : n ≤ 8) (hj : j < n) (h : Q (σ 2 j) σ) : Ci E TC yX5_joinedTo iX5_joinedTo (d + 1) [.ref 1, .int (nI j)] σ Q := by
  refine eX5_joinedTo_1 _ (sc_hasRoom_t hn h8 hj ?_)
  rw [if_neg (by decide)]
  exact ⟨vin (by omega) (by decide), by rw [vcl (by omega)]; exact h⟩
theorem sc_sideOf {k s : Nat} (h : Q (nI (2 * k + s)) σ) : Ci E TC yX9_sideOf iX9_sideOf d [.int (nI k), .int (nI s)] σ Q := by
  refine eX9_sideOf _ _ ?_
  rw [show (2 : Int32) * nI k + nI s = nI (2 * k + s) from by rw [show (2 : Int32) = nI 2 from rfl, pk_mul, nI_add]]
  exact h
theorem sc_thingsAt (v : Int32) (h : Q (tset (σ 13) v 8) σ) : Ci E TC yX8_thingsAt iX8_thingsAt d [.ref 9, .int v] σ Q := by
  refine eX8_thingsAt v ?_
  refine wl_fold (fun i s => Wi E TC iX8_thingsAt d Q 4 [(0, .ref 9), (1, .int v), (2, .int s), (3, .int i)] [] σ) (fun t s => if σ 13 t = v then s ||| ((1 : Int32) <<< (nI t &&& 31)) else s) 8 0 ?_ ?_
  · refine bX8_thingsAt_4 _ _ _ ?_
    rw [if_pos (by decide)]
    exact h
  · intro j hj ih
    refine bX8_thingsAt_4 _ _ _ ?_
    rw [if_neg (nle_lit 8 hj (by decide))]
    refine ⟨vin hj (by decide), ?_⟩
    rw [vcl (by omega)]
    by_cases hp : σ 13 j = v
    · rw [if_pos hp] at ih ⊢; exact ih
    · rw [if_neg hp] at ih ⊢; exact ih
theorem sc_thingsOf {k : Nat} (h : Q (tset (σ 13) (nI (2 * k)) 8 ||| tset (σ 13) (nI (2 * k + 1)) 8) σ) : Ci E TC yX8_thingsOf iX8_thingsOf (d + 1) [.ref 9, .int (nI k)] σ Q := by
  refine eX8_thingsOf _ ?_
  refine sc_sideOf (s := 0) (sc_thingsAt _ (sc_sideOf (s := 1) (sc_thingsAt _ ?_)))
  exact h
theorem sc_sumOf {a : Nat} (hl : a < TC.1) (hg : TC.2.1 a = (11, 8)) (s : Int32) (h : Q (wsum (σ a) s 8) σ) : Ci E TC yX5_sumOf iX5_sumOf (d + 1) [.ref a, .int s] σ Q := by
  refine eX5_sumOf a hl hg s ?_
  refine wl_fold (fun i z => Wi E TC iX5_sumOf (d + 1) Q 4 [(0, .ref a), (1, .int s), (2, .int z), (3, .int i)] [] σ) (fun t z => if bt s t = true then z + σ a t else z) 8 0 ?_ ?_
  · refine bX5_sumOf_4 a hl hg _ _ _ ?_
    rw [if_pos (by decide)]
    exact h
  · intro j hj ih
    refine bX5_sumOf_4 a hl hg _ _ _ ?_
    rw [if_neg (nle_lit 8 hj (by decide))]
    refine sc_hasC (by omega) (fun hb => ?_) (fun hb => ?_)
    · rw [if_neg (by decide)]
      refine ⟨vin hj (by decide), ?_⟩
      rw [if_pos hb] at ih
      rw [vcl (by omega)]
      exact ih
    · rw [if_pos rfl]
      rw [if_neg (by rw [hb]; decide)] at ih
      exact ih
theorem sc_weightOf (s : Int32) (h : Q (wsum (σ 5) s 8) σ) : Ci E TC yX5_weightOf iX5_weightOf (d + 1 + 1) [.ref 1, .int s] σ Q := eX5_weightOf _ (sc_sumOf lC_5 gC_5 _ h)
theorem sc_worthOf (s : Int32) (h : Q (wsum (σ 6) s 8) σ) : Ci E TC yX5_worthOf iX5_worthOf (d + 1 + 1) [.ref 1, .int s] σ Q := eX5_worthOf _ (sc_sumOf lC_6 gC_6 _ h)
theorem sc_difference (tray left : Int32) (h : Q (jabs (wsum (σ 5) left 8 - wsum (σ 5) (tray &&& (left ^^^ (-1))) 8)) σ) : Ci E TC yX5_difference iX5_difference (d + 1 + 1 + 1) [.ref 1, .int tray, .int left] σ Q := eX5_difference _ _ (sc_weightOf _ (sc_weightOf _ h))
theorem sc_slant {k : Nat} (h : Q (jabs (wsum (σ 5) (tset (σ 13) (nI (2 * k)) 8) 8 - wsum (σ 5) ((tset (σ 13) (nI (2 * k)) 8 ||| tset (σ 13) (nI (2 * k + 1)) 8) &&& (tset (σ 13) (nI (2 * k)) 8 ^^^ (-1))) 8)) σ) : Ci E TC yX0_slant iX0_slant (d + 1 + 1 + 1 + 1) [.ref 139, .int (nI k)] σ Q := by
  refine eX0_slant _ ?_
  refine sc_thingsOf (sc_sideOf (s := 0) (sc_thingsAt _ (sc_difference _ _ ?_)))
  exact h
def jany (J : Nat → Int32) (s : Int32) (n : Nat) : Int32 := itr (fun r a => if bt s r = true then a ||| J r else a) n 0
theorem sc_joinedToAny (s : Int32) (h : Q (jany (σ 2) s 8) σ) : Ci E TC yX5_joinedToAny iX5_joinedToAny (d + 1) [.ref 1, .int s] σ Q := by
  refine eX5_joinedToAny s ?_
  refine wl_fold (fun i z => Wi E TC iX5_joinedToAny (d + 1) Q 4 [(0, .ref 1), (1, .int s), (2, .int z), (3, .int i)] [] σ) (fun r a => if bt s r = true then a ||| σ 2 r else a) 8 0 ?_ ?_
  · refine bX5_joinedToAny_4 _ _ _ ?_
    rw [if_pos (by decide)]
    exact h
  · intro j hj ih
    refine bX5_joinedToAny_4 _ _ _ ?_
    rw [if_neg (nle_lit 8 hj (by decide))]
    refine sc_hasC (by omega) (fun hb => ?_) (fun hb => ?_)
    · rw [if_neg (by decide)]
      refine ⟨vin hj (by decide), ?_⟩
      rw [if_pos hb] at ih
      rw [vcl (by omega)]
      exact ih
    · rw [if_pos rfl]
      rw [if_neg (by rw [hb]; decide)] at ih
      exact ih
/-- the fewest minutes -/
def dst (J : Nat → Int32) (b : Nat) : Nat → Nat → Int32 → Option Nat
  | 0, _, _ => none
  | f + 1, s, r => if bt r b = true then some s else dst J b f (s + 1) (r ||| jany J r 8)
def oI (x : Option Nat) (z : Int32) : Int32 := match x with
  | none => z
  | some k => nI k
theorem sc_distance {a b : Nat} (hb : b < 32) (h : Q (oI (dst (σ 2) b 8 0 ((1 : Int32) <<< (nI a &&& 31))) (-1)) σ) : Ci E TC yX5_distance iX5_distance (d + 1 + 1) [.ref 1, .int (nI a), .int (nI b)] σ Q := by
  refine eX5_distance _ _ ?_
  have key : ∀ f s r, s + f = 8 → Q (oI (dst (σ 2) b f s r) (-1)) σ → Wi E TC iX5_distance (d + 1 + 1) Q 7 [(0, .ref 1), (2, .int (nI b)), (3, .int r), (4, .int (nI s))] [] σ := by
    intro f
    induction f with
    | zero =>
      intro s r hs hq
      refine bX5_distance_7 _ _ _ ?_
      rw [if_pos (le_litp 8 (by omega) (by omega))]
      exact hq
    | succ f ih =>
      intro s r hs hq
      refine bX5_distance_7 _ _ _ ?_
      rw [if_neg (nle_lit 8 (by omega) (by decide))]
      refine sc_hasC hb (fun h1 => ?_) (fun h1 => ?_)
      · rw [if_neg (by decide)]
        unfold dst at hq
        rw [if_pos h1] at hq
        exact hq
      · rw [if_pos rfl]
        unfold dst at hq
        rw [if_neg (by rw [h1]; decide)] at hq
        refine sc_joinedToAny _ ?_
        rw [nI_1]
        exact ih (s + 1) _ (by omega) hq
  exact key 8 0 _ rfl h
/-- the room next -/
def nxt (J : Nat → Int32) (a b k : Nat) : Nat → Nat → Option Nat
  | 0, _ => none
  | f + 1, r => if bt (J a) r = true ∧ dst J b 8 0 ((1 : Int32) <<< (nI r &&& 31)) = some k then some r else nxt J a b k f (r + 1)
theorem dst_lt (J : Nat → Int32) (b : Nat) : ∀ (f s : Nat) (r : Int32) (k : Nat), dst J b f s r = some k → s ≤ k ∧ k < s + f
  | 0, s, r, k, h => by cases h
  | f + 1, s, r, k, h => by
    unfold dst at h
    by_cases hb : bt r b = true
    · rw [if_pos hb] at h; cases h; omega
    · rw [if_neg hb] at h
      have := dst_lt J b f (s + 1) _ k h
      omega
theorem sc_nextTowards {n a b : Nat} (hn : σ 1 0 = nI n) (h8 : n ≤ 8) (ha : a < n) (hb : b < n) (h : Q (match dst (σ 2) b 8 0 ((1 : Int32) <<< (nI a &&& 31)) with | some (k + 1) => oI (nxt (σ 2) a b k n 0) (-1) | _ => -1) σ) : Ci E TC yX5_nextTowards iX5_nextTowards (d + 1 + 1 + 1) [.ref 1, .int (nI a), .int (nI b)] σ Q := by
  refine eX5_nextTowards _ _ (sc_distance (by omega) ?_)
  cases hd : dst (σ 2) b 8 0 ((1 : Int32) <<< (nI a &&& 31)) with
  | none =>
    rw [hd] at h
    rw [if_neg (by decide)]
    exact h
  | some k =>
    rw [hd] at h
    have hk := dst_lt _ _ _ _ _ _ hd
    cases k with
    | zero =>
      rw [if_neg (by decide)]
      exact h
    | succ k =>
      have hp : (0 : Int32) < oI (some (k + 1)) (-1) := lt_litp 0 (by omega) (by omega)
      rw [if_pos hp]
      have key : ∀ f r, r + f = n → Q (oI (nxt (σ 2) a b k f r) (-1)) σ → Wi E TC iX5_nextTowards (d + 1 + 1 + 1) Q 16 [(0, .ref 1), (1, .int (nI a)), (2, .int (nI b)), (3, .int (nI (k + 1))), (4, .int (nI r))] [] σ := by
        intro f
        induction f with
        | zero =>
          intro r hr hq
          refine bX5_nextTowards_16 _ _ _ _ ?_
          rw [hn, if_pos (nI_le (by omega) (by omega))]
          exact hq
        | succ f ih =>
          intro r hr hq
          refine bX5_nextTowards_16 _ _ _ _ ?_
          rw [hn, if_neg (nI_ge (by omega) (by omega))]
          unfold nxt at hq
          refine sc_joinedTo hn h8 ha (sc_hasC (by omega) (fun h1 => ?_) (fun h1 => ?_))
          · rw [if_neg (by decide)]
            refine sc_distance (by omega) ?_
            by_cases h2 : dst (σ 2) b 8 0 ((1 : Int32) <<< (nI r &&& 31)) = some k
            · rw [if_pos ⟨h1, h2⟩] at hq
              rw [h2, nI_pred, if_pos (show oI (some k) (-1) = nI k from rfl)]
              exact hq
            · rw [if_neg (fun q => h2 q.2)] at hq
              rw [if_neg, nI_1]
              · exact ih (r + 1) (by omega) hq
              · rw [nI_pred]
                intro he
                cases hd2 : dst (σ 2) b 8 0 ((1 : Int32) <<< (nI r &&& 31)) with
                | none => rw [hd2] at he; exact absurd he.symm (by intro q; rw [fa_eq, nI_toInt (by omega)] at q; have : (-1 : Int32).toInt = -1 := by decide
                                                                   have e2 : (oI none (-1)).toInt = -1 := this
                                                                   omega)
                | some z =>
                  rw [hd2] at he
                  have hz := dst_lt _ _ _ _ _ _ hd2
                  have he2 : nI z = nI k := he
                  rw [nI_eq (by omega) (by omega)] at he2
                  exact h2 (by rw [hd2, he2])
          · rw [if_pos rfl, nI_1]
            rw [if_neg (fun q => by rw [h1] at q; cases q.1)] at hq
            exact ih (r + 1) (by omega) hq
      exact key n 0 (by omega) h
end CL

/-! ===== leaves of the reference ===== -/
section ML
variable {E : tp_E} {d : Nat} {σ : tp_M} {Q : Int32 → tp_M → Prop}
theorem sm_in_t {x lo hi : Int64} (h1 : ¬ x < lo) (h2 : ¬ hi < x) (h : Q 1 σ) : Ci E TM yX10_in iX10_in d [.long x, .long lo, .long hi] σ Q := by
  refine eX10_in _ _ _ ?_
  rw [if_neg (fun q => h1 ((cmp_lt _ _).mp q)), if_neg (fun q => h2 ((cmp_gt _ _).mp q))]
  exact h
theorem sm_in_f {x lo hi : Int64} (h1 : x < lo ∨ hi < x) (h : Q 0 σ) : Ci E TM yX10_in iX10_in d [.long x, .long lo, .long hi] σ Q := by
  refine eX10_in _ _ _ ?_
  by_cases h0 : x < lo
  · rw [if_pos ((cmp_lt _ _).mpr h0)]; exact h
  · rcases h1 with h1 | h1
    · exact absurd h1 h0
    · rw [if_neg (fun q => h0 ((cmp_lt _ _).mp q)), if_pos ((cmp_gt _ _).mpr h1)]; exact h
/-- within 0 .. n - 1 -/
theorem sub1_toInt {n : Nat} (h : n < 2147483648) : (nI n - 1).toInt = (n : Int) - 1 := by
  cases n with
  | zero => decide
  | succ n => rw [nI_pred, nI_toInt (by omega)]; omega
theorem in_t {j n : Nat} {N : Int32} (hN : N = nI n) (hj : j < n) (hn : n < 2147483648) : ¬ (nI j).toInt64 < 0 ∧ ¬ (N - 1).toInt64 < (nI j).toInt64 := by
  refine ⟨fun q => ?_, fun q => ?_⟩
  · rw [show (0 : Int64) = (0 : Int32).toInt64 from rfl, wide_lt] at q
    exact nI_pos (by omega) q
  · rw [wide_lt, fa_lt, hN, sub1_toInt hn, nI_toInt (by omega)] at q
    omega
theorem in_f {x : Int32} {n : Nat} {N : Int32} (hN : N = nI n) (hn : n < 2147483648) (hx : ¬ vp_in x n) : x.toInt64 < 0 ∨ (N - 1).toInt64 < x.toInt64 := by
  rcases vin_not hx with h | h | h
  · left
    rw [show (0 : Int64) = (0 : Int32).toInt64 from rfl, wide_lt]
    exact h
  · right
    rw [wide_lt, fa_lt, hN, sub1_toInt hn]
    rw [fa_le, nI_toInt hn] at h
    omega
  · omega
theorem sm_isRoom_t {n j : Nat} (hn : σ 0 3 = nI n) (h8 : n ≤ 8) (hj : j < n) (h : Q 1 σ) : Ci E TM yX10_isRoom iX10_isRoom (d + 1) [.ref 0, .int (nI j)] σ Q := eX10_isRoom _ (sm_in_t (in_t hn hj (by omega)).1 (in_t hn hj (by omega)).2 ⟨Or.inr rfl, h⟩)
theorem sm_isRoom_f {n : Nat} {x : Int32} (hn : σ 0 3 = nI n) (h8 : n ≤ 8) (hx : ¬ vp_in x n) (h : Q 0 σ) : Ci E TM yX10_isRoom iX10_isRoom (d + 1) [.ref 0, .int x] σ Q := eX10_isRoom _ (sm_in_f (in_f hn (by omega) hx) ⟨Or.inl rfl, h⟩)
theorem sm_isWaiter_t {n j : Nat} (hn : σ 0 7 = nI n) (h8 : n ≤ 4) (hj : j < n) (h : Q 1 σ) : Ci E TM yX10_isWaiter iX10_isWaiter (d + 1) [.ref 0, .int (nI j)] σ Q := eX10_isWaiter _ (sm_in_t (in_t hn hj (by omega)).1 (in_t hn hj (by omega)).2 ⟨Or.inr rfl, h⟩)
theorem sm_isWaiter_f {n : Nat} {x : Int32} (hn : σ 0 7 = nI n) (h8 : n ≤ 4) (hx : ¬ vp_in x n) (h : Q 0 σ) : Ci E TM yX10_isWaiter iX10_isWaiter (d + 1) [.ref 0, .int x] σ Q := eX10_isWaiter _ (sm_in_f (in_f hn (by omega) hx) ⟨Or.inl rfl, h⟩)
theorem sm_isThing_t {n j : Nat} (hn : σ 0 9 = nI n) (h8 : n ≤ 8) (hj : j < n) (h : Q 1 σ) : Ci E TM yX10_isThing iX10_isThing (d + 1) [.ref 0, .int (nI j)] σ Q := eX10_isThing _ (sm_in_t (in_t hn hj (by omega)).1 (in_t hn hj (by omega)).2 ⟨Or.inr rfl, h⟩)
theorem sm_isThing_f {n : Nat} {x : Int32} (hn : σ 0 9 = nI n) (h8 : n ≤ 8) (hx : ¬ vp_in x n) (h : Q 0 σ) : Ci E TM yX10_isThing iX10_isThing (d + 1) [.ref 0, .int x] σ Q := eX10_isThing _ (sm_in_f (in_f hn (by omega) hx) ⟨Or.inl rfl, h⟩)
theorem sm_two_t {n a b : Nat} (hn : σ 0 7 = nI n) (h8 : n ≤ 4) (ha : a < n) (hb : b < n) (hab : a ≠ b) (h : Q 1 σ) : Ci E TM yX10_areTwo iX10_areTwo (d + 1 + 1) [.ref 0, .int (nI a), .int (nI b)] σ Q := by
  refine eX10_areTwo _ _ (sm_isWaiter_t hn h8 ha ?_)
  rw [if_neg (by decide)]
  refine sm_isWaiter_t hn h8 hb ?_
  rw [if_neg (by decide), if_neg (by rw [nI_eq (by omega) (by omega)]; exact hab)]
  exact h
theorem sm_two_f {n : Nat} {x y : Int32} (hn : σ 0 7 = nI n) (h8 : n ≤ 4) (hx : ¬ (vp_in x n ∧ vp_in y n ∧ x ≠ y)) (h : Q 0 σ) : Ci E TM yX10_areTwo iX10_areTwo (d + 1 + 1) [.ref 0, .int x, .int y] σ Q := by
  refine eX10_areTwo _ _ ?_
  by_cases h1 : vp_in x n
  · obtain ⟨a, ha, rfl⟩ := vp_in_of h1 (by omega)
    refine sm_isWaiter_t hn h8 ha ?_
    rw [if_neg (by decide)]
    by_cases h2 : vp_in y n
    · obtain ⟨b, hb, rfl⟩ := vp_in_of h2 (by omega)
      refine sm_isWaiter_t hn h8 hb ?_
      rw [if_neg (by decide)]
      by_cases h3 : nI a = nI b
      · rw [if_pos h3]; exact h
      · exact absurd ⟨h1, h2, h3⟩ hx
    · refine sm_isWaiter_f hn h8 h2 ?_
      rw [if_pos rfl]
      exact h
  · refine sm_isWaiter_f hn h8 h1 ?_
    rw [if_pos rfl]
    exact h
theorem sm_has {s : Int32} {k : Nat} (hk : k < 32) (h : Q (if bt s k = true then 1 else 0) σ) : Ci E TM yX10_has iX10_has d [.int s, .int (nI k)] σ Q := by
  refine eX10_has _ _ ?_
  by_cases hb : bt s k = true
  · rw [if_pos ((hb_bt s hk).mpr hb)]; rw [if_pos hb] at h; exact h
  · rw [if_neg (fun q => hb ((hb_bt s hk).mp q))]; rw [if_neg hb] at h; exact h
theorem sm_hasC {s : Int32} {k : Nat} (hk : k < 32) (h1 : bt s k = true → Q 1 σ) (h0 : bt s k = false → Q 0 σ) : Ci E TM yX10_has iX10_has d [.int s, .int (nI k)] σ Q := by
  refine sm_has hk ?_
  cases hb : bt s k
  · exact h0 hb
  · exact h1 hb
theorem nI_add50 (r t : Nat) : nI r + 50 + nI t = nI (r + 50 + t) := by rw [show (50 : Int32) = nI 50 from rfl, nI_add, nI_add]
theorem sm_thingsAt {n r : Nat} (hn : σ 0 9 = nI n) (h8 : n ≤ 8) (hr : r + 59 ≤ 1416) (v : Int32) (h : Q (tset (fun t => σ 1 (r + 50 + t)) v n) σ) : Ci E TM yX10_thingsAt iX10_thingsAt d [.ref 0, .int (nI r), .int v] σ Q := by
  refine eX10_thingsAt _ v ?_
  refine wl_fold (fun i s => Wi E TM iX10_thingsAt d Q 5 [(0, .ref 0), (1, .int (nI r)), (2, .int v), (3, .int s), (4, .int i)] [] σ) (fun t s => if σ 1 (r + 50 + t) = v then s ||| ((1 : Int32) <<< (nI t &&& 31)) else s) n 0 ?_ ?_
  · refine bX10_thingsAt_5 _ _ _ _ ?_
    rw [hn, if_pos (nI_le (Nat.le_refl n) (by omega))]
    exact h
  · intro j hj ih
    refine bX10_thingsAt_5 _ _ _ _ ?_
    rw [hn, if_neg (nI_ge hj (by omega)), nI_add50]
    refine ⟨vin (by omega) (by decide), ?_⟩
    rw [vcl (by omega)]
    by_cases hp : σ 1 (r + 50 + j) = v
    · rw [if_pos hp] at ih ⊢; exact ih
    · rw [if_neg hp] at ih ⊢; rw [or_0]; exact ih
theorem sm_weightOf {n : Nat} (hn : σ 0 9 = nI n) (h8 : n ≤ 8) (s : Int32) (h : Q (wsum (σ 5) s n) σ) : Ci E TM yX10_weightOf iX10_weightOf (d + 1) [.ref 0, .int s] σ Q := by
  refine eX10_weightOf s ?_
  refine wl_fold (fun i z => Wi E TM iX10_weightOf (d + 1) Q 4 [(0, .ref 0), (1, .int s), (2, .int z), (3, .int i)] [] σ) (fun t z => if bt s t = true then z + σ 5 t else z) n 0 ?_ ?_
  · refine bX10_weightOf_4 _ _ _ ?_
    rw [hn, if_pos (nI_le (Nat.le_refl n) (by omega))]
    exact h
  · intro j hj ih
    refine bX10_weightOf_4 _ _ _ ?_
    rw [hn, if_neg (nI_ge hj (by omega))]
    refine sm_hasC (by omega) (fun hb => ?_) (fun hb => ?_)
    · rw [if_neg (by decide)]
      refine ⟨vin (by omega) (by decide), ?_⟩
      rw [if_pos hb] at ih
      rw [vcl (by omega)]
      exact ih
    · rw [if_pos rfl]
      rw [if_neg (by rw [hb]; decide)] at ih
      rw [Int32.add_zero]
      exact ih
theorem sm_worthOf {n : Nat} (hn : σ 0 9 = nI n) (h8 : n ≤ 8) (s : Int32) (h : Q (wsum (σ 6) s n) σ) : Ci E TM yX10_worthOf iX10_worthOf (d + 1) [.ref 0, .int s] σ Q := by
  refine eX10_worthOf s ?_
  refine wl_fold (fun i z => Wi E TM iX10_worthOf (d + 1) Q 4 [(0, .ref 0), (1, .int s), (2, .int z), (3, .int i)] [] σ) (fun t z => if bt s t = true then z + σ 6 t else z) n 0 ?_ ?_
  · refine bX10_worthOf_4 _ _ _ ?_
    rw [hn, if_pos (nI_le (Nat.le_refl n) (by omega))]
    exact h
  · intro j hj ih
    refine bX10_worthOf_4 _ _ _ ?_
    rw [hn, if_neg (nI_ge hj (by omega))]
    refine sm_hasC (by omega) (fun hb => ?_) (fun hb => ?_)
    · rw [if_neg (by decide)]
      refine ⟨vin (by omega) (by decide), ?_⟩
      rw [if_pos hb] at ih
      rw [vcl (by omega)]
      exact ih
    · rw [if_pos rfl]
      rw [if_neg (by rw [hb]; decide)] at ih
      rw [Int32.add_zero]
      exact ih
theorem two_k (k : Nat) : (2 : Int32) * nI k = nI (2 * k) := by rw [show (2 : Int32) = nI 2 from rfl, pk_mul]
theorem two_k1 (k : Nat) : (2 : Int32) * nI k + 1 = nI (2 * k + 1) := by rw [two_k, nI_1]
theorem sm_onTray {n r k : Nat} (hn : σ 0 9 = nI n) (h8 : n ≤ 8) (hr : r + 59 ≤ 1416) (h : Q (tset (fun t => σ 1 (r + 50 + t)) (nI (2 * k)) n ||| tset (fun t => σ 1 (r + 50 + t)) (nI (2 * k + 1)) n) σ) : Ci E TM yX10_onTray iX10_onTray (d + 1) [.ref 0, .int (nI r), .int (nI k)] σ Q := by
  refine eX10_onTray _ _ ?_
  rw [two_k1, two_k]
  exact sm_thingsAt hn h8 hr _ (sm_thingsAt hn h8 hr _ h)
theorem sm_differs {n r k : Nat} (hn : σ 0 9 = nI n) (h8 : n ≤ 8) (hr : r + 59 ≤ 1416) (h : Q (jabs (wsum (σ 5) (tset (fun t => σ 1 (r + 50 + t)) (nI (2 * k)) n) n - wsum (σ 5) (tset (fun t => σ 1 (r + 50 + t)) (nI (2 * k + 1)) n) n)) σ) : Ci E TM yX10_differs iX10_differs (d + 1 + 1) [.ref 0, .int (nI r), .int (nI k)] σ Q := by
  refine eX10_differs _ _ ?_
  rw [two_k1, two_k]
  refine sm_thingsAt hn h8 hr _ (sm_weightOf hn h8 _ (sm_thingsAt hn h8 hr _ (sm_weightOf hn h8 _ ?_)))
  unfold jabs at h
  by_cases h0 : 0 ≤ wsum (σ 5) (tset (fun t => σ 1 (r + 50 + t)) (nI (2 * k)) n) n - wsum (σ 5) (tset (fun t => σ 1 (r + 50 + t)) (nI (2 * k + 1)) n) n
  · rw [if_pos h0] at h ⊢; exact h
  · rw [if_neg h0] at h ⊢; exact h
theorem lit_add (a k : Nat) : (OfNat.ofNat a : Int32) + nI k = nI (a + k) := nI_add a k
theorem sm_whose {t : Nat} (ht : t < 8) (h : Q (if 0 ≤ σ 1 (50 + t) then σ 1 (50 + t) / 2 else -1) σ) : Ci E TM yX10_whose iX10_whose d [.ref 0, .int (nI t)] σ Q := by
  refine eX10_whose _ ?_
  rw [lit_add 50, vcl (by omega)]
  refine ⟨vin (by omega) (by decide), ?_⟩
  by_cases h0 : 0 ≤ σ 1 (50 + t)
  · rw [if_pos h0] at h ⊢; exact ⟨vin (by omega) (by decide), h⟩
  · rw [if_neg h0] at h ⊢; exact h
/-- what is reached next, from what is reached -/
theorem jany_from (J : Nat → Int32) (s a : Int32) (n : Nat) : itr (fun r z => if bt s r = true then z ||| J r else z) n a = a ||| jany J s n := by
  induction n with
  | zero => show a = a ||| 0; rw [or_0]
  | succ n ih =>
    show (if bt s n = true then itr _ n a ||| J n else itr _ n a) = a ||| (if bt s n = true then jany J s n ||| J n else jany J s n)
    rw [ih]
    by_cases h : bt s n = true
    · rw [if_pos h, if_pos h, Int32.or_assoc]
    · rw [if_neg h, if_neg h]
theorem jany_cut {J : Nat → Int32} {s : Int32} {n : Nat} (h : n ≤ 8) (hJ : ∀ r, n ≤ r → r < 8 → J r = 0) : jany J s 8 = jany J s n := itr_cut 8 h (fun k h1 h2 x => by
  rw [hJ k h1 h2, or_0]
  exact ite_self x)
theorem sm_wayOf {n a b : Nat} (hn : σ 0 3 = nI n) (h8 : n ≤ 8) (hJ : ∀ r, n ≤ r → r < 8 → σ 3 r = 0) (hb : b < 32) (h : Q (oI (dst (σ 3) b 8 0 ((1 : Int32) <<< (nI a &&& 31))) 1000000) σ) : Ci E TM yX10_wayOf iX10_wayOf (d + 1) [.ref 0, .int (nI a), .int (nI b)] σ Q := by
  refine eX10_wayOf _ _ ?_
  have key : ∀ f s r, s + f = 8 → Q (oI (dst (σ 3) b f s r) 1000000) σ → Wi E TM iX10_wayOf (d + 1) Q 7 [(0, .ref 0), (2, .int (nI b)), (3, .int r), (4, .int (nI s))] [] σ := by
    intro f
    induction f with
    | zero =>
      intro s r hs hq
      refine bX10_wayOf_7 _ _ _ ?_
      rw [if_pos (le_litp 8 (by omega) (by omega))]
      exact hq
    | succ f ih =>
      intro s r hs hq
      refine bX10_wayOf_7 _ _ _ ?_
      rw [if_neg (nle_lit 8 (by omega) (by decide))]
      unfold dst at hq
      refine sm_hasC hb (fun h1 => ?_) (fun h1 => ?_)
      · rw [if_neg (by decide)]
        rw [if_pos h1] at hq
        exact hq
      · rw [if_pos rfl]
        rw [if_neg (by rw [h1]; decide)] at hq
        refine wl_fold (fun i z => Wi E TM iX10_wayOf (d + 1) Q 31 [(0, .ref 0), (2, .int (nI b)), (3, .int r), (4, .int (nI s)), (5, .int z), (6, .int i)] [] σ) (fun e z => if bt r e = true then z ||| σ 3 e else z) n r ?_ ?_
        · refine bX10_wayOf_31 _ _ _ _ _ ?_
          rw [hn, if_pos (nI_le (Nat.le_refl n) (by omega)), nI_1, jany_from, ← jany_cut h8 hJ]
          exact ih (s + 1) _ (by omega) hq
        · intro j hj ih2
          refine bX10_wayOf_31 _ _ _ _ _ ?_
          rw [hn, if_neg (nI_ge hj (by omega))]
          refine sm_hasC (by omega) (fun hb => ?_) (fun hb => ?_)
          · rw [if_neg (by decide)]
            refine ⟨vin (by omega) (by decide), ?_⟩
            rw [if_pos hb] at ih2
            rw [vcl (by omega)]
            exact ih2
          · rw [if_pos rfl]
            rw [if_neg (by rw [hb]; decide)] at ih2
            rw [or_0]
            exact ih2
  exact key 8 0 _ rfl h
end ML

/-! ===== where, meets ===== -/
def wks (A : AS) (n : Nat) : AS := itr (fun _ A => wlk A) n A
theorem wks_at (A : AS) (k : Nat) : ∀ n, (aAt (wks A n) k, aRt (wks A n) k) = posn (aAt A k) (aRt A k) n
  | 0 => rfl
  | n + 1 => by
    have ih := wks_at A k n
    show ((stp (aAt (wks A n) k, aRt (wks A n) k)).1, aRt (wks A n) k / 10) = stp (posn (aAt A k) (aRt A k) n)
    rw [← ih]
    rfl
theorem wks_at1 (A : AS) (k n : Nat) : aAt (wks A n) k = (posn (aAt A k) (aRt A k) n).1 := congrArg Prod.fst (wks_at A k n)
theorem wks_ok {P : PD} {A : AS} (h : okA P A) : ∀ n, okA P (wks A n)
  | 0 => h
  | n + 1 => okA_wlk (wks_ok h n)
section WH
variable {E : tp_E} {d : Nat} {σ : tp_M} {P : PD} {A : AS}
theorem sM_tries {Q : tp_M → Prop} {D : DD} (h : okD D) (hm : mR σ D) (hq : ∀ σ', mR σ' D → mS σ' 59 (dP D) (dA D) → (∀ q, q ≠ 1 → σ' q = σ q) → Q σ') : Cv E TM yX10_tries iX10_tries (d + 1) [.ref 0] σ Q := by
  have hw := h.1.1.2.2.2.1
  have ht := h.1.1.2.2.2.2.1
  refine eX10_tries (sm_copy (a := 0) (b := 59) (by omega) (by omega) (by omega) (fun σ1 b1 b2 b3 => ?_))
  refine hq σ1 (hm.fr h (fun k _ _ => by rw [b3 0 (by omega)]) (fun i a b => b2 i (by omega)) (fun q a b => b3 q (by omega))) (mS.mv (b := 0) hw ht (fun i hi => b1 i (by omega)) hm.2.1) b3
theorem sM_walksAll {Q : tp_M → Prop} (hP : okP P) (hA : okA P A) (hm : σ 0 7 = nI (pw P)) (hS : mS σ 59 P A) (h : ∀ σ', mS σ' 59 P (wlk A) → (∀ k, k < pw P → σ' 14 k = nI (aAt A k) ∧ σ' 15 k = bI (decide (aAt (wlk A) k ≠ aAt A k))) → (∀ q, q ≠ 1 → q ≠ 14 → q ≠ 15 → σ' q = σ q) → (∀ i, (i < 59 ∨ 117 ≤ i) → σ' 1 i = σ 1 i) → Q σ') : Cv E TM yX10_walksAll iX10_walksAll (d + 1 + 1) [.ref 0] σ Q := by
  have h4 := hP.1.2.2.2.1
  refine eX10_walksAll ?_
  refine lup (fun j s => Wv E TM iX10_walksAll (d + 1 + 1) Q 2 [(0, .ref 0), (1, .int (nI j))] [] s) (fun j s' => (∀ q, q ≠ 1 → q ≠ 14 → q ≠ 15 → s' q = σ q) ∧ mS s' 59 P (wn A j) ∧ (∀ i, (i < 59 ∨ 117 ≤ i) → s' 1 i = σ 1 i) ∧ (∀ k, k < j → s' 14 k = nI (aAt A k) ∧ s' 15 k = bI (decide (aRt A k ≠ 0)))) (pw P) ?_ ?_ 0 σ (Nat.zero_le _) ⟨fun q _ _ _ => rfl, hS, fun i _ => rfl, fun k hk => absurd hk (Nat.not_lt_zero k)⟩
  · intro s1 ⟨g1, g2, g3, g4⟩
    refine bX10_walksAll_2 _ ?_
    rw [g1 0 (by omega) (by omega) (by omega), hm, if_pos (nI_le (Nat.le_refl _) (by omega))]
    refine h s1 (g2.cg (wn_rest A _).1.symm (wn_rest A _).2.1.symm (fun k hk => by rw [(wn_at A _ k).1, if_pos hk]; rfl) (fun k hk => by rw [(wn_at A _ k).2, if_pos hk]; rfl) (fun k hk => by rw [(wn_rest A _).2.2.1]; rfl) (fun k hk => by rw [(wn_rest A _).2.2.2]; rfl)) (fun k hk => ⟨(g4 k hk).1, by rw [(g4 k hk).2, went hP hA hk]⟩) g1 g3
  · intro j s1 hj ⟨g1, g2, g3, g4⟩ ih
    refine bX10_walksAll_2 _ ?_
    rw [g1 0 (by omega) (by omega) (by omega), hm, if_neg (nI_ge hj (by omega)), nI_1]
    have hat := wn_at A j j
    rw [if_neg (Nat.lt_irrefl j), if_neg (Nat.lt_irrefl j)] at hat
    refine sM_walks (b := 59) hP (by omega) hj (by rw [hat.2]; exact okA_rt hA j) g2 (fun s2 k1 k2 k3 k4 k5 k6 => ih s2 ⟨fun q a b c => by rw [k4 q a b c]; exact g1 q a b c, k1, fun i a => by rw [k5 i (by omega)]; exact g3 i a, fun k hk => ?_⟩)
    by_cases q : k = j
    · subst q
      rw [k2, k3, hat.1, hat.2]
      exact ⟨rfl, rfl⟩
    · rw [(k6 k q).1, (k6 k q).2]
      exact g4 k (by omega)
/-- a room behind some minutes, also where none stands -/
theorem sC_roomAny {Q : Int32 → tp_M → Prop} (hP : okP P) (hA : okA P A) (hS : cS σ 9 P A) {k n : Nat} (hk : k < 4) (hn : n < 2147483648) (h : ∀ v, (k < pw P → v = nI (posn (aAt A k) (aRt A k) n).1) → Q v σ) : Ci E TC yX8_roomAfter iX8_roomAfter (d + 1 + 1) [.ref 9, .int (nI k), .int (nI n)] σ Q := by
  by_cases hkw : k < pw P
  · exact sC_roomAfter hP hA hS hkw hn (h _ (fun _ => rfl))
  · refine eX8_roomAfter _ _ (sc_roomOf hk (sc_routeOf hk ?_))
    rw [show σ 11 k = nI (aRt A k) from hS.2.2.1 k hk, hA.2.2.1 k (by omega)]
    refine bX8_roomAfter_16 _ _ _ _ ?_
    have := h (σ 10 k) (fun q => absurd q hkw)
    by_cases q : nI n ≤ 0
    · rw [if_pos q]; exact this
    · rw [if_neg q, if_pos (by decide)]; exact this
/-- the tracks -/
def trk (σ : tp_M) (P : PD) (A : AS) : Prop := (∀ k, k < pw P → σ 143 k = nI (nd (aRt A k))) ∧ ∀ k m, k < pw P → m ≤ 20 → σ 142 (k * 21 + m) = nI (posn (aAt A k) (aRt A k) m).1
theorem mul21 (k : Nat) : nI k * 21 = nI (k * 21) := by rw [show (21 : Int32) = nI 21 from rfl, pk_mul]
theorem sC_layTracks {Q : tp_M → Prop} (hP : okP P) (hA : okA P A) (hS : cS σ 9 P A) (h : ∀ σ', trk σ' P A → (∀ q, q ≠ 142 → q ≠ 143 → σ' q = σ q) → Q σ') : Cv E TC yX1_layTracks iX1_layTracks (d + 1 + 1 + 1) [.ref 141] σ Q := by
  have h4 := hP.1.2.2.2.1
  refine eX1_layTracks ?_
  refine lup (fun j s => Wv E TC iX1_layTracks (d + 1 + 1 + 1) Q 2 [(0, .ref 141), (1, .int (nI j))] [] s) (fun j s => (∀ q, q ≠ 142 → q ≠ 143 → s q = σ q) ∧ (∀ k, k < j → k < pw P → s 143 k = nI (nd (aRt A k))) ∧ ∀ k m, k < j → k < pw P → m ≤ 20 → s 142 (k * 21 + m) = nI (posn (aAt A k) (aRt A k) m).1) 4 ?_ ?_ 0 σ (by omega) ⟨fun q _ _ => rfl, fun k hk => absurd hk (Nat.not_lt_zero k), fun k m hk => absurd hk (Nat.not_lt_zero k)⟩
  · intro s ⟨g1, g2, g3⟩
    refine bX1_layTracks_2 _ ?_
    rw [if_pos (by decide)]
    exact h s ⟨fun k hk => g2 k (by omega) hk, fun k m hk hm => g3 k m (by omega) hk hm⟩ g1
  · intro j s hj ⟨g1, g2, g3⟩ ih
    refine bX1_layTracks_2 _ ?_
    rw [if_neg (nle_lit 4 hj (by decide))]
    refine sc_routeOf hj ?_
    rw [g1 11 (by omega) (by omega), show σ 11 j = nI (aRt A j) from hS.2.2.1 j hj]
    refine sc_stepsOf (by have := okA_rt hA j; omega) ?_
    rw [vcl (by omega)]
    refine ⟨vin hj (by decide), ?_⟩
    refine lup (fun t s => Wv E TC iX1_layTracks (d + 1 + 1 + 1) Q 26 [(0, .ref 141), (1, .int (nI j)), (2, .int (nI t))] [] s) (fun t s => (∀ q, q ≠ 142 → q ≠ 143 → s q = σ q) ∧ (∀ k, k < j + 1 → k < pw P → s 143 k = nI (nd (aRt A k))) ∧ (∀ k m, k < j → k < pw P → m ≤ 20 → s 142 (k * 21 + m) = nI (posn (aAt A k) (aRt A k) m).1) ∧ ∀ m, m < t → j < pw P → s 142 (j * 21 + m) = nI (posn (aAt A j) (aRt A j) m).1) 21 ?_ ?_ 0 _ (by omega) ⟨fun q a b => by rw [uu3 _ _ _ b]; exact g1 q a b, fun k a b => ?_, fun k m a b c => by rw [uu3 _ _ _ (by omega)]; exact g3 k m a b c, fun m hm => absurd hm (Nat.not_lt_zero m)⟩
    · intro s1 ⟨k1, k2, k3, k4⟩
      refine bX1_layTracks_26 _ _ ?_
      rw [if_pos (by decide), nI_1]
      refine ih s1 ⟨k1, k2, fun k m a b c => ?_⟩
      by_cases q : k = j
      · subst q; exact k4 m (by omega) b
      · exact k3 k m (by omega) b c
    · intro t s1 ht ⟨k1, k2, k3, k4⟩ ih1
      refine bX1_layTracks_26 _ _ ?_
      rw [if_neg (nlt_lit 20 (by omega) (by decide)), mul21, nI_add, vcl (by omega), nI_1]
      refine sC_roomAny hP hA (hS.fr (fun q a b => k1 q (by omega) (by omega))) hj (by omega) (fun v hv => ⟨vin (by omega) (by decide), ih1 _ ⟨fun q a b => by rw [uu3 _ _ _ a]; exact k1 q a b, fun k a b => by rw [uu3 _ _ _ (by omega)]; exact k2 k a b, fun k m a b c => by rw [uu2 _ _ _ (by omega)]; exact k3 k m a b c, fun m hm hjw => ?_⟩⟩)
      by_cases q : m = t
      · subst q; rw [uu1]; exact hv hjw
      · rw [uu2 _ _ _ (by omega)]; exact k4 m (by omega) hjw
    · by_cases q : k = j
      · subst q; rw [uu1]
      · rw [uu2 _ _ _ q]; exact g2 k (by omega) b
/-- where k is behind m minutes, if it waits for e before -/
def trn_at (A : AS) (k e m : Nat) : Nat := (posn (aAt A k) (aRt A k) (m - e)).1
theorem sC_trackAt {Q : Int32 → tp_M → Prop} (hP : okP P) (h13 : σ 1 3 = nI (pw P)) (ht : trk σ P A) {k e m : Nat} (hk : k < pw P) (he : e < 100) (hm : m ≤ 20) (x : Int32) (hx : x.toInt = (m : Int) - e) (h : Q (nI (trn_at A k e m)) σ) : Ci E TC yX1_trackAt iX1_trackAt (d + 1) [.ref 141, .int (nI k), .int x] σ Q := by
  have h4 := hP.1.2.2.2.1
  refine eX1_trackAt _ _ (sc_hasWaiter_t h13 h4 hk ?_)
  rw [if_neg (by decide), if_pos (by rw [fa_le, lit_t 20 (by decide)]; omega)]
  have e0 : (0 : Int32).toInt = 0 := by decide
  have ex : (if x < 0 then 0 else x) = nI (m - e) := by
    rw [fa_eq, nI_toInt (by omega)]
    by_cases q : x < 0
    · rw [if_pos q, e0]; rw [fa_lt, e0] at q; omega
    · rw [if_neg q]; rw [fa_lt, e0] at q; omega
  rw [ex, mul21, nI_add, vcl (by omega), ht.2 k (m - e) hk (by omega)]
  exact ⟨vin (by omega) (by decide), h⟩
/-- the first minute in which two meet, with delays -/
def fmt (A : AS) (i e j g : Nat) : Nat → Nat → Int32
  | 0, _ => -1
  | f + 1, m => if met (trn_at A i e (m - 1)) (trn_at A i e m) (trn_at A j g (m - 1)) (trn_at A j g m) = true then nI m else fmt A i e j g f (m + 1)
theorem trn_at_lt (hA : okA P A) {k e m : Nat} (hk : k < pw P) : trn_at A k e m < pn P := by
  unfold trn_at
  rw [← wks_at1]
  exact ((wks_ok hA _).2.1 k hk).1
theorem sC_meetingOf {Q : Int32 → tp_M → Prop} (hP : okP P) (hA : okA P A) (h13 : σ 1 3 = nI (pw P)) (ht : trk σ P A) {i j e g : Nat} (hi : i < pw P) (hj : j < pw P) (he : e < 100) (hg : g < 100) (h : Q (fmt A i e j g 20 1) σ) : Ci E TC yX1_meetingOf iX1_meetingOf (d + 1 + 1) [.ref 141, .int (nI i), .int (nI e), .int (nI j), .int (nI g)] σ Q := by
  have h8 := hP.1.1
  refine eX1_meetingOf _ _ _ _ ?_
  have key : ∀ f m, m + f = 21 → 1 ≤ m → Q (fmt A i e j g f m) σ → Wi E TC iX1_meetingOf (d + 1 + 1) Q 3 [(0, .ref 141), (1, .int (nI i)), (2, .int (nI e)), (3, .int (nI j)), (4, .int (nI g)), (5, .int (nI m))] [] σ := by
    intro f
    induction f with
    | zero =>
      intro m hm h1 hq
      refine bX1_meetingOf_3 _ _ _ _ _ ?_
      rw [if_pos (lt_litp 20 (by omega) (by omega))]
      exact hq
    | succ f ih =>
      intro m hm h1 hq
      refine bX1_meetingOf_3 _ _ _ _ _ ?_
      rw [if_neg (nlt_lit 20 (by omega) (by decide)), nI_sub1 h1]
      have a1 := trn_at_lt hA (e := e) (m := m - 1) hi
      have a2 := trn_at_lt hA (e := e) (m := m) hi
      have a3 := trn_at_lt hA (e := g) (m := m - 1) hj
      have a4 := trn_at_lt hA (e := g) (m := m) hj
      refine sC_trackAt hP h13 ht hi he (m := m - 1) (by omega) _ (by rw [pk_sub_toInt (by omega) (by omega)]) ?_
      refine sC_trackAt hP h13 ht hj hg (m := m - 1) (by omega) _ (by rw [pk_sub_toInt (by omega) (by omega)]) ?_
      refine sC_trackAt hP h13 ht hi he (m := m) (by omega) _ (by rw [pk_sub_toInt (by omega) (by omega)]) ?_
      refine sC_trackAt hP h13 ht hj hg (m := m) (by omega) _ (by rw [pk_sub_toInt (by omega) (by omega)]) ?_
      refine sC_met (by omega) (by omega) (by omega) (by omega) ?_
      rw [nI_1]
      unfold fmt at hq
      cases hmt : met (trn_at A i e (m - 1)) (trn_at A i e m) (trn_at A j g (m - 1)) (trn_at A j g m) with
      | true =>
        rw [hmt, if_pos rfl] at hq
        rw [if_neg (by decide)]
        exact hq
      | false =>
        rw [hmt, if_neg (by decide)] at hq
        rw [if_pos (show bI false = 0 from rfl)]
        exact ih (m + 1) (by omega) (by omega) hq
  exact key 20 1 rfl (by omega) h
end WH
theorem op_where {D : DD} (h : okD D) (x y : Int32) : op_Q yX9_where iX9_where yX10_where iX10_where [.int x, .int y] D := by
  have h4 := h.1.1.2.2.2.1
  have ht := h.1.1.2.2.2.2.1
  rcases vrng x (pw (dP D)) (by omega) with ⟨k, hk, rfl⟩ | hx
  · have hc0 : ∀ {E : tp_E} {d : Nat} {σ : tp_M} {Q : Int32 → tp_M → Prop}, cR σ D → Q 1 σ → Ci E TC yX5_hasWaiter iX5_hasWaiter d [.ref 1, .int (nI k)] σ Q := fun hc hq => sc_hasWaiter_t hc.1.1.2.2.2.1 h4 hk hq
    have hm0 : ∀ {E : tp_E} {d : Nat} {σ : tp_M} {Q : Int32 → tp_M → Prop}, mR σ D → Q 1 σ → Ci E TM yX10_isWaiter iX10_isWaiter (d + 1) [.ref 0, .int (nI k)] σ Q := fun hm hq => sm_isWaiter_t hm.1.1.2.2.2.1 h4 hk hq
    rcases rng y 0 20 (by decide) with ⟨n, -, hn, rfl⟩ | hy
    · refine ⟨nI (posn (aAt (dA D) k) (aRt (dA D) k) n).1, D, h, fun E σ Q hc hq => eX9_where _ _ (hc0 hc ?_), fun E σ Q hm hq => eX10_where _ _ (hm0 hm ?_)⟩
      · rw [if_neg (by decide)]
        refine sc_fore_t 0 (by omega) hn ?_
        rw [if_neg (by decide)]
        exact sC_roomAfter h.1 h.2.1 hc.2.1 hk (by omega) (hq σ hc)
      · rw [if_neg (by decide)]
        refine sm_inL_t 0 20 (by omega) hn (by decide) ?_
        rw [if_neg (by decide)]
        refine sM_tries h hm (fun σ1 hm1 hs1 _ => ?_)
        refine lup (fun j s => Wi E TM iX10_where 8 Q 32 [(0, .ref 0), (1, .int (nI k)), (2, .int (nI n)), (3, .int (nI j))] [] s) (fun j s => mR s D ∧ mS s 59 (dP D) (wks (dA D) j)) n ?_ ?_ 0 σ1 (Nat.zero_le _) ⟨hm1, hs1⟩
        · intro s ⟨s1, s2⟩
          refine bX10_where_32 _ _ _ ?_
          have e : s 1 (61 + k) = nI (aAt (wks (dA D) n) k) := s2.2.1 k hk
          rw [if_pos (nI_le (Nat.le_refl _) (by omega)), lit_add 61, vcl (by omega), e, wks_at1]
          exact ⟨vin (by omega) (by decide), hq s s1⟩
        · intro j s hj ⟨s1, s2⟩ ih
          refine bX10_where_32 _ _ _ ?_
          rw [if_neg (nI_ge hj (by omega)), nI_1]
          refine sM_walksAll h.1 (wks_ok h.2.1 j) s1.1.1.2.2.2.1 s2 (fun σ' w1 w2 w3 w4 => ih σ' ⟨s1.fr h (fun k _ _ => by rw [w3 0 (by omega) (by omega) (by omega)]) (fun i a b => w4 i (by omega)) (fun q a b => w3 q (by omega) (by omega) (by omega)), w1⟩)
    · refine op_Q.ask (-1000000002) h (fun E σ Q hc hq => eX9_where _ _ (hc0 hc ?_)) (fun E σ Q hm hq => eX10_where _ _ (hm0 hm ?_))
      · rw [if_neg (by decide)]
        refine sc_fore_f 0 hy (by decide) ?_
        rw [if_pos rfl]; exact hq
      · rw [if_neg (by decide)]
        refine sm_inL_f 0 20 hy (by decide) (by decide) ?_
        rw [if_pos rfl]; exact hq
  · refine op_Q.ask (-1000000001) h (fun E σ Q hc hq => eX9_where _ _ (sc_hasWaiter_f hc.1.1.2.2.2.1 h4 hx ?_)) (fun E σ Q hm hq => eX10_where _ _ (sm_isWaiter_f hm.1.1.2.2.2.1 h4 hx ?_))
    · rw [if_pos rfl]; exact hq
    · rw [if_pos rfl]; exact hq
theorem op_meets {D : DD} (h : okD D) (x y : Int32) : op_Q yX9_meets iX9_meets yX10_meets iX10_meets [.int x, .int y] D := by
  have h4 := h.1.1.2.2.2.1
  have ht := h.1.1.2.2.2.2.1
  have h8 := h.1.1.1
  by_cases hxy : vp_in x (pw (dP D)) ∧ vp_in y (pw (dP D)) ∧ x ≠ y
  · obtain ⟨hx, hy, hne⟩ := hxy
    obtain ⟨i, hi, rfl⟩ := vp_in_of hx (by omega)
    obtain ⟨j, hj, rfl⟩ := vp_in_of hy (by omega)
    have hij : i ≠ j := fun q => hne (by rw [q])
    refine ⟨fmt (dA D) i 0 j 0 20 1, D, h, fun E σ Q hc hq => eX9_meets _ _ (sc_two_t hc.1.1.2.2.2.1 h4 hi hj hij ?_), fun E σ Q hm hq => eX10_meets _ _ (sm_two_t hm.1.1.2.2.2.1 h4 hi hj hij ?_)⟩
    · rw [if_neg (by decide)]
      refine eX1_firstMeeting _ _ (sC_layTracks h.1 h.2.1 hc.2.1 (fun σ1 t1 f1 => ?_))
      have hc1 : cR σ1 D := hc.fr (fun q a => f1 q (fun z => a (by unfold cScr; omega)) (fun z => a (by unfold cScr; omega)))
      exact sC_meetingOf (e := 0) (g := 0) h.1 h.2.1 hc1.1.1.2.2.2.1 t1 hi hj (by omega) (by omega) (hq σ1 hc1)
    · rw [if_neg (by decide)]
      refine sM_tries h hm (fun σ1 hm1 hs1 _ => ?_)
      have key : ∀ f m s, m + f = 21 → 1 ≤ m → mR s D → mS s 59 (dP D) (wks (dA D) (m - 1)) → (∀ σ', mR σ' D → Q (fmt (dA D) i 0 j 0 f m) σ') → Wi E TM iX10_meets 8 Q 18 [(0, .ref 0), (1, .int (nI i)), (2, .int (nI j)), (3, .int (nI m))] [] s := by
        intro f
        induction f with
        | zero =>
          intro m s hmf h1 s1 s2 hq
          refine bX10_meets_18 _ _ _ ?_
          rw [if_pos (lt_litp 20 (by omega) (by omega))]
          exact hq s s1
        | succ f ih =>
          intro m s hmf h1 s1 s2 hq
          refine bX10_meets_18 _ _ _ ?_
          rw [if_neg (nlt_lit 20 (by omega) (by decide)), nI_1]
          have o1 := wks_ok h.2.1 (m - 1)
          have o2 := okA_wlk o1
          refine sM_walksAll h.1 o1 s1.1.1.2.2.2.1 s2 (fun s' w1 w2 w3 w4 => ?_)
          have s1' : mR s' D := s1.fr h (fun k _ _ => by rw [w3 0 (by omega) (by omega) (by omega)]) (fun i a b => w4 i (by omega)) (fun q a b => w3 q (by omega) (by omega) (by omega))
          have ew : wlk (wks (dA D) (m - 1)) = wks (dA D) m := by rw [show m = m - 1 + 1 by omega]; rfl
          have l1 := (o1.2.1 i hi).1
          have l2 := (o1.2.1 j hj).1
          have l3 := (o2.2.1 i hi).1
          have l4 := (o2.2.1 j hj).1
          refine sM_met (b := 59) (by omega) (by omega) (by omega) (w1.2.1 i hi) (w1.2.1 j hj) (w2 i hi).1 (w2 j hj).1 (w2 i hi).2 (w2 j hj).2 (by omega) (by omega) (by omega) (by omega) ?_
          rw [ew] at w1 ⊢
          rw [wks_at1, wks_at1, wks_at1, wks_at1]
          unfold fmt at hq
          change ∀ σ', mR σ' D → Q (if met (posn (aAt (dA D) i) (aRt (dA D) i) (m - 1)).1 (posn (aAt (dA D) i) (aRt (dA D) i) m).1 (posn (aAt (dA D) j) (aRt (dA D) j) (m - 1)).1 (posn (aAt (dA D) j) (aRt (dA D) j) m).1 = true then nI m else fmt (dA D) i 0 j 0 f (m + 1)) σ' at hq
          cases hmt : met (posn (aAt (dA D) i) (aRt (dA D) i) (m - 1)).1 (posn (aAt (dA D) i) (aRt (dA D) i) m).1 (posn (aAt (dA D) j) (aRt (dA D) j) (m - 1)).1 (posn (aAt (dA D) j) (aRt (dA D) j) m).1 with
          | true =>
            rw [hmt] at hq
            rw [if_neg (by decide)]
            exact hq s' s1'
          | false =>
            rw [hmt] at hq
            rw [if_pos (show bI false = 0 from rfl)]
            exact ih (m + 1) s' (by omega) (by omega) s1' (by rw [show m + 1 - 1 = m by omega]; exact w1) hq
      exact key 20 1 σ1 rfl (by omega) hm1 hs1 hq
  · refine op_Q.ask (-1000000001) h (fun E σ Q hc hq => eX9_meets _ _ (sc_two_f hc.1.1.2.2.2.1 h4 hxy ?_)) (fun E σ Q hm hq => eX10_meets _ _ (sm_two_f hm.1.1.2.2.2.1 h4 hxy ?_))
    · rw [if_pos rfl]; exact hq
    · rw [if_pos rfl]; exact hq

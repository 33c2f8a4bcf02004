/-! ===== routes by their figures ===== -/
theorem ndf_spec : ∀ (f r : Nat), r < 10 ^ f → ∀ e, r / 10 ^ e = 0 ↔ ndf f r ≤ e
  | 0, r, h, e => by
    have : r = 0 := by simpa using h
    subst this
    simp [ndf]
  | f + 1, r, h, e => by
    unfold ndf
    by_cases h0 : r = 0
    · subst h0; simp
    · rw [if_neg h0]
      cases e with
      | zero => simp [h0]
      | succ e =>
        rw [Nat.pow_succ, Nat.mul_comm, ← Nat.div_div_eq_div_mul, ndf_spec f (r / 10) (by rw [Nat.pow_succ] at h; omega) e]
        omega
theorem nd_spec {r : Nat} (h : r < 1000000000) (e : Nat) : r / 10 ^ e = 0 ↔ nd r ≤ e := ndf_spec 9 r h e
theorem nd_0 {r : Nat} (h : r < 1000000000) : nd r = 0 ↔ r = 0 := by
  have := nd_spec h 0
  simp at this
  omega
theorem nd_div {r : Nat} (h : r < 1000000000) : nd (r / 10) = nd r - 1 := by
  have a := fun e => nd_spec (r := r / 10) (by omega) e
  have b := fun e => nd_spec h e
  have c : ∀ e, nd (r / 10) ≤ e ↔ nd r ≤ e + 1 := fun e => by
    rw [← a e, ← b (e + 1), Nat.pow_succ, Nat.mul_comm, Nat.div_div_eq_div_mul]
  have h1 := (c (nd r - 1)).mpr (by omega)
  have h2 := (c (nd (r / 10))).mp (Nat.le_refl _)
  omega
theorem dg_div (r e : Nat) : dg (r / 10) e = dg r (e + 1) := by
  unfold dg
  rw [Nat.div_div_eq_div_mul, Nat.pow_succ, Nat.mul_comm]
theorem dg_0 (r : Nat) : dg r 0 = r % 10 - 1 := by unfold dg; rw [Nat.pow_zero, Nat.div_one]
theorem chn_dig {P : PD} : ∀ (f c r : Nat), chn P f c r → ∀ e, e < ndf f r → 1 ≤ r / 10 ^ e % 10 ∧ r / 10 ^ e % 10 ≤ pn P
  | 0, c, r, h, e, he => by simp [ndf] at he
  | f + 1, c, r, h, e, he => by
    unfold ndf at he
    by_cases h0 : r = 0
    · rw [if_pos h0] at he; omega
    · rw [if_neg h0] at he
      rcases h with h | ⟨h1, h2, h3, h4⟩
      · exact absurd h h0
      · cases e with
        | zero => simp; exact ⟨h1, h2⟩
        | succ e =>
          have := chn_dig f _ _ h4 e (by omega)
          rw [Nat.div_div_eq_div_mul] at this
          rw [Nat.pow_succ, Nat.mul_comm]
          exact this
theorem rem10 {r : Nat} (h : r < 2147483648) : nI r - nI r / 10 * 10 = nI (r % 10) := pk_rem (d := 10) h (by decide) (by decide)
theorem div10 {r : Nat} (h : r < 2147483648) : nI r / 10 = nI (r / 10) := pk_div (d := 10) h (by decide) (by decide)
theorem nI_sub1 {m : Nat} (h : 1 ≤ m) : nI m - 1 = nI (m - 1) := pk_sub (b := 1) h
/-- where one is behind n minutes -/
def stp (p : Nat × Nat) : Nat × Nat := (if p.2 = 0 then p.1 else p.2 % 10 - 1, p.2 / 10)
def posn (c r n : Nat) : Nat × Nat := itr (fun _ p => stp p) n (c, r)
theorem itr_const_succ {α : Type} (f : α → α) : ∀ (n : Nat) (s : α), itr (fun _ x => f x) (n + 1) s = itr (fun _ x => f x) n (f s)
  | 0, s => rfl
  | n + 1, s => by
    show f (itr (fun _ x => f x) (n + 1) s) = f (itr (fun _ x => f x) n (f s))
    rw [itr_const_succ f n s]
theorem posn_0 (c n : Nat) : posn c 0 n = (c, 0) := by
  unfold posn
  induction n with
  | zero => rfl
  | succ n ih => rw [itr_const_succ, show stp (c, 0) = (c, 0) from by simp [stp]]; exact ih
theorem posn_s (c r n : Nat) (h : r ≠ 0) : posn c r (n + 1) = posn (r % 10 - 1) (r / 10) n := by
  unfold posn
  rw [itr_const_succ]
  unfold stp
  rw [if_neg h]
theorem chn_mono {P : PD} : ∀ (f c r : Nat), chn P f c r → chn P (f + 1) c r
  | 0, c, r, h => Or.inl h
  | f + 1, c, r, h => by
    rcases h with h | ⟨h1, h2, h3, h4⟩
    · exact Or.inl h
    · exact Or.inr ⟨h1, h2, h3, chn_mono f _ _ h4⟩
/-- the rooms to which one comes in n minutes -/
def cset (r n : Nat) : Int32 := itr (fun e s => s ||| ((1 : Int32) <<< (nI (dg r e) &&& 31))) (min n (nd r)) 0
section RT
variable {E : tp_E} {d : Nat} {σ : tp_M} {Q : Int32 → tp_M → Prop} {P : PD} {A : AS}
theorem sC_roomAfter (hP : okP P) (hA : okA P A) (hS : cS σ 9 P A) {k n : Nat} (hk : k < pw P) (hn : n < 2147483648) (h : Q (nI (posn (aAt A k) (aRt A k) n).1) σ) : Ci E TC yX8_roomAfter iX8_roomAfter (d + 1 + 1) [.ref 9, .int (nI k), .int (nI n)] σ Q := by
  have h4 := hP.1.2.2.2.1
  refine eX8_roomAfter _ _ (sc_roomOf (by omega) (sc_routeOf (by omega) ?_))
  rw [show σ 10 k = nI (aAt A k) from hS.2.1 k hk, show σ 11 k = nI (aRt A k) from hS.2.2.1 k (by omega)]
  have key : ∀ f i c r g, i + f = n → chn P g c r → r < 1000000000 → Q (nI (posn c r f).1) σ → Wi E TC iX8_roomAfter (d + 1 + 1) Q 16 [(2, .int (nI n)), (3, .int (nI c)), (4, .int (nI r)), (5, .int (nI i))] [] σ := by
    intro f
    induction f with
    | zero =>
      intro i c r g hi hc hr hq
      refine bX8_roomAfter_16 _ _ _ _ ?_
      rw [if_pos (nI_le (by omega) (by omega))]
      exact hq
    | succ f ih =>
      intro i c r g hi hc hr hq
      refine bX8_roomAfter_16 _ _ _ _ ?_
      rw [if_neg (nI_ge (by omega) (by omega))]
      by_cases h0 : r = 0
      · subst h0
        rw [if_pos (by decide)]
        rw [posn_0] at hq
        exact hq
      · rw [if_neg (nI_nleL 0 (by omega) (by omega)), rem10 (by omega), div10 (by omega), nI_1]
        rw [posn_s _ _ _ h0] at hq
        cases g with
        | zero => exact absurd hc h0
        | succ g =>
          rcases hc with hc | ⟨c1, c2, c3, c4⟩
          · exact absurd hc h0
          · rw [nI_sub1 c1]
            exact ih (i + 1) _ _ g (by omega) c4 (by omega) hq
  exact key n 0 _ _ 9 (by omega) (hA.2.1 k hk).2 (okA_rt hA k) h
theorem cset_lt (r n : Nat) : cset r n = itr (fun e s => s ||| ((1 : Int32) <<< (nI (dg r e) &&& 31))) (min n (nd r)) 0 := rfl
theorem sC_cameTo (hP : okP P) (hA : okA P A) (hS : cS σ 9 P A) {k n : Nat} (hk : k < pw P) (hn : n < 2147483648) (h : Q (cset (aRt A k) n) σ) : Ci E TC yX8_roomsCameTo iX8_roomsCameTo (d + 1 + 1) [.ref 9, .int (nI k), .int (nI n)] σ Q := by
  have h4 := hP.1.2.2.2.1
  have hr := okA_rt hA k
  refine eX8_roomsCameTo _ _ (sc_routeOf (by omega) ?_)
  rw [show σ 11 k = nI (aRt A k) from hS.2.2.1 k (by omega)]
  have hd := nd_le (aRt A k)
  have key : ∀ f i s, i + f = min n (nd (aRt A k)) → s = itr (fun e s => s ||| ((1 : Int32) <<< (nI (dg (aRt A k) e) &&& 31))) i 0 → Wi E TC iX8_roomsCameTo (d + 1 + 1) Q 12 [(2, .int (nI n)), (3, .int s), (4, .int (nI (aRt A k / 10 ^ i))), (5, .int (nI i))] [] σ := by
    intro f
    induction f with
    | zero =>
      intro i s hi hs
      refine bX8_roomsCameTo_12 _ _ _ _ ?_
      have hq : Q s σ := by rw [hs, show i = min n (nd (aRt A k)) by omega]; exact h
      by_cases h1 : n ≤ i
      · rw [if_pos (nI_le h1 (by omega))]; exact hq
      · rw [if_neg (nI_ge (by omega) (by omega)), if_pos]
        · exact hq
        · rw [(nd_spec hr i).mpr (by omega)]; decide
    | succ f ih =>
      intro i s hi hs
      refine bX8_roomsCameTo_12 _ _ _ _ ?_
      have hne : aRt A k / 10 ^ i ≠ 0 := fun q => by have := (nd_spec hr i).mp q; omega
      have hlt : aRt A k / 10 ^ i < 2147483648 := Nat.lt_of_le_of_lt (Nat.div_le_self _ _) (by omega)
      have h1 := (chn_dig 9 _ _ (hA.2.1 k hk).2 i (by show i < nd (aRt A k); omega)).1
      rw [if_neg (nI_ge (by omega) (by omega)), if_neg (nI_nleL 0 (Nat.pos_of_ne_zero hne) hlt), rem10 hlt, div10 hlt, nI_1, nI_sub1 h1, Nat.div_div_eq_div_mul, ← Nat.pow_succ]
      exact ih (i + 1) _ (by omega) (by rw [hs]; rfl)
  have := key (min n (nd (aRt A k))) 0 0 (by omega) rfl
  rw [Nat.pow_zero, Nat.div_one] at this
  exact this
theorem sM_comesTo (hP : okP P) (hm : mP σ P) (hA : okA P A) (hS : mS σ 0 P A) {k n : Nat} (hk : k < pw P) (hn : n < 2147483648) (h : Q (cset (aRt A k) n) σ) : Ci E TM yX10_comesTo iX10_comesTo d [.ref 0, .int (nI k), .int (nI n)] σ Q := by
  have h4 := hP.1.2.2.2.1
  have hr := okA_rt hA k
  have hd := nd_le (aRt A k)
  refine eX10_comesTo _ _ ?_
  have e6 : σ 1 (6 + k) = nI (nd (aRt A k)) := by have := (hS.2.2.1 k hk).1; rw [Nat.zero_add] at this; exact this
  have key : ∀ f i s, i + f = min n (nd (aRt A k)) → s = itr (fun e s => s ||| ((1 : Int32) <<< (nI (dg (aRt A k) e) &&& 31))) i 0 → Wi E TM iX10_comesTo d Q 5 [(0, .ref 0), (1, .int (nI k)), (2, .int (nI n)), (3, .int s), (4, .int (nI i))] [] σ := by
    intro f
    induction f with
    | zero =>
      intro i s hi hs
      refine bX10_comesTo_5 _ _ _ _ ?_
      have hq : Q s σ := by rw [hs, show i = min n (nd (aRt A k)) by omega]; exact h
      by_cases h1 : n ≤ i
      · rw [if_pos (nI_le h1 (by omega))]; exact hq
      · rw [if_neg (nI_ge (by omega) (by omega)), lit_add 6, vcl (by omega), e6, if_pos (nI_le (by omega) (by omega))]
        exact ⟨vin (by omega) (by decide), hq⟩
    | succ f ih =>
      intro i s hi hs
      refine bX10_comesTo_5 _ _ _ _ ?_
      have e10 : σ 1 (10 + 9 * k + i) = nI (dg (aRt A k) i) := by have := (hS.2.2.1 k hk).2 i (by omega); rw [Nat.zero_add] at this; exact this
      rw [if_neg (nI_ge (by omega) (by omega)), lit_add 6, vcl (by omega), e6, if_neg (nI_ge (by omega) (by omega)), show (9 : Int32) * nI k = nI (9 * k) from by rw [show (9 : Int32) = nI 9 from rfl, pk_mul], lit_add 10, nI_add, vcl (by omega), e10, nI_1]
      exact ⟨vin (by omega) (by decide), vin (by omega) (by decide), ih (i + 1) _ (by omega) (by rw [hs]; rfl)⟩
  exact key (min n (nd (aRt A k))) 0 0 (by omega) rfl
end RT
/-! ===== calm, covered, way ===== -/
theorem op_calm {D : DD} (h : okD D) (x y : Int32) : op_Q yX9_calm iX9_calm yX10_calm iX10_calm [.int x, .int y] D := by
  rcases rng x 0 60 (by decide) with ⟨n, -, hn, rfl⟩ | hx
  · rcases rng y 0 100 (by decide) with ⟨q, -, hq2, rfl⟩ | hy
    · refine op_Q.ask (Int64.toInt32 (itr (fun _ o => o * (Int32.toInt64 (100 - nI q)) / 100) n 1000000000)) h (fun E σ Q hc hq => eX9_calm _ _ ?_) (fun E σ Q hm hq => eX10_calm _ _ ?_)
      · rw [if_neg (nI_pos (by omega)), if_neg (nlt_lit 60 hn (by decide)), if_neg (nI_pos (by omega)), if_pos (nI_leL 100 hq2 (by decide))]
        refine wl_fold (fun i z => Wi E TC iX9_calm 8 Q 30 [(1, .int (nI n)), (2, .int (nI q)), (3, .long z), (5, .int i)] [] σ) (fun _ o => o * (Int32.toInt64 (100 - nI q)) / 100) n 1000000000 ?_ ?_
        · refine bX9_calm_30 _ _ _ _ ?_
          rw [if_pos (nI_le (Nat.le_refl n) (by omega))]
          exact hq
        · intro j hj ih
          refine bX9_calm_30 _ _ _ _ ?_
          rw [if_neg (nI_ge hj (by omega))]
          exact ih
      · refine sm_inL_t 0 60 (by omega) hn (by decide) ?_
        rw [if_neg (by decide)]
        refine sm_inL_t 0 100 (by omega) hq2 (by decide) ?_
        rw [if_neg (by decide)]
        refine wl_fold (fun i z => Wi E TM iX10_calm 8 Q 34 [(1, .int (nI n)), (2, .int (nI q)), (3, .long z), (5, .int i)] [] σ) (fun _ o => o * (Int32.toInt64 (100 - nI q)) / 100) n 1000000000 ?_ ?_
        · refine bX10_calm_34 _ _ _ _ ?_
          rw [if_pos (nI_le (Nat.le_refl n) (by omega))]
          exact hq
        · intro j hj ih
          refine bX10_calm_34 _ _ _ _ ?_
          rw [if_neg (nI_ge hj (by omega))]
          exact ih
    · refine op_Q.ask (-1000000002) h (fun E σ Q hc hq => eX9_calm _ _ ?_) (fun E σ Q hm hq => eX10_calm _ _ ?_)
      · rw [if_neg (nI_pos (by omega)), if_neg (nlt_lit 60 hn (by decide))]
        by_cases h0 : y < 0
        · rw [if_pos h0]; exact hq
        · rw [if_neg h0, if_neg]
          · exact hq
          · intro q
            rw [fa_lt] at h0
            rw [fa_le, lit_t 100 (by decide)] at q
            have e : (0 : Int32).toInt = 0 := by decide
            omega
      · refine sm_inL_t 0 60 (by omega) hn (by decide) ?_
        rw [if_neg (by decide)]
        refine sm_inL_f 0 100 hy (by decide) (by decide) ?_
        rw [if_pos rfl]
        exact hq
  · refine op_Q.ask (-1000000002) h (fun E σ Q hc hq => eX9_calm _ _ ?_) (fun E σ Q hm hq => eX10_calm _ _ ?_)
    · by_cases h0 : x < 0
      · rw [if_pos h0]; exact hq
      · rw [if_neg h0, if_pos]
        · exact hq
        · rw [fa_lt] at h0
          rw [fa_lt, lit_t 60 (by decide)]
          have e : (0 : Int32).toInt = 0 := by decide
          omega
    · refine sm_inL_f 0 60 hx (by decide) (by decide) ?_
      rw [if_pos rfl]
      exact hq
theorem jany_congr {J J' : Nat → Int32} {s : Int32} {n : Nat} (h : ∀ r, r < n → J r = J' r) : jany J s n = jany J' s n := itr_congr n (fun k hk x => by rw [h k hk])
theorem op_covered {D : DD} (h : okD D) (x y : Int32) : op_Q yX9_covered iX9_covered yX10_covered iX10_covered [.int x, .int y] D := by
  have h8 := h.1.1.1
  rcases vrng x (pn (dP D)) (by omega) with ⟨r, hr, rfl⟩ | hx
  · rcases rng y 0 20 (by decide) with ⟨n, -, hn, rfl⟩ | hy
    · refine op_Q.ask (itr (fun _ s => jany (pJ (dP D)) s 8) n ((1 : Int32) <<< (nI r &&& 31))) h (fun E σ Q hc hq => eX9_covered _ _ ?_) (fun E σ Q hm hq => eX10_covered _ _ ?_)
      · refine sc_hasRoom_t hc.1.1.1 h8 hr ?_
        rw [if_neg (by decide)]
        refine sc_fore_t 0 (by omega) hn ?_
        rw [if_neg (by decide)]
        refine wl_fold (fun i z => Wi E TC iX9_covered 8 Q 32 [(0, .ref 0), (2, .int (nI n)), (3, .int z), (4, .int i)] [] σ) (fun _ s => jany (pJ (dP D)) s 8) n _ ?_ ?_
        · refine bX9_covered_32 _ _ _ ?_
          rw [if_pos (nI_le (Nat.le_refl n) (by omega))]
          exact hq
        · intro j hj ih
          refine bX9_covered_32 _ _ _ ?_
          rw [if_neg (nI_ge hj (by omega))]
          refine sc_joinedToAny _ ?_
          rw [jany_congr (J' := pJ (dP D)) (fun r hr => hc.1.2.1 r hr)]
          exact ih
      · refine sm_isRoom_t hm.1.1.1 h8 hr ?_
        rw [if_neg (by decide)]
        refine sm_inL_t 0 20 (by omega) hn (by decide) ?_
        rw [if_neg (by decide)]
        refine wl_fold (fun i z => Wi E TM iX10_covered 8 Q 33 [(0, .ref 0), (2, .int (nI n)), (3, .int z), (4, .int i)] [] σ) (fun _ s => jany (pJ (dP D)) s 8) n _ ?_ ?_
        · refine bX10_covered_33 _ _ _ ?_
          rw [if_pos (nI_le (Nat.le_refl n) (by omega))]
          exact hq
        · intro j hj ih
          refine bX10_covered_33 _ _ _ ?_
          rw [if_neg (nI_ge hj (by omega))]
          generalize itr (fun _ s => jany (pJ (dP D)) s 8) j ((1 : Int32) <<< (nI r &&& 31)) = z at ih ⊢
          refine wl_fold (fun i w => Wi E TM iX10_covered 8 Q 45 [(0, .ref 0), (2, .int (nI n)), (3, .int z), (4, .int (nI j)), (5, .int w), (6, .int i)] [] σ) (fun e a => if bt z e = true then a ||| pJ (dP D) e else a) (pn (dP D)) 0 ?_ ?_
          · refine bX10_covered_45 _ _ _ _ _ ?_
            rw [hm.1.1.1, if_pos (nI_le (Nat.le_refl _) (by omega))]
            rw [jany_cut h8 (fun r a b => J_out h.1 a b)] at ih
            exact ih
          · intro e he ih2
            refine bX10_covered_45 _ _ _ _ _ ?_
            rw [hm.1.1.1, if_neg (nI_ge he (by omega))]
            refine sm_hasC (by omega) (fun hb => ?_) (fun hb => ?_)
            · rw [if_neg (by decide), vcl (by omega), hm.1.2.1 e (by omega)]
              rw [if_pos hb] at ih2
              exact ⟨vin (by omega) (by decide), ih2⟩
            · rw [if_pos rfl, or_0]
              rw [if_neg (by rw [hb]; decide)] at ih2
              exact ih2
    · refine op_Q.ask (-1000000002) h (fun E σ Q hc hq => eX9_covered _ _ ?_) (fun E σ Q hm hq => eX10_covered _ _ ?_)
      · refine sc_hasRoom_t hc.1.1.1 h8 hr ?_
        rw [if_neg (by decide)]
        refine sc_fore_f 0 hy (by decide) ?_
        rw [if_pos rfl]
        exact hq
      · refine sm_isRoom_t hm.1.1.1 h8 hr ?_
        rw [if_neg (by decide)]
        refine sm_inL_f 0 20 hy (by decide) (by decide) ?_
        rw [if_pos rfl]
        exact hq
  · refine op_Q.ask (-1000000001) h (fun E σ Q hc hq => eX9_covered _ _ ?_) (fun E σ Q hm hq => eX10_covered _ _ ?_)
    · refine sc_hasRoom_f hc.1.1.1 h8 hx ?_
      rw [if_pos rfl]
      exact hq
    · refine sm_isRoom_f hm.1.1.1 h8 hx ?_
      rw [if_pos rfl]
      exact hq
theorem dst_congr {J J' : Nat → Int32} (b : Nat) (h : ∀ r, r < 8 → J r = J' r) : ∀ (f s : Nat) (r : Int32), dst J b f s r = dst J' b f s r
  | 0, s, r => rfl
  | f + 1, s, r => by
    unfold dst
    rw [jany_congr h, dst_congr b h f]
theorem nxt_congr {J J' : Nat → Int32} (a b k : Nat) (ha : a < 8) (h : ∀ r, r < 8 → J r = J' r) : ∀ (f r : Nat), nxt J a b k f r = nxt J' a b k f r
  | 0, r => rfl
  | f + 1, r => by
    unfold nxt
    rw [h a ha, dst_congr b h, nxt_congr a b k ha h f]
/-- the distance of two rooms -/
def dist (P : PD) (a b : Nat) : Option Nat := dst (pJ P) b 8 0 ((1 : Int32) <<< (nI a &&& 31))
def nxtR (P : PD) (a b : Nat) : Int32 := match dist P a b with
  | some (k + 1) => oI (nxt (pJ P) a b k (pn P) 0) (-1)
  | _ => -1
section WAY
variable {E : tp_E} {d : Nat} {σ : tp_M} {Q : Int32 → tp_M → Prop} {P : PD}
theorem sC_dist (hc : cP σ 1 P) {a b : Nat} (hb : b < 32) (h : Q (oI (dist P a b) (-1)) σ) : Ci E TC yX5_distance iX5_distance (d + 1 + 1) [.ref 1, .int (nI a), .int (nI b)] σ Q := by
  refine sc_distance hb ?_
  rw [dst_congr b (J' := pJ P) (fun r hr => hc.2.1 r hr)]
  exact h
theorem sM_dist (hP : okP P) (hm : mP σ P) {a b : Nat} (hb : b < 32) (h : Q (oI (dist P a b) 1000000) σ) : Ci E TM yX10_wayOf iX10_wayOf (d + 1) [.ref 0, .int (nI a), .int (nI b)] σ Q := by
  refine sm_wayOf hm.1.1 hP.1.1 (fun r a b => by rw [hm.2.1 r b]; exact J_out hP a b) hb ?_
  rw [dst_congr b (J' := pJ P) (fun r hr => hm.2.1 r hr)]
  exact h
theorem dist_lt {P : PD} {a b k : Nat} (h : dist P a b = some k) : k < 8 := by have := dst_lt _ _ _ _ _ _ h; omega
theorem sM_nextOf (hP : okP P) (hm : mP σ P) {a b k : Nat} (ha : a < pn P) (hb : b < pn P) (hd : dist P a b = some k) (h : Q (nxtR P a b) σ) : Ci E TM yX10_nextOf iX10_nextOf (d + 1 + 1) [.ref 0, .int (nI a), .int (nI b)] σ Q := by
  have h8 := hP.1.1
  have hk := dist_lt hd
  refine eX10_nextOf _ _ (sM_dist hP hm (by omega) ?_)
  rw [hd]
  unfold nxtR at h
  rw [hd] at h
  cases k with
  | zero =>
    refine bX10_nextOf_10 _ _ _ _ ?_
    have h : Q (-1) σ := h
    by_cases h0 : σ 0 3 ≤ 0
    · rw [if_pos h0]; exact h
    · rw [if_neg h0, if_pos (by decide)]; exact h
  | succ k =>
    have h : Q (oI (nxt (pJ P) a b k (pn P) 0) (-1)) σ := h
    have key : ∀ f r, r + f = pn P → Q (oI (nxt (pJ P) a b k f r) (-1)) σ → Wi E TM iX10_nextOf (d + 1 + 1) Q 10 [(0, .ref 0), (1, .int (nI a)), (2, .int (nI b)), (3, .int (nI (k + 1))), (4, .int (nI r))] [] σ := by
      intro f
      induction f with
      | zero =>
        intro r hr hq
        refine bX10_nextOf_10 _ _ _ _ ?_
        rw [hm.1.1, if_pos (nI_le (by omega) (by omega))]
        exact hq
      | succ f ih =>
        intro r hr hq
        refine bX10_nextOf_10 _ _ _ _ ?_
        rw [hm.1.1, if_neg (nI_ge (by omega) (by omega)), if_neg (nI_nleL 0 (by omega) (by omega)), vcl (by omega), hm.2.1 a (by omega)]
        refine ⟨vin (by omega) (by decide), ?_⟩
        unfold nxt at hq
        refine sm_hasC (by omega) (fun h1 => ?_) (fun h1 => ?_)
        · rw [if_neg (by decide)]
          refine sM_dist hP hm (by omega) ?_
          rw [nI_pred, nI_1]
          by_cases h2 : dist P r b = some k
          · rw [if_pos ⟨h1, h2⟩] at hq
            rw [h2, if_pos (show oI (some k) 1000000 = nI k from rfl)]
            exact hq
          · rw [if_neg (fun q => h2 q.2)] at hq
            rw [if_neg]
            · exact ih (r + 1) (by omega) hq
            · intro he
              cases hd2 : dist P r b with
              | none =>
                rw [hd2] at he
                have he2 : nI 1000000 = nI k := he
                rw [nI_eq (by omega) (by omega)] at he2
                omega
              | some z =>
                rw [hd2] at he
                have hz := dist_lt hd2
                have he2 : nI z = nI k := he
                rw [nI_eq (by omega) (by omega)] at he2
                exact h2 (by rw [hd2, he2])
        · rw [if_pos rfl, nI_1]
          rw [if_neg (fun q => by rw [h1] at q; cases q.1)] at hq
          exact ih (r + 1) (by omega) hq
    exact key (pn P) 0 (by omega) h
end WAY
theorem op_way {D : DD} (h : okD D) (x y z : Int32) : op_Q yX9_way iX9_way yX10_way iX10_way [.int x, .int y, .int z] D := by
  have h8 := h.1.1.1
  rcases vrng x (pn (dP D)) (by omega) with ⟨a, ha, rfl⟩ | hx
  · rcases vrng y (pn (dP D)) (by omega) with ⟨b, hb, rfl⟩ | hy
    · have hc0 : ∀ {E : tp_E} {d : Nat} {σ : tp_M} {Q : Int32 → tp_M → Prop}, cR σ D → ∀ j, j < pn (dP D) → Q 1 σ → Ci E TC yX5_hasRoom iX5_hasRoom d [.ref 1, .int (nI j)] σ Q := fun hc j hj hq => sc_hasRoom_t hc.1.1.1 h8 hj hq
      have hm0 : ∀ {E : tp_E} {d : Nat} {σ : tp_M} {Q : Int32 → tp_M → Prop}, mR σ D → ∀ j, j < pn (dP D) → Q 1 σ → Ci E TM yX10_isRoom iX10_isRoom (d + 1) [.ref 0, .int (nI j)] σ Q := fun hm j hj hq => sm_isRoom_t hm.1.1.1 h8 hj hq
      by_cases h0 : z = 0
      · subst h0
        refine op_Q.ask (oI (dist (dP D) a b) (-1)) h (fun E σ Q hc hq => eX9_way _ _ _ (hc0 hc a ha ?_)) (fun E σ Q hm hq => eX10_way _ _ _ (hm0 hm a ha ?_))
        · rw [if_neg (by decide)]
          refine hc0 hc b hb ?_
          rw [if_neg (by decide), if_pos rfl]
          exact sC_dist hc.1 (by omega) hq
        · rw [if_neg (by decide)]
          refine hm0 hm b hb ?_
          rw [if_neg (by decide)]
          refine sm_inL_t (j := 0) 0 1 (by omega) (by omega) (by decide) ?_
          rw [if_neg (by decide)]
          refine sM_dist h.1 hm.1 (by omega) ?_
          cases hd : dist (dP D) a b with
          | none =>
            rw [hd] at hq
            rw [if_pos (show oI none 1000000 = 1000000 from rfl)]
            exact hq
          | some k =>
            rw [hd] at hq
            have hk := dist_lt hd
            rw [if_neg (show ¬ oI (some k) 1000000 = 1000000 from fun q => by have q2 : nI k = nI 1000000 := q; rw [nI_eq (by omega) (by omega)] at q2; omega), if_pos rfl]
            refine sM_dist h.1 hm.1 (by omega) ?_
            rw [hd]
            exact hq
      · by_cases h1 : z = 1
        · subst h1
          refine op_Q.ask (nxtR (dP D) a b) h (fun E σ Q hc hq => eX9_way _ _ _ (hc0 hc a ha ?_)) (fun E σ Q hm hq => eX10_way _ _ _ (hm0 hm a ha ?_))
          · rw [if_neg (by decide)]
            refine hc0 hc b hb ?_
            rw [if_neg (by decide), if_neg h0, if_pos rfl]
            refine sc_nextTowards hc.1.1.1 h8 ha hb ?_
            rw [dst_congr b (J' := pJ (dP D)) (fun r hr => hc.1.2.1 r hr)]
            unfold nxtR at hq
            show Q (match dist (dP D) a b with | some (k + 1) => oI (nxt (σ 2) a b k (pn (dP D)) 0) (-1) | _ => -1) σ
            cases hd : dist (dP D) a b with
            | none => rw [hd] at hq; exact hq
            | some k =>
              rw [hd] at hq
              cases k with
              | zero => exact hq
              | succ k =>
                show Q (oI (nxt (σ 2) a b k (pn (dP D)) 0) (-1)) σ
                rw [nxt_congr a b k (by omega) (J' := pJ (dP D)) (fun r hr => hc.1.2.1 r hr)]
                exact hq
          · rw [if_neg (by decide)]
            refine hm0 hm b hb ?_
            rw [if_neg (by decide)]
            refine sm_inL_t (j := 1) 0 1 (by omega) (by omega) (by decide) ?_
            rw [if_neg (by decide)]
            refine sM_dist h.1 hm.1 (by omega) ?_
            cases hd : dist (dP D) a b with
            | none =>
              unfold nxtR at hq
              rw [hd] at hq
              rw [if_pos (show oI none 1000000 = 1000000 from rfl)]
              exact hq
            | some k =>
              have hk := dist_lt hd
              rw [if_neg (show ¬ oI (some k) 1000000 = 1000000 from fun q => by have q2 : nI k = nI 1000000 := q; rw [nI_eq (by omega) (by omega)] at q2; omega), if_neg h0]
              exact sM_nextOf h.1 hm.1 ha hb hd hq
        · have hz : ¬ (((0 : Nat) : Int) ≤ z.toInt ∧ z.toInt ≤ (1 : Nat)) := fun q => by
            rcases (show z.toInt = 0 ∨ z.toInt = 1 by omega) with e | e
            · exact h0 ((fa_eq _ _).mpr (e.trans (by decide)))
            · exact h1 ((fa_eq _ _).mpr (e.trans (by decide)))
          refine op_Q.ask (-1000000002) h (fun E σ Q hc hq => eX9_way _ _ _ (hc0 hc a ha ?_)) (fun E σ Q hm hq => eX10_way _ _ _ (hm0 hm a ha ?_))
          · rw [if_neg (by decide)]
            refine hc0 hc b hb ?_
            rw [if_neg (by decide), if_neg h0, if_neg h1]
            exact hq
          · rw [if_neg (by decide)]
            refine hm0 hm b hb ?_
            rw [if_neg (by decide)]
            refine sm_inL_f 0 1 hz (by decide) (by decide) ?_
            rw [if_pos rfl]
            exact hq
    · refine op_Q.ask (-1000000001) h (fun E σ Q hc hq => eX9_way _ _ _ ?_) (fun E σ Q hm hq => eX10_way _ _ _ ?_)
      · refine sc_hasRoom_t hc.1.1.1 h8 ha ?_
        rw [if_neg (by decide)]
        refine sc_hasRoom_f hc.1.1.1 h8 hy ?_
        rw [if_pos rfl]
        exact hq
      · refine sm_isRoom_t hm.1.1.1 h8 ha ?_
        rw [if_neg (by decide)]
        refine sm_isRoom_f hm.1.1.1 h8 hy ?_
        rw [if_pos rfl]
        exact hq
  · refine op_Q.ask (-1000000001) h (fun E σ Q hc hq => eX9_way _ _ _ ?_) (fun E σ Q hm hq => eX10_way _ _ _ ?_)
    · refine sc_hasRoom_f hc.1.1.1 h8 hx ?_
      rw [if_pos rfl]
      exact hq
    · refine sm_isRoom_f hm.1.1.1 h8 hx ?_
      rw [if_pos rfl]
      exact hq

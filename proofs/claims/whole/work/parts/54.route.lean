/-! ===== a route as it is called ===== -/
/-- the e-th figure from the end is a room's -/
def okd (P : PD) (r e : Nat) : Prop := 1 ≤ r / 10 ^ e % 10 ∧ r / 10 ^ e % 10 ≤ pn P
/-- the last e figures of r, turned round -/
def trn (r : Nat) : Nat → Nat
  | 0 => 0
  | e + 1 => trn r e * 10 + r / 10 ^ e % 10
theorem p10s (r e : Nat) : r / 10 ^ e / 10 = r / 10 ^ (e + 1) := by rw [Nat.div_div_eq_div_mul, ← Nat.pow_succ]
theorem trn_div (r : Nat) : ∀ i e, i ≤ e → trn r e / 10 ^ i = trn r (e - i)
  | 0, e, h => by rw [Nat.pow_zero, Nat.div_one, Nat.sub_zero]
  | i + 1, e, h => by
    rw [← p10s, trn_div r i e (by omega), show e - i = (e - (i + 1)) + 1 by omega]
    show (trn r (e - (i + 1)) * 10 + r / 10 ^ (e - (i + 1)) % 10) / 10 = _
    omega
theorem trn_lt (r : Nat) : ∀ e, trn r e < 10 ^ e
  | 0 => by show 0 < 1; omega
  | e + 1 => by
    have := trn_lt r e
    show trn r e * 10 + r / 10 ^ e % 10 < 10 ^ (e + 1)
    rw [Nat.pow_succ]
    omega
theorem trn_mod (r e : Nat) : trn r (e + 1) % 10 = r / 10 ^ e % 10 := by
  show (trn r e * 10 + r / 10 ^ e % 10) % 10 = _
  omega
theorem trn_9 {r e : Nat} (h : e ≤ 9) : trn r e < 1000000000 := Nat.lt_of_lt_of_le (trn_lt r e) (Nat.pow_le_pow_right (by omega) h)
section TRN
variable {P : PD} {r : Nat}
theorem trn_nd (hd : ∀ e, e < nd r → okd P r e) : nd (trn r (nd r)) = nd r := by
  have hl := nd_le r
  have a := fun e => nd_spec (r := trn r (nd r)) (trn_9 hl) e
  have b : ∀ e, nd (trn r (nd r)) ≤ e ↔ nd r ≤ e := fun e => by
    rw [← a e]
    by_cases he : e ≤ nd r
    · rw [trn_div r e _ he]
      constructor
      · intro z
        by_cases q : nd r ≤ e
        · exact q
        · exfalso
          have w := (hd (nd r - e - 1) (by omega)).1
          have v := trn_mod r (nd r - e - 1)
          rw [show nd r - e - 1 + 1 = nd r - e by omega, z] at v
          omega
      · intro z
        rw [show nd r - e = 0 by omega]; rfl
    · refine ⟨fun _ => by omega, fun _ => Nat.div_eq_of_lt ?_⟩
      exact Nat.lt_of_lt_of_le (trn_lt r (nd r)) (Nat.pow_le_pow_right (by omega) (by omega))
  have c1 := (b (nd r)).mpr (Nat.le_refl _)
  have c2 := (b (nd (trn r (nd r)))).mp (Nat.le_refl _)
  omega
theorem trn_fig (e : Nat) (he : e < nd r) : trn r (nd r) / 10 ^ e % 10 = r / 10 ^ (nd r - 1 - e) % 10 := by
  rw [trn_div r e _ (by omega), show nd r - e = (nd r - 1 - e) + 1 by omega, trn_mod]
theorem trn_okd (hd : ∀ e, e < nd r → okd P r e) (e : Nat) (he : e < nd r) : okd P (trn r (nd r)) e := by
  unfold okd
  rw [trn_fig e he]
  exact hd _ (by omega)
end TRN
theorem figroom {d n : Nat} (hd : d < 10) (h : 1 ≤ d ∧ d ≤ n) : nI d - 1 = nI (d - 1) ∧ d - 1 < n := ⟨nI_sub1 h.1, by omega⟩
theorem fignot {d n : Nat} (hd : d < 10) (hn : n ≤ 8) (h : ¬ (1 ≤ d ∧ d ≤ n)) : ¬ vp_in (nI d - 1) n := by
  intro q
  obtain ⟨j, hj, e⟩ := vp_in_of q (by omega)
  have e2 := (fa_eq _ _).mp e
  rw [sub1_toInt (by omega), nI_toInt (by omega)] at e2
  omega
section RTE
variable {E : tp_E} {d : Nat} {σ : tp_M} {Q : Int32 → tp_M → Prop} {P : PD} {A : AS}
theorem sC_allRooms (hP : okP P) (hc : cP σ 1 P) {r : Nat} (hr : r < 1000000000) (h1 : (∀ e, e < nd r → okd P r e) → Q 1 σ) (h0 : ¬ (∀ e, e < nd r → okd P r e) → Q 0 σ) : Ci E TC yX5_hasAllRooms iX5_hasAllRooms (d + 1) [.ref 1, .int (nI r)] σ Q := by
  have hn8 := hP.1.1
  have hl := nd_le r
  refine eX5_hasAllRooms _ ?_
  have key : ∀ m j, j + m = 9 → ((∀ e, j ≤ e → e < nd r → okd P r e) → Q 1 σ) → (¬ (∀ e, j ≤ e → e < nd r → okd P r e) → Q 0 σ) → Wi E TC iX5_hasAllRooms (d + 1) Q 4 [(0, .ref 1), (2, .int (nI (r / 10 ^ j))), (3, .int (nI j))] [] σ := by
    intro m
    induction m with
    | zero =>
      intro j hj k1 k0
      refine bX5_hasAllRooms_4 _ _ ?_
      rw [if_pos (le_litp 9 (by omega) (by omega))]
      exact k1 (fun e a b => by omega)
    | succ m ih =>
      intro j hj k1 k0
      have hlt : r / 10 ^ j < 1000000000 := Nat.lt_of_le_of_lt (Nat.div_le_self _ _) hr
      refine bX5_hasAllRooms_4 _ _ ?_
      rw [if_neg (nle_lit 9 (by omega) (by decide))]
      by_cases hz : r / 10 ^ j = 0
      · rw [if_pos (nI_leL 0 (by omega) (by decide))]
        have := (nd_spec hr j).mp hz
        exact k1 (fun e a b => by omega)
      · have hj2 : j < nd r := by have := (nd_spec hr j); omega
        rw [if_neg (nI_nleL 0 (Nat.pos_of_ne_zero hz) (by omega)), rem10 (by omega), div10 (by omega), p10s, nI_1]
        by_cases ho : okd P r j
        · obtain ⟨e1, e2⟩ := figroom (Nat.mod_lt _ (by omega)) ho
          rw [e1]
          refine sc_hasRoom_t hc.1.1 hn8 e2 ?_
          rw [if_neg (by decide)]
          refine ih (j + 1) (by omega) (fun z => k1 (fun e a b => ?_)) (fun z => k0 (fun w => z (fun e a b => w e (by omega) b)))
          by_cases q : e = j
          · subst q; exact ho
          · exact z e (by omega) b
        · refine sc_hasRoom_f hc.1.1 hn8 (fignot (Nat.mod_lt _ (by omega)) hn8 ho) ?_
          rw [if_pos rfl]
          exact k0 (fun w => ho (w j (Nat.le_refl _) hj2))
  have := key 9 0 rfl (fun z => h1 (fun e he => z e (by omega) he)) (fun z => h0 (fun w => z (fun e _ he => w e he)))
  rw [Nat.pow_zero, Nat.div_one] at this
  exact this
theorem sC_turned {r : Nat} (hr : r < 1000000000) (h : Q (nI (trn r (nd r))) σ) : Ci E TC yX9_turnedRound iX9_turnedRound d [.int (nI r)] σ Q := by
  have hl := nd_le r
  refine eX9_turnedRound _ ?_
  have key : ∀ m j, j + m = nd r → Wi E TC iX9_turnedRound d Q 6 [(1, .int (nI (trn r j))), (2, .int (nI (r / 10 ^ j))), (3, .int (nI j))] [] σ := by
    intro m
    induction m with
    | zero =>
      intro j hj
      refine bX9_turnedRound_6 _ _ _ ?_
      rw [Nat.add_zero] at hj
      subst hj
      by_cases h9 : 9 ≤ nI (nd r)
      · rw [if_pos h9]; exact h
      · have := (nd_spec hr (nd r)).mpr (Nat.le_refl _)
        rw [if_neg h9, if_pos (nI_leL 0 (by omega) (by decide))]; exact h
    | succ m ih =>
      intro j hj
      have hlt : r / 10 ^ j < 1000000000 := Nat.lt_of_le_of_lt (Nat.div_le_self _ _) hr
      have hz : r / 10 ^ j ≠ 0 := fun q => by have := (nd_spec hr j).mp q; omega
      refine bX9_turnedRound_6 _ _ _ ?_
      rw [if_neg (nle_lit 9 (by omega) (by decide)), if_neg (nI_nleL 0 (Nat.pos_of_ne_zero hz) (by omega)), rem10 (by omega), div10 (by omega), p10s, nI_1, show nI (trn r j) * 10 = nI (trn r j * 10) from by rw [show (10 : Int32) = nI 10 from rfl, pk_mul], nI_add]
      exact ih (j + 1) (by omega)
  have := key (nd r) 0 (by omega)
  rw [Nat.pow_zero, Nat.div_one] at this
  exact this
/-- can it be gone -/
def gn (P : PD) : Nat → Nat → Nat → Bool
  | 0, _, _ => true
  | f + 1, c, r => if r = 0 then true else if bt (pJ P c) (r % 10 - 1) = true then gn P f (r % 10 - 1) (r / 10) else false
theorem gn_chn : ∀ (f c r : Nat), r < 10 ^ f → (∀ e, r / 10 ^ e ≠ 0 → okd P r e) → gn P f c r = true → chn P f c r
  | 0, c, r, h, hd, hg => by show r = 0; simpa using h
  | f + 1, c, r, h, hd, hg => by
    by_cases h0 : r = 0
    · exact Or.inl h0
    · unfold gn at hg
      rw [if_neg h0] at hg
      by_cases hb : bt (pJ P c) (r % 10 - 1) = true
      · rw [if_pos hb] at hg
        have h00 := hd 0 (by rw [Nat.pow_zero, Nat.div_one]; exact h0)
        unfold okd at h00
        rw [Nat.pow_zero, Nat.div_one] at h00
        refine Or.inr ⟨h00.1, h00.2, hb, gn_chn f _ _ (by rw [Nat.pow_succ] at h; omega) (fun e he => ?_) hg⟩
        have := hd (e + 1) (by rw [Nat.pow_succ, Nat.mul_comm, ← Nat.div_div_eq_div_mul]; exact he)
        unfold okd at this ⊢
        rw [Nat.pow_succ, Nat.mul_comm, ← Nat.div_div_eq_div_mul] at this
        exact this
      · rw [if_neg hb] at hg
        cases hg
theorem sC_gone (hP : okP P) (hc : cP σ 1 P) {c r : Nat} (hcn : c < pn P) (hr : r < 1000000000) (hd : ∀ e, e < nd r → okd P r e) (h : Q (bI (gn P 9 c r)) σ) : Ci E TC yX5_canBeGone iX5_canBeGone (d + 1 + 1) [.ref 1, .int (nI c), .int (nI r)] σ Q := by
  have hn8 := hP.1.1
  refine eX5_canBeGone _ _ ?_
  have key : ∀ f c j, j + f = 9 → c < pn P → Q (bI (gn P f c (r / 10 ^ j))) σ → Wi E TC iX5_canBeGone (d + 1 + 1) Q 8 [(0, .ref 1), (3, .int (nI c)), (4, .int (nI (r / 10 ^ j))), (5, .int (nI j))] [] σ := by
    intro f
    induction f with
    | zero =>
      intro c j hj hcn hq
      refine bX5_canBeGone_8 _ _ _ ?_
      rw [if_pos (le_litp 9 (by omega) (by omega))]
      exact hq
    | succ f ih =>
      intro c j hj hcn hq
      have hlt : r / 10 ^ j < 1000000000 := Nat.lt_of_le_of_lt (Nat.div_le_self _ _) hr
      refine bX5_canBeGone_8 _ _ _ ?_
      rw [if_neg (nle_lit 9 (by omega) (by decide))]
      unfold gn at hq
      by_cases hz : r / 10 ^ j = 0
      · rw [if_pos hz] at hq
        rw [if_pos (nI_leL 0 (by omega) (by decide))]
        exact hq
      · rw [if_neg hz] at hq
        have hj2 : j < nd r := by have := (nd_spec hr j); omega
        obtain ⟨e1, e2⟩ := figroom (Nat.mod_lt _ (by omega)) (hd j hj2)
        rw [if_neg (nI_nleL 0 (Nat.pos_of_ne_zero hz) (by omega)), rem10 (by omega), div10 (by omega), p10s, nI_1, e1]
        rw [p10s] at hq
        refine sc_joinedTo hc.1.1 hn8 hcn ?_
        rw [show σ 2 c = pJ P c from hc.2.1 c (by omega)]
        refine sc_hasC (by omega) (fun hb => ?_) (fun hb => ?_)
        · rw [if_pos hb] at hq
          rw [if_neg (by decide)]
          exact ih _ (j + 1) (by omega) e2 hq
        · rw [if_neg (by rw [hb]; decide)] at hq
          rw [if_pos rfl]
          exact hq
  have := key 9 c 0 rfl hcn (by rw [Nat.pow_zero, Nat.div_one]; exact h)
  rw [Nat.pow_zero, Nat.div_one] at this
  exact this
end RTE
/-! ===== the route anew ===== -/
def aSetRt (A : AS) (k r : Nat) : AS := (A.1, A.2.1, A.2.2.1, (fun j => if j = k then r else aRt A j), A.2.2.2.2)
theorem cS.setRt {σ : tp_M} {P : PD} {A : AS} {t r : Nat} (h : cS σ 9 P A) : cS (tp_u σ 11 t (nI r)) 9 P (aSetRt A t r) := by
  obtain ⟨h1, h2, h3, h4, h5⟩ := h
  refine ⟨by rw [uu3 _ _ _ (by omega)]; exact h1, fun k hk => by rw [uu3 _ _ _ (by omega)]; exact h2 k hk, fun s hs => ?_, fun k hk => by rw [uu3 _ _ _ (by omega)]; exact h4 k hk, fun k hk => by rw [uu3 _ _ _ (by omega)]; exact h5 k hk⟩
  show tp_u σ 11 t (nI r) 11 s = nI (if s = t then r else aRt A s)
  by_cases hst : s = t
  · rw [if_pos hst, hst, uu1]
  · rw [if_neg hst, uu2 _ _ _ hst]; exact h3 s hs
theorem mS.setRt {σ σ' : tp_M} {P : PD} {A : AS} {t r : Nat} (hw : pw P ≤ 4) (hp : pt P ≤ 8) (ht : t < pw P) (h : mS σ 0 P A) (h1 : σ' 1 (6 + t) = nI (nd r)) (h2 : ∀ e, e < nd r → σ' 1 (10 + 9 * t + e) = nI (dg r e)) (fr : ∀ i, i ≠ 6 + t → (i < 10 + 9 * t ∨ 10 + 9 * t + 9 ≤ i) → σ' 1 i = σ 1 i) : mS σ' 0 P (aSetRt A t r) := by
  obtain ⟨g1, g2, g3, g4, g5⟩ := h
  refine ⟨⟨by rw [fr _ (by omega) (by omega)]; exact g1.1, by rw [fr _ (by omega) (by omega)]; exact g1.2⟩, fun k hk => by rw [fr _ (by omega) (by omega)]; exact g2 k hk, fun k hk => ?_, fun k hk => by rw [fr _ (by omega) (by omega)]; exact g4 k hk, fun k hk => by rw [fr _ (by omega) (by omega)]; exact g5 k hk⟩
  show σ' 1 (0 + 6 + k) = nI (nd (if k = t then r else aRt A k)) ∧ ∀ e, e < nd (if k = t then r else aRt A k) → σ' 1 (0 + 10 + 9 * k + e) = nI (dg (if k = t then r else aRt A k) e)
  by_cases hkt : k = t
  · rw [if_pos hkt, hkt, Nat.zero_add, Nat.zero_add]
    exact ⟨h1, h2⟩
  · rw [if_neg hkt]
    refine ⟨by rw [fr _ (by omega) (by omega)]; exact (g3 k hk).1, fun e he => ?_⟩
    have := nd_le (aRt A k)
    rw [fr _ (by omega) (by omega)]
    exact (g3 k hk).2 e he
theorem okA.setRt {P : PD} {A : AS} (h : okA P A) {k r : Nat} (hk : k < pw P) (hr : chn P 9 (aAt A k) r) : okA P (aSetRt A k r) := by
  obtain ⟨h1, h2, h3, h4⟩ := h
  refine ⟨h1, fun j hj => ⟨(h2 j hj).1, ?_⟩, fun j hj => ?_, h4⟩
  · show chn P 9 (aAt A j) (if j = k then r else aRt A j)
    by_cases q : j = k
    · rw [if_pos q, q]; exact hr
    · rw [if_neg q]; exact (h2 j hj).2
  · show (if j = k then r else aRt A j) = 0
    rw [if_neg (by omega)]; exact h3 j hj
theorem op_route {D : DD} (h : okD D) (x y : Int32) : op_Q yX9_route iX9_route yX10_route iX10_route [.int x, .int y] D := by
  have h4 := h.1.1.2.2.2.1
  have h8 := h.1.1.2.2.2.2.1
  have hn8 := h.1.1.1
  rcases vrng x (pw (dP D)) (by omega) with ⟨k, hk, rfl⟩ | hx
  · have hc0 : ∀ {E : tp_E} {d : Nat} {σ : tp_M} {Q : Int32 → tp_M → Prop}, cR σ D → Q 1 σ → Ci E TC yX5_hasWaiter iX5_hasWaiter d [.ref 1, .int (nI k)] σ Q := fun hc hq => sc_hasWaiter_t hc.1.1.2.2.2.1 h4 hk hq
    have hm0 : ∀ {E : tp_E} {d : Nat} {σ : tp_M} {Q : Int32 → tp_M → Prop}, mR σ D → Q 1 σ → Ci E TM yX10_isWaiter iX10_isWaiter (d + 1) [.ref 0, .int (nI k)] σ Q := fun hm hq => sm_isWaiter_t hm.1.1.2.2.2.1 h4 hk hq
    rcases rng y 0 999999999 (by decide) with ⟨r, -, hr, rfl⟩ | hy
    · have hr9 : r < 1000000000 := by omega
      have hl := nd_le r
      have hat := (h.2.1.2.1 k hk).1
      -- the reference's loops
      have m31 : ∀ {E : tp_E} {d : Nat} {σ : tp_M} {Q : Int32 → tp_M → Prop}, Wi E TM iX10_route (d + 1) Q 57 [(0, .ref 0), (1, .int (nI k)), (3, .int (nI (nd r))), (4, .int (nI r)), (5, .int (nI (nd r) - 1))] [] σ → Wi E TM iX10_route (d + 1) Q 31 [(0, .ref 0), (1, .int (nI k)), (2, .int (nI r)), (3, .int 0), (4, .int (nI r))] [] σ := by
        intro E d σ Q hq
        have key : ∀ m j, j + m = nd r → Wi E TM iX10_route (d + 1) Q 31 [(0, .ref 0), (1, .int (nI k)), (2, .int (nI r)), (3, .int (nI j)), (4, .int (nI (r / 10 ^ j)))] [] σ := by
          intro m
          induction m with
          | zero =>
            intro j hj
            rw [Nat.add_zero] at hj
            subst hj
            refine bX10_route_31 _ _ _ _ ?_
            have := (nd_spec hr9 (nd r)).mpr (Nat.le_refl _)
            rw [if_pos (nI_leL 0 (by omega) (by decide))]
            exact hq
          | succ m ih =>
            intro j hj
            have hlt : r / 10 ^ j < 1000000000 := Nat.lt_of_le_of_lt (Nat.div_le_self _ _) hr9
            have hz : r / 10 ^ j ≠ 0 := fun q => by have := (nd_spec hr9 j).mp q; omega
            refine bX10_route_31 _ _ _ _ ?_
            rw [if_neg (nI_nleL 0 (Nat.pos_of_ne_zero hz) (by omega)), nI_1, div10 (by omega), p10s]
            exact ih (j + 1) (by omega)
        have := key (nd r) 0 (by omega)
        rw [Nat.pow_zero, Nat.div_one] at this
        exact this
      have m57 : ∀ {E : tp_E} {d : Nat} {σ : tp_M} {Q : Int32 → tp_M → Prop}, mR σ D → ((∀ e, e < nd r → okd (dP D) r e) → ∀ σ', (∀ q, q ≠ 16 → σ' q = σ q) → (∀ e, e < nd r → σ' 16 e = nI (dg (trn r (nd r)) e)) → Wi E TM iX10_route (d + 1 + 1) Q 119 [(0, .ref 0), (1, .int (nI k)), (3, .int (nI (nd r))), (5, .int (nI (aAt (dA D) k))), (6, .int 0)] [] σ') → (¬ (∀ e, e < nd r → okd (dP D) r e) → ∀ σ', (∀ q, q ≠ 16 → σ' q = σ q) → Q (-1000000002) σ') → Wi E TM iX10_route (d + 1 + 1) Q 57 [(0, .ref 0), (1, .int (nI k)), (3, .int (nI (nd r))), (4, .int (nI r)), (5, .int (nI (nd r) - 1))] [] σ := by
        intro E d σ Q hm k1 k0
        have key : ∀ m j σ', j + m = nd r → (∀ q, q ≠ 16 → σ' q = σ q) → (∀ e, e < j → okd (dP D) r e) → (∀ e, e < j → σ' 16 (nd r - 1 - e) = nI (r / 10 ^ e % 10 - 1)) → Wi E TM iX10_route (d + 1 + 1) Q 57 [(0, .ref 0), (1, .int (nI k)), (3, .int (nI (nd r))), (4, .int (nI (r / 10 ^ j))), (5, .int (nI m - 1))] [] σ' := by
          intro m
          induction m with
          | zero =>
            intro j σ' hj fr hd hv
            rw [Nat.add_zero] at hj
            subst hj
            refine bX10_route_57 _ _ _ _ ?_
            rw [if_pos (show nI 0 - 1 < 0 by decide), lit_add 2, vcl (by omega), fr 1 (by omega)]
            have e : σ 1 (2 + k) = nI (aAt (dA D) k) := by have := hm.2.1.2.1 k hk; rw [Nat.zero_add] at this; exact this
            rw [e]
            refine ⟨vin (by omega) (by decide), k1 hd σ' fr (fun e he => ?_)⟩
            have := hv (nd r - 1 - e) (by omega)
            rw [show nd r - 1 - (nd r - 1 - e) = e by omega] at this
            rw [this]
            unfold dg
            rw [trn_fig e he]
          | succ m ih =>
            intro j σ' hj fr hd hv
            have hlt : r / 10 ^ j < 1000000000 := Nat.lt_of_le_of_lt (Nat.div_le_self _ _) hr9
            refine bX10_route_57 _ _ _ _ ?_
            rw [nI_pred, if_neg (nI_pos (by omega)), rem10 (by omega), div10 (by omega), p10s, vcl (by omega), uu1]
            refine ⟨vin (by omega) (by decide), vin (by omega) (by decide), ?_⟩
            have e3 : tp_u σ' 16 m (nI (r / 10 ^ j % 10) - 1) 0 3 = nI (pn (dP D)) := by rw [uu3 _ _ _ (by omega), fr 0 (by omega)]; exact hm.1.1.1
            have fr2 : ∀ v q, q ≠ 16 → tp_u σ' 16 m v q = σ q := fun v q hq => by rw [uu3 _ _ _ hq, fr q hq]
            by_cases ho : okd (dP D) r j
            · obtain ⟨e1, e2⟩ := figroom (Nat.mod_lt _ (by omega)) ho
              rw [e1] at e3 ⊢
              refine sm_isRoom_t e3 hn8 e2 ?_
              rw [if_neg (by decide), show nI m + (-1) = nI m - 1 from by rw [Int32.sub_eq_add_neg]]
              refine ih (j + 1) _ (by omega) (fr2 _) (fun e he => ?_) (fun e he => ?_)
              · by_cases q : e = j
                · subst q; exact ho
                · exact hd e (by omega)
              · by_cases q : e = j
                · subst q
                  rw [show nd r - 1 - e = m by omega, uu1]
                · rw [uu2 _ _ _ (by omega)]
                  exact hv e (by omega)
            · refine sm_isRoom_f e3 hn8 (fignot (Nat.mod_lt _ (by omega)) hn8 ho) ?_
              rw [if_pos rfl]
              exact k0 (fun w => ho (w j (by omega))) _ (fr2 _)
        have := key (nd r) 0 σ (by omega) (fun q _ => rfl) (fun e he => absurd he (Nat.not_lt_zero e)) (fun e he => absurd he (Nat.not_lt_zero e))
        rw [Nat.pow_zero, Nat.div_one] at this
        exact this
      by_cases hd : ∀ e, e < nd r → okd (dP D) r e
      · have hR9 := trn_9 (r := r) hl
        have hRn := trn_nd hd
        have hRd := trn_okd hd
        generalize hR : trn r (nd r) = R at hR9 hRn hRd
        -- the reference's walk over it
        have m119 : ∀ {E : tp_E} {d : Nat} {σ : tp_M} {Q : Int32 → tp_M → Prop}, mR σ D → (∀ e, e < nd r → σ 16 e = nI (dg R e)) → (gn (dP D) 9 (aAt (dA D) k) R = true → Cv E TM yX10_minds iX10_minds (d + 1) [.ref 0] σ (fun σ2 => Wi E TM iX10_route (d + 1 + 1) Q 170 [(0, .ref 0), (1, .int (nI k)), (3, .int (nI (nd r))), (6, .int 0)] [] σ2)) → (gn (dP D) 9 (aAt (dA D) k) R = false → Q (-1000000003) σ) → Wi E TM iX10_route (d + 1 + 1) Q 119 [(0, .ref 0), (1, .int (nI k)), (3, .int (nI (nd r))), (5, .int (nI (aAt (dA D) k))), (6, .int 0)] [] σ := by
          intro E d σ Q hm hv k1 k0
          have key : ∀ f c j, j + f = 9 → j ≤ nd r → c < pn (dP D) → gn (dP D) f c (R / 10 ^ j) = gn (dP D) 9 (aAt (dA D) k) R → Wi E TM iX10_route (d + 1 + 1) Q 119 [(0, .ref 0), (1, .int (nI k)), (3, .int (nI (nd r))), (5, .int (nI c)), (6, .int (nI j))] [] σ := by
            intro f
            induction f with
            | zero =>
              intro c j hj hjl hcn hg
              refine bX10_route_119 _ _ _ _ ?_
              rw [if_pos (nI_le (by omega) (by omega))]
              exact k1 hg.symm
            | succ f ih =>
              intro c j hj hjl hcn hg
              have hlt : R / 10 ^ j < 1000000000 := Nat.lt_of_le_of_lt (Nat.div_le_self _ _) hR9
              refine bX10_route_119 _ _ _ _ ?_
              unfold gn at hg
              by_cases hz : R / 10 ^ j = 0
              · rw [if_pos hz] at hg
                have := (nd_spec hR9 j).mp hz
                rw [if_pos (nI_le (by omega) (by omega))]
                exact k1 hg.symm
              · rw [if_neg hz, p10s] at hg
                have hj2 : j < nd r := by have := (nd_spec hR9 j); omega
                have hdj := hRd j hj2
                unfold okd at hdj
                rw [if_neg (nI_ge hj2 (by omega)), vcl (by omega), vcl (by omega), hm.1.2.1 c (by omega), hv j hj2]
                refine ⟨vin (by omega) (by decide), vin (by omega) (by decide), ?_⟩
                unfold dg
                refine sm_hasC (by omega) (fun hb => ?_) (fun hb => ?_)
                · rw [if_pos hb] at hg
                  rw [if_neg (by decide), nI_1, hv j hj2]
                  exact ⟨vin (by omega) (by decide), ih _ (j + 1) (by omega) (by omega) (show R / 10 ^ j % 10 - 1 < pn (dP D) by omega) hg⟩
                · rw [if_neg (by rw [hb]; decide)] at hg
                  rw [if_pos rfl]
                  exact k0 hg.symm
          exact key 9 _ 0 rfl (by omega) hat (by rw [Nat.pow_zero, Nat.div_one])
        -- both up to the question whether it can be gone
        have cpre : ∀ {E : tp_E} {d : Nat} {σ : tp_M} {Q : Int32 → tp_M → Prop}, cR σ D → (if bI (gn (dP D) 9 (aAt (dA D) k) R) = 0 then Q (-1000000003) σ else Cv E TC yX4_remember iX4_remember (d + 1 + 1) [.ref 37, .ref 9] σ (fun σ16 => Cv E TC yX8_setRoute iX8_setRoute (d + 1 + 1) [.ref 9, .int (nI k), .int (nI R)] σ16 (fun σ17 => Ci E TC yX9_stepsOf iX9_stepsOf (d + 1 + 1) [.int (nI R)] σ17 (fun v19 σ18 => Q v19 σ18)))) → Ci E TC yX9_route iX9_route (d + 1 + 1 + 1) [.ref 0, .int (nI k), .int (nI r)] σ Q := by
          intro E d σ Q hc hq
          refine eX9_route _ _ (hc0 hc ?_)
          rw [if_neg (by decide), if_neg (nI_pos (by omega)), if_neg (nlt_lit 999999999 hr (by decide))]
          refine sC_allRooms h.1 hc.1 hr9 (fun _ => ?_) (fun q => absurd hd q)
          rw [if_neg (by decide)]
          refine sC_turned hr9 (sc_roomOf (by omega) ?_)
          rw [hR, show σ 10 k = nI (aAt (dA D) k) from hc.2.1.2.1 k hk]
          exact sC_gone h.1 hc.1 hat hR9 (fun e he => hRd e (by omega)) hq
        have mpre : ∀ {E : tp_E} {d : Nat} {σ : tp_M} {Q : Int32 → tp_M → Prop}, mR σ D → (gn (dP D) 9 (aAt (dA D) k) R = true → ∀ σ', mR σ' D → (∀ e, e < nd r → σ' 16 e = nI (dg R e)) → Cv E TM yX10_minds iX10_minds (d + 1) [.ref 0] σ' (fun σ2 => Wi E TM iX10_route (d + 1 + 1) Q 170 [(0, .ref 0), (1, .int (nI k)), (3, .int (nI (nd r))), (6, .int 0)] [] σ2)) → (gn (dP D) 9 (aAt (dA D) k) R = false → ∀ σ', mR σ' D → Q (-1000000003) σ') → Ci E TM yX10_route iX10_route (d + 1 + 1) [.ref 0, .int (nI k), .int (nI r)] σ Q := by
          intro E d σ Q hm k1 k0
          refine eX10_route _ _ (hm0 hm ?_)
          rw [if_neg (by decide)]
          refine sm_inL_t 0 999999999 (by omega) hr (by decide) ?_
          rw [if_neg (by decide)]
          refine m31 (m57 hm (fun _ σ' fr hv => ?_) (fun q => absurd hd q))
          have hm' : mR σ' D := hm.fr h (fun k _ _ => by rw [fr 0 (by omega)]) (fun i _ _ => by rw [fr 1 (by omega)]) (fun q a b => fr q (by omega))
          rw [hR] at hv
          exact m119 hm' hv (fun g => k1 g σ' hm' hv) (fun g => k0 g σ' hm')
        cases hg : gn (dP D) 9 (aAt (dA D) k) R with
        | false =>
          refine ⟨-1000000003, D, h, fun E σ Q hc hq => cpre hc ?_, fun E σ Q hm hq => mpre hm (fun g => by rw [hg] at g; cases g) (fun _ σ' hm' => hq σ' hm')⟩
          rw [hg, if_pos (show bI false = 0 from rfl)]
          exact hq σ hc
        | true =>
          have hch : chn (dP D) 9 (aAt (dA D) k) R := gn_chn 9 _ _ hR9 (fun e he => hRd e (by have := nd_spec hR9 e; omega)) hg
          refine ⟨nI (nd r), dSetA (dSetU D (pushU (dU D) (dA D))) (aSetRt (dA D) k R), (okD.setU h).setA (h.2.1.setRt hk hch), fun E σ Q hc hq => cpre hc ?_, fun E σ Q hm hq => mpre hm (fun _ σ' hm' hv => ?_) (fun g => by rw [hg] at g; cases g)⟩
          · rw [hg, if_neg (by decide)]
            refine sC_remember h hc (fun σ1 hc1 _ => eX8_setRoute _ _ (sc_isSeat (by omega) ?_))
            rw [if_neg (by decide), vcl (by omega)]
            refine ⟨vin (by omega) (by decide), sc_stepsOf (by omega) ?_⟩
            rw [hRn]
            exact hq _ (hc1.setA hc1.2.1.setRt (fun q a => uu3 _ _ _ (by omega)))
          · refine sM_minds' h hm' (fun σ1 hm1 f16 => ?_)
            have key : ∀ m j σ', j + m = nd r → (∀ q, q ≠ 1 → σ' q = σ1 q) → (∀ i, (i < 10 + 9 * k ∨ 10 + 9 * k + 9 ≤ i) → σ' 1 i = σ1 1 i) → (∀ e, e < j → σ' 1 (10 + 9 * k + e) = nI (dg R e)) → Wi E TM iX10_route 8 Q 170 [(0, .ref 0), (1, .int (nI k)), (3, .int (nI (nd r))), (6, .int (nI j))] [] σ' := by
              intro m
              induction m with
              | zero =>
                intro j σ2 hj fr f1 f2
                rw [Nat.add_zero] at hj
                subst hj
                refine bX10_route_170 _ _ _ ?_
                rw [if_pos (nI_le (Nat.le_refl _) (by omega)), lit_add 6, vcl (by omega)]
                refine ⟨vin (by omega) (by decide), hq _ (hm1.setA (okD.setU h) (mS.setRt h4 h8 hk hm1.2.1 ?_ (fun e he => ?_) (fun i a b => ?_)) (fun i a b => ?_) (fun q a => ?_))⟩
                · rw [uu1, hRn]
                · rw [uu2 _ _ _ (by omega)]; exact f2 e (by omega)
                · rw [uu2 _ _ _ a]; exact f1 i b
                · rw [uu2 _ _ _ (by omega)]; exact f1 i (by omega)
                · rw [uu3 _ _ _ a]; exact fr q a
              | succ m ih =>
                intro j σ2 hj fr f1 f2
                refine bX10_route_170 _ _ _ ?_
                rw [if_neg (nI_ge (by omega) (by omega)), show (9 : Int32) * nI k = nI (9 * k) from by rw [show (9 : Int32) = nI 9 from rfl, pk_mul], lit_add 10, nI_add, vcl (by omega), vcl (by omega), nI_1, fr 16 (by omega), f16 16 (by omega), hv j (by omega)]
                refine ⟨vin (by omega) (by decide), vin (by omega) (by decide), ih (j + 1) _ (by omega) (fun q a => by rw [uu3 _ _ _ a]; exact fr q a) (fun i a => by rw [uu2 _ _ _ (by omega)]; exact f1 i a) (fun e he => ?_)⟩
                by_cases q : e = j
                · subst q; rw [uu1]
                · rw [uu2 _ _ _ (by omega)]; exact f2 e (by omega)
            exact key (nd r) 0 σ1 (by omega) (fun q _ => rfl) (fun i _ => rfl) (fun e he => absurd he (Nat.not_lt_zero e))
      · refine ⟨-1000000002, D, h, fun E σ Q hc hq => eX9_route _ _ (hc0 hc ?_), fun E σ Q hm hq => eX10_route _ _ (hm0 hm ?_)⟩
        · rw [if_neg (by decide), if_neg (nI_pos (by omega)), if_neg (nlt_lit 999999999 hr (by decide))]
          refine sC_allRooms h.1 hc.1 hr9 (fun q => absurd q hd) (fun _ => ?_)
          rw [if_pos rfl]
          exact hq σ hc
        · rw [if_neg (by decide)]
          refine sm_inL_t 0 999999999 (by omega) hr (by decide) ?_
          rw [if_neg (by decide)]
          exact m31 (m57 hm (fun q => absurd q hd) (fun _ σ' fr => hq σ' (hm.fr h (fun k _ _ => by rw [fr 0 (by omega)]) (fun i _ _ => by rw [fr 1 (by omega)]) (fun q a b => fr q (by omega)))))
    · refine op_Q.ask (-1000000002) h (fun E σ Q hc hq => eX9_route _ _ (hc0 hc ?_)) (fun E σ Q hm hq => eX10_route _ _ (hm0 hm ?_))
      · rw [if_neg (by decide)]
        by_cases h0 : y < 0
        · rw [if_pos h0]; exact hq
        · rw [if_neg h0, if_pos (by
            rw [fa_lt] at h0
            rw [fa_lt, lit_t 999999999 (by decide)]
            have e : (0 : Int32).toInt = 0 := by decide
            omega)]
          exact hq
      · rw [if_neg (by decide)]
        refine sm_inL_f 0 999999999 hy (by decide) (by decide) ?_
        rw [if_pos rfl]
        exact hq
  · refine op_Q.ask (-1000000001) h (fun E σ Q hc hq => eX9_route _ _ ?_) (fun E σ Q hm hq => eX10_route _ _ ?_)
    · refine sc_hasWaiter_f hc.1.1.2.2.2.1 h4 hx ?_
      rw [if_pos rfl]
      exact hq
    · refine sm_isWaiter_f hm.1.1.2.2.2.1 h4 hx ?_
      rw [if_pos rfl]
      exact hq

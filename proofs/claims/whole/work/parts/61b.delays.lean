/-! ===== delays: the reference ===== -/
/-- all of them behind m minutes, each with its delay; the first n of them one minute further -/
def dlp (A : AS) (g : Nat → Nat) (m n : Nat) : AS := (A.1, A.2.1, (fun k => (posn (aAt A k) (aRt A k) (if k < n then m + 1 - g k else m - g k)).1), (fun k => (posn (aAt A k) (aRt A k) (if k < n then m + 1 - g k else m - g k)).2), A.2.2.2.2)
theorem dlp_ok {P : PD} {A : AS} (h : okA P A) (g : Nat → Nat) (m n : Nat) : okA P (dlp A g m n) := by
  refine ⟨h.1, fun k hk => ?_, fun k hk => ?_, h.2.2.2⟩
  · show (posn (aAt A k) (aRt A k) (if k < n then m + 1 - g k else m - g k)).1 < pn P ∧ chn P 9 (posn (aAt A k) (aRt A k) (if k < n then m + 1 - g k else m - g k)).1 (posn (aAt A k) (aRt A k) (if k < n then m + 1 - g k else m - g k)).2
    rw [← wks_at]
    exact (wks_ok h _).2.1 k hk
  · show (posn (aAt A k) (aRt A k) (if k < n then m + 1 - g k else m - g k)).2 = 0
    rw [h.2.2.1 k hk, posn_0]
section MD
variable {E : tp_E} {d : Nat} {σ : tp_M} {P : PD} {A : AS}
theorem sM_isApart {Q : Int32 → tp_M → Prop} {D : DD} {g : Nat → Nat} (h : okD D) (hm : mR σ D) (h17 : ∀ k, k < pw (dP D) → σ 17 k = nI (g k)) (hg : ∀ k, g k ≤ 4) (hq : ∀ σ', mR σ' D → σ' 17 = σ 17 → σ' 18 = σ 18 → Q (bI (aprB (dP D) (dA D) g)) σ') : Ci E TM yX10_isApart iX10_isApart (d + 1 + 1) [.ref 0] σ Q := by
  have hP := h.1
  have hA := h.2.1
  have h4 := hP.1.2.2.2.1
  have h8 := hP.1.1
  have ht8 := hP.1.2.2.2.2.1
  refine eX10_isApart (sM_tries h hm (fun σ1 hm1 hs1 f1 => ?_))
  have key : ∀ f m s, m + f = 20 → mR s D → s 17 = σ 17 → s 18 = σ 18 → mS s 59 (dP D) (dlp (dA D) g m 0) → (∀ t, 1 ≤ t → t ≤ m → ∀ i j, i < j → j < pw (dP D) → mt2 (dA D) i (g i) j (g j) t = false) → Wi E TM iX10_isApart (d + 1 + 1) Q 6 [(0, .ref 0), (1, .int (nI (m + 1)))] [] s := by
    intro f
    induction f with
    | zero =>
      intro m s hmf s1 s17 s18 s2 hno
      refine bX10_isApart_6 _ ?_
      rw [if_pos (lt_litp 20 (by omega) (by omega))]
      have := hq s s1 s17 s18
      rw [show aprB (dP D) (dA D) g = true from decide_eq_true (fun i hi j hj hij => (fmt_iff _ _ _ _ _ _ _ (by omega) (by omega)).mpr (fun t a b => hno t a (by omega) i j hij hj))] at this
      exact this
    | succ f ih =>
      intro m s hmf s1 s17 s18 s2 hno
      refine bX10_isApart_6 _ ?_
      rw [if_neg (nlt_lit 20 (by omega) (by decide))]
      have e7 : s 0 7 = nI (pw (dP D)) := s1.1.1.2.2.2.1
      refine lup (fun j s' => Wi E TM iX10_isApart (d + 1 + 1) Q 14 [(0, .ref 0), (1, .int (nI (m + 1))), (2, .int (nI j))] [] s') (fun j s' => (∀ q, q ≠ 1 → q ≠ 14 → q ≠ 15 → s' q = s q) ∧ mS s' 59 (dP D) (dlp (dA D) g m j) ∧ (∀ i, (i < 59 ∨ 117 ≤ i) → s' 1 i = s 1 i) ∧ (∀ k, k < j → s' 14 k = nI (trn_at (dA D) k (g k) m) ∧ s' 15 k = bI (decide (trn_at (dA D) k (g k) (m + 1) ≠ trn_at (dA D) k (g k) m)))) (pw (dP D)) ?_ ?_ 0 s (Nat.zero_le _) ⟨fun q _ _ _ => rfl, s2, fun i _ => rfl, fun k hk => absurd hk (Nat.not_lt_zero k)⟩
      · intro s3 ⟨g1, g2, g3, g4⟩
        have m3 : mR s3 D := s1.fr h (fun k _ _ => by rw [g1 0 (by omega) (by omega) (by omega)]) (fun i a b => g3 i (by omega)) (fun q a b => g1 q (by omega) (by omega) (by omega))
        have m17 : s3 17 = σ 17 := by rw [g1 17 (by omega) (by omega) (by omega)]; exact s17
        have m18 : s3 18 = σ 18 := by rw [g1 18 (by omega) (by omega) (by omega)]; exact s18
        have at3 : ∀ k, k < pw (dP D) → s3 1 (59 + 2 + k) = nI (trn_at (dA D) k (g k) (m + 1)) := fun k hk => by
          have := g2.2.1 k hk
          rw [this]
          show nI (posn (aAt (dA D) k) (aRt (dA D) k) (if k < pw (dP D) then m + 1 - g k else m - g k)).1 = _
          rw [if_pos hk]; rfl
        refine bX10_isApart_14 _ _ ?_
        rw [m3.1.1.2.2.2.1, if_pos (nI_le (Nat.le_refl _) (by omega))]
        -- does any pair meet
        refine lup (fun i s' => Wi E TM iX10_isApart (d + 1 + 1) Q 69 [(0, .ref 0), (1, .int (nI (m + 1))), (2, .int (nI i))] [] s') (fun i s' => s' = s3 ∧ ∀ a b, a < i → a < b → b < pw (dP D) → mt2 (dA D) a (g a) b (g b) (m + 1) = false) (pw (dP D)) ?_ ?_ 0 s3 (Nat.zero_le _) ⟨rfl, fun a b ha => absurd ha (Nat.not_lt_zero a)⟩
        · intro s4 ⟨hs4, k1⟩
          subst hs4
          refine bX10_isApart_69 _ _ ?_
          rw [m3.1.1.2.2.2.1, if_pos (nI_le (Nat.le_refl _) (by omega)), nI_1]
          refine ih (m + 1) s4 (by omega) m3 m17 m18 (g2.cg rfl rfl (fun k hk => ?_) (fun k hk => ?_) (fun k hk => rfl) (fun k hk => rfl)) (fun t a b i j c e => ?_)
          · show (posn _ _ (if k < 0 then _ else m + 1 - g k)).1 = (posn _ _ (if k < pw (dP D) then m + 1 - g k else m - g k)).1
            rw [if_neg (Nat.not_lt_zero k), if_pos hk]
          · show (posn _ _ (if k < 0 then _ else m + 1 - g k)).2 = (posn _ _ (if k < pw (dP D) then m + 1 - g k else m - g k)).2
            rw [if_neg (Nat.not_lt_zero k), if_pos hk]
          · by_cases q : t = m + 1
            · subst q; exact k1 i j (by omega) c e
            · exact hno t a (by omega) i j c e
        · intro i s4 hi ⟨hs4, k1⟩ ih2
          subst hs4
          refine bX10_isApart_69 _ _ ?_
          rw [m3.1.1.2.2.2.1, if_neg (nI_ge hi (by omega)), nI_1]
          refine lup (fun t s' => Wi E TM iX10_isApart (d + 1 + 1) Q 81 [(0, .ref 0), (1, .int (nI (m + 1))), (2, .int (nI i)), (3, .int (nI (i + 1 + t)))] [] s') (fun t s' => s' = s4 ∧ ∀ b, i < b → b < i + 1 + t → mt2 (dA D) i (g i) b (g b) (m + 1) = false) (pw (dP D) - (i + 1)) ?_ ?_ 0 s4 (Nat.zero_le _) ⟨rfl, fun b a c => by omega⟩
          · intro s5 ⟨hs5, k2⟩
            subst hs5
            refine bX10_isApart_81 _ _ _ ?_
            rw [m3.1.1.2.2.2.1, if_pos (nI_le (by omega) (by omega)), nI_1]
            refine ih2 s5 ⟨rfl, fun a b c e f => ?_⟩
            by_cases q : a = i
            · subst q; exact k2 b e (by omega)
            · exact k1 a b (by omega) e f
          · intro t s5 ht ⟨hs5, k2⟩ ih3
            subst hs5
            have hj : i + 1 + t < pw (dP D) := by omega
            have l1 := trn_at_lt hA (e := g i) (m := m) hi
            have l2 := trn_at_lt hA (e := g i) (m := m + 1) hi
            have l3 := trn_at_lt hA (e := g (i + 1 + t)) (m := m) hj
            have l4 := trn_at_lt hA (e := g (i + 1 + t)) (m := m + 1) hj
            refine bX10_isApart_81 _ _ _ ?_
            rw [m3.1.1.2.2.2.1, if_neg (nI_ge (by omega) (by omega)), nI_1]
            refine sM_met (b := 59) (by omega) (by omega) (by omega) (at3 i hi) (at3 _ hj) (g4 i hi).1 (g4 _ hj).1 (g4 i hi).2 (g4 _ hj).2 (by omega) (by omega) (by omega) (by omega) ?_
            have em : mt2 (dA D) i (g i) (i + 1 + t) (g (i + 1 + t)) (m + 1) = met (trn_at (dA D) i (g i) m) (trn_at (dA D) i (g i) (m + 1)) (trn_at (dA D) (i + 1 + t) (g (i + 1 + t)) m) (trn_at (dA D) (i + 1 + t) (g (i + 1 + t)) (m + 1)) := rfl
            rw [← em]
            cases hmt : mt2 (dA D) i (g i) (i + 1 + t) (g (i + 1 + t)) (m + 1) with
            | true =>
              rw [if_neg (by decide)]
              have := hq s5 m3 m17 m18
              rw [show aprB (dP D) (dA D) g = false from decide_eq_false (fun q => by
                have z := (fmt_iff _ _ _ _ _ _ _ (by omega) (by omega)).mp (q i hi _ hj (by omega)) (m + 1) (by omega) (by omega)
                rw [hmt] at z; cases z)] at this
              exact this
            | false =>
              rw [if_pos (show bI false = 0 from rfl)]
              refine ih3 s5 ⟨rfl, fun b a c => ?_⟩
              by_cases q : b = i + 1 + t
              · subst q; exact hmt
              · exact k2 b a (by omega)
      · intro j s3 hj ⟨g1, g2, g3, g4⟩ ihj
        refine bX10_isApart_14 _ _ ?_
        have eat : s3 1 (61 + j) = nI (trn_at (dA D) j (g j) m) := by
          have := g2.2.1 j hj
          rw [show 59 + 2 + j = 61 + j by omega] at this
          rw [this]
          show nI (posn (aAt (dA D) j) (aRt (dA D) j) (if j < j then m + 1 - g j else m - g j)).1 = _
          rw [if_neg (Nat.lt_irrefl j)]; rfl
        rw [g1 0 (by omega) (by omega) (by omega), e7, if_neg (nI_ge hj (by omega)), lit_add 61, vcl (by omega), vcl (by omega), eat, uu3 _ _ _ (show 17 ≠ 15 by omega), uu3 _ _ _ (show 17 ≠ 14 by omega), g1 17 (by omega) (by omega) (by omega), s17, h17 j hj, nI_1]
        refine ⟨vin (by omega) (by decide), vin (by omega) (by decide), vin (by omega) (by decide), vin (by omega) (by decide), ?_⟩
        generalize hs4 : tp_u (tp_u s3 14 j (nI (trn_at (dA D) j (g j) m))) 15 j 0 = s4
        have f4 : ∀ q, q ≠ 14 → q ≠ 15 → s4 q = s3 q := fun q a b => by rw [← hs4, uu3 _ _ _ b, uu3 _ _ _ a]
        have hgj := hg j
        have S4 : mS s4 59 (dP D) (dlp (dA D) g m j) := g2.fr h4 ht8 (fun i a b => by rw [f4 1 (by omega) (by omega)])
        by_cases hle : m + 1 ≤ g j
        · rw [if_pos (nI_le hle (by omega))]
          refine ihj s4 ⟨fun q a b c => by rw [f4 q b c]; exact g1 q a b c, S4.cg rfl rfl (fun k hk => ?_) (fun k hk => ?_) (fun k hk => rfl) (fun k hk => rfl), fun i a => by rw [f4 1 (by omega) (by omega)]; exact g3 i a, fun k hk => ?_⟩
          · show (posn _ _ (if k < j + 1 then m + 1 - g k else m - g k)).1 = (posn _ _ (if k < j then m + 1 - g k else m - g k)).1
            by_cases q : k = j
            · subst q; rw [if_pos (by omega), if_neg (by omega), show m + 1 - g k = m - g k by omega]
            · by_cases z : k < j
              · rw [if_pos (by omega), if_pos z]
              · rw [if_neg (by omega), if_neg z]
          · show (posn _ _ (if k < j + 1 then m + 1 - g k else m - g k)).2 = (posn _ _ (if k < j then m + 1 - g k else m - g k)).2
            by_cases q : k = j
            · subst q; rw [if_pos (by omega), if_neg (by omega), show m + 1 - g k = m - g k by omega]
            · by_cases z : k < j
              · rw [if_pos (by omega), if_pos z]
              · rw [if_neg (by omega), if_neg z]
          · by_cases q : k = j
            · subst q
              refine ⟨by rw [← hs4, uu3 _ _ _ (by omega), uu1], ?_⟩
              rw [← hs4, uu1, show trn_at (dA D) k (g k) (m + 1) = trn_at (dA D) k (g k) m from trn_0 (by omega)]
              simp [bI]
            · refine ⟨by rw [← hs4, uu3 _ _ _ (by omega), uu2 _ _ _ q]; exact (g4 k (by omega)).1, by rw [← hs4, uu2 _ _ _ q, uu3 _ _ _ (by omega)]; exact (g4 k (by omega)).2⟩
        · rw [if_neg (nI_ge (by omega) (by omega))]
          have okj := dlp_ok hA g m j
          refine sM_walks (b := 59) hP (by omega) hj (okA_rt okj j) S4 (fun s5 k1 k2 k3 k4 k5 k6 => ihj s5 ⟨fun q a b c => by rw [k4 q a b c, f4 q b c]; exact g1 q a b c, k1.cg rfl rfl (fun k hk => ?_) (fun k hk => ?_) (fun k hk => rfl) (fun k hk => rfl), fun i a => by rw [k5 i (by omega), f4 1 (by omega) (by omega)]; exact g3 i a, fun k hk => ?_⟩)
          · show (posn (aAt (dA D) k) (aRt (dA D) k) (if k < j + 1 then m + 1 - g k else m - g k)).1 = va_up (aAt (dlp (dA D) g m j)) j (stp (aAt (dlp (dA D) g m j) j, aRt (dlp (dA D) g m j) j)).1 k
            by_cases q : k = j
            · subst q
              rw [va_up_self, if_pos (by omega)]
              show _ = (stp (posn (aAt (dA D) k) (aRt (dA D) k) (if k < k then m + 1 - g k else m - g k))).1
              rw [if_neg (Nat.lt_irrefl k), show m + 1 - g k = m - g k + 1 by omega]; rfl
            · rw [va_up_ne _ _ q]
              show _ = (posn (aAt (dA D) k) (aRt (dA D) k) (if k < j then m + 1 - g k else m - g k)).1
              by_cases z : k < j
              · rw [if_pos (by omega), if_pos z]
              · rw [if_neg (by omega), if_neg z]
          · show (posn (aAt (dA D) k) (aRt (dA D) k) (if k < j + 1 then m + 1 - g k else m - g k)).2 = va_up (aRt (dlp (dA D) g m j)) j (aRt (dlp (dA D) g m j) j / 10) k
            by_cases q : k = j
            · subst q
              rw [va_up_self, if_pos (by omega)]
              show _ = (posn (aAt (dA D) k) (aRt (dA D) k) (if k < k then m + 1 - g k else m - g k)).2 / 10
              rw [if_neg (Nat.lt_irrefl k), show m + 1 - g k = m - g k + 1 by omega]; rfl
            · rw [va_up_ne _ _ q]
              show _ = (posn (aAt (dA D) k) (aRt (dA D) k) (if k < j then m + 1 - g k else m - g k)).2
              by_cases z : k < j
              · rw [if_pos (by omega), if_pos z]
              · rw [if_neg (by omega), if_neg z]
          · by_cases q : k = j
            · subst q
              have w := went hP okj hj
              have a1 : aAt (dlp (dA D) g m k) k = trn_at (dA D) k (g k) m := by
                show (posn (aAt (dA D) k) (aRt (dA D) k) (if k < k then m + 1 - g k else m - g k)).1 = _
                rw [if_neg (Nat.lt_irrefl k)]; rfl
              have a2 : aAt (wlk (dlp (dA D) g m k)) k = trn_at (dA D) k (g k) (m + 1) := by
                show (stp (posn (aAt (dA D) k) (aRt (dA D) k) (if k < k then m + 1 - g k else m - g k))).1 = _
                unfold trn_at
                rw [if_neg (Nat.lt_irrefl k), show m + 1 - g k = m - g k + 1 by omega]; rfl
              rw [a1, a2] at w
              rw [a1] at k2
              exact ⟨k2, by rw [k3, w]⟩
            · rw [(k6 k q).1, (k6 k q).2]
              refine ⟨by rw [← hs4, uu3 _ _ _ (by omega), uu2 _ _ _ q]; exact (g4 k (by omega)).1, by rw [← hs4, uu2 _ _ _ q, uu3 _ _ _ (by omega)]; exact (g4 k (by omega)).2⟩
  refine key 20 0 σ1 rfl hm1 (f1 17 (by omega)) (f1 18 (by omega)) (hs1.cg rfl rfl (fun k hk => ?_) (fun k hk => ?_) (fun k hk => rfl) (fun k hk => rfl)) (fun t a b => by omega)
  · show (posn _ _ (if k < 0 then _ else 0 - g k)).1 = _
    rw [if_neg (Nat.not_lt_zero k), Nat.zero_sub]; rfl
  · show (posn _ _ (if k < 0 then _ else 0 - g k)).2 = _
    rw [if_neg (Nat.not_lt_zero k), Nat.zero_sub]; rfl
theorem sM_seekD {Q : Int32 → tp_M → Prop} {D : DD} {x1 : Int32} (h : okD D) (hm : mR σ D) (hq : ∀ σ', mR σ' D → (∀ b, dbs (dP D) (dA D) (5 ^ pw (dP D)) = some b → ∀ k, k < pw (dP D) → σ' 18 k = nI (b.2 k)) → (if dbI (dbs (dP D) (dA D) (5 ^ pw (dP D))) 1000000 = 1000000 then Q (-1) σ' else if x1 = -1 then Q (dbI (dbs (dP D) (dA D) (5 ^ pw (dP D))) 1000000) σ' else vp_in x1 4 ∧ Q (σ' 18 x1.toNatClampNeg) σ')) : Wi E TM iX10_delays (d + 1 + 1 + 1) Q 20 [(0, .ref 0), (1, .int x1), (2, .int 1), (3, .int 0)] [] σ := by
  have hP := h.1
  have hA := h.2.1
  have h4 := hP.1.2.2.2.1
  have e7 : σ 0 7 = nI (pw (dP D)) := hm.1.1.2.2.2.1
  have h625 := pow_small (b := 5) (n := pw (dP D)) (by omega) h4
  refine lup (fun j s => Wi E TM iX10_delays (d + 1 + 1 + 1) Q 20 [(0, .ref 0), (1, .int x1), (2, .int (nI (5 ^ j))), (3, .int (nI j))] [] s) (fun j s => s = σ) (pw (dP D)) ?_ ?_ 0 σ (Nat.zero_le _) rfl
  rotate_left
  · intro j s hj hs ih
    subst hs
    refine bX10_delays_20 _ _ _ ?_
    rw [e7, if_neg (nI_ge hj (by omega)), nI_1, show (5 : Int32) = nI 5 from rfl, pk_mul, ← Nat.pow_succ]
    exact ih s rfl
  intro s hs
  subst hs
  refine bX10_delays_20 _ _ _ ?_
  rw [e7, if_pos (nI_le (Nat.le_refl _) (by omega))]
  refine lup (fun x s' => Wi E TM iX10_delays (d + 1 + 1 + 1) Q 45 [(0, .ref 0), (1, .int x1), (2, .int (nI (5 ^ pw (dP D)))), (3, .int (dbI (dbs (dP D) (dA D) x) 1000000)), (4, .int (nI x))] [] s') (fun x s' => mR s' D ∧ (∀ b, dbs (dP D) (dA D) x = some b → ∀ k, k < pw (dP D) → s' 18 k = nI (b.2 k))) (5 ^ pw (dP D)) ?_ ?_ 0 s (Nat.zero_le _) ⟨hm, fun b hb => by cases hb⟩
  · intro s1 ⟨g1, g2⟩
    refine bX10_delays_45 _ _ _ _ ?_
    rw [if_pos (nI_le (Nat.le_refl _) (by omega))]
    exact hq s1 g1 g2
  · intro x s1 hx ⟨g1, g2⟩ ih
    refine bX10_delays_45 _ _ _ _ ?_
    rw [if_neg (nI_ge hx (by omega)), g1.1.1.2.2.2.1]
    have hbl := dbs_le (dP D) (dA D) x
    have e1 : dbs (dP D) (dA D) (x + 1) = dbst (dP D) (dA D) x (dbs (dP D) (dA D) x) := rfl
    rw [e1] at ih
    have key : ∀ k t s', t + k = pw (dP D) → (∀ i, k ≤ i → i < pw (dP D) → s' 17 i = nI (dg5 (dP D) x i)) → (∀ q, q ≠ 17 → s' q = s1 q) → Wi E TM iX10_delays (d + 1 + 1 + 1) Q 66 [(0, .ref 0), (1, .int x1), (2, .int (nI (5 ^ pw (dP D)))), (3, .int (dbI (dbs (dP D) (dA D) x) 1000000)), (4, .int (nI x)), (5, .int (nI (x / 5 ^ t))), (6, .int (nI (endd (dP D) (dA D) (dg5 (dP D) x) t))), (7, .int (nI k - 1))] [] s' := by
      intro k
      induction k with
      | zero =>
        intro t s' ht k1 k2
        rw [Nat.add_zero] at ht
        subst ht
        have m2 : mR s' D := g1.fr h (fun k _ _ => by rw [k2 0 (by omega)]) (fun i _ _ => by rw [k2 1 (by omega)]) (fun q a b => k2 q (by omega))
        have hen := enda_le (P := dP D) (A := dA D) (dg5_le (dP D) x) (pw (dP D))
        refine bX10_delays_66 _ _ _ _ _ _ _ ?_
        rw [if_pos (show nI 0 - 1 < 0 by decide), end_eq, nI_1]
        have go : dbw (dbs (dP D) (dA D) x) (enda (dP D) (dA D) (dg5 (dP D) x) (pw (dP D))) = true → Ci E TM yX10_isApart iX10_isApart (d + 1 + 1) [.ref 0] s' (fun v4 σ3 => if v4 = 0 then Wi E TM iX10_delays (d + 1 + 1 + 1) Q 45 [(0, .ref 0), (1, .int x1), (2, .int (nI (5 ^ pw (dP D)))), (3, .int (dbI (dbs (dP D) (dA D) x) 1000000)), (4, .int (nI (x + 1)))] [] σ3 else Wi E TM iX10_delays (d + 1 + 1 + 1) Q 166 [(0, .ref 0), (1, .int x1), (2, .int (nI (5 ^ pw (dP D)))), (3, .int (nI (enda (dP D) (dA D) (dg5 (dP D) x) (pw (dP D))))), (4, .int (nI x)), (7, .int 0)] [] σ3) := by
          intro hw
          refine sM_isApart (g := dg5 (dP D) x) h m2 (fun k hk => k1 k (by omega) hk) (dg5_le _ _) (fun s3 m3 m17 m18 => ?_)
          unfold dbst at ih
          cases ha : aprB (dP D) (dA D) (dg5 (dP D) x) with
          | false =>
            rw [ha, if_neg (fun q => by cases q.2)] at ih
            rw [if_pos (show bI false = 0 from rfl)]
            exact ih s3 ⟨m3, fun b hb k hk => by rw [m18, k2 18 (by omega)]; exact g2 b hb k hk⟩
          | true =>
            rw [ha, if_pos ⟨hw, rfl⟩] at ih
            rw [if_neg (show ¬ bI true = 0 by decide)]
            refine lup (fun k s'' => Wi E TM iX10_delays (d + 1 + 1 + 1) Q 166 [(0, .ref 0), (1, .int x1), (2, .int (nI (5 ^ pw (dP D)))), (3, .int (nI (enda (dP D) (dA D) (dg5 (dP D) x) (pw (dP D))))), (4, .int (nI x)), (7, .int (nI k))] [] s'') (fun k s'' => (∀ q, q ≠ 18 → s'' q = s3 q) ∧ ∀ i, i < k → s'' 18 i = nI (dg5 (dP D) x i)) (pw (dP D)) ?_ ?_ 0 s3 (Nat.zero_le _) ⟨fun q _ => rfl, fun i hi => absurd hi (Nat.not_lt_zero i)⟩
            · intro s4 ⟨l1, l2⟩
              refine bX10_delays_166 _ _ _ _ _ ?_
              rw [l1 0 (by omega), m3.1.1.2.2.2.1, if_pos (nI_le (Nat.le_refl _) (by omega)), nI_1]
              refine ih s4 ⟨m3.fr h (fun k _ _ => by rw [l1 0 (by omega)]) (fun i _ _ => by rw [l1 1 (by omega)]) (fun q a b => l1 q (by omega)), fun b hb k hk => ?_⟩
              cases hb
              exact l2 k hk
            · intro k s4 hk ⟨l1, l2⟩ ih2
              refine bX10_delays_166 _ _ _ _ _ ?_
              rw [l1 0 (by omega), m3.1.1.2.2.2.1, if_neg (nI_ge hk (by omega)), nI_1, vcl (by omega), l1 17 (by omega), m17, k1 k (by omega) hk]
              refine ⟨vin (by omega) (by decide), vin (by omega) (by decide), ih2 _ ⟨fun q a => by rw [uu3 _ _ _ a]; exact l1 q a, fun i hi => ?_⟩⟩
              by_cases q : i = k
              · subst q; rw [uu1]
              · rw [uu2 _ _ _ q]; exact l2 i (by omega)
        cases hb : dbs (dP D) (dA D) x with
        | none =>
          rw [hb] at go
          rw [if_neg (show ¬ dbI none 1000000 ≤ nI _ from nle_lit 1000000 (by omega) (by decide))]
          exact go rfl
        | some b =>
          have hb1 := (hbl b hb).1
          rw [hb] at go
          by_cases c : b.1 ≤ enda (dP D) (dA D) (dg5 (dP D) x) (pw (dP D))
          · rw [if_pos (show dbI (some b) 1000000 ≤ nI _ from nI_le c (by omega))]
            unfold dbst at ih
            rw [hb, if_neg (fun q => by have := of_decide_eq_true q.1; omega)] at ih
            exact ih s' ⟨m2, fun b' hb' k hk => by rw [k2 18 (by omega)]; exact g2 b' (by rw [hb]; exact hb') k hk⟩
          · rw [if_neg (show ¬ dbI (some b) 1000000 ≤ nI _ from nI_ge (by omega) (by omega))]
            exact go (decide_eq_true (by omega))
      | succ k ihk =>
        intro t s' ht k1 k2
        have hlt : x / 5 ^ t < 2147483648 := Nat.lt_of_le_of_lt (Nat.div_le_self _ _) (by omega)
        have hk : k < pw (dP D) := by omega
        have hd := dg5_le (dP D) x k
        have ed : x / 5 ^ t % 5 = dg5 (dP D) x k := by
          show _ = x / 5 ^ (pw (dP D) - 1 - k) % 5
          rw [show pw (dP D) - 1 - k = t by omega]
        have hl := nd_le (aRt (dA D) k)
        have hr := okA_rt hA k
        have hen := endd_le (P := dP D) (A := dA D) (dg5_le (dP D) x) t
        have e6 : s1 1 (6 + k) = nI (nd (aRt (dA D) k)) := by have := (g1.2.1.2.2.1 k hk).1; rw [Nat.zero_add] at this; exact this
        refine bX10_delays_66 _ _ _ _ _ _ _ ?_
        rw [nI_pred, if_neg (nI_pos (by omega)), show nI (x / 5 ^ t) - nI (x / 5 ^ t) / 5 * 5 = nI (x / 5 ^ t % 5) from pk_rem (d := 5) hlt (by decide) (by decide), show nI (x / 5 ^ t) / 5 = nI (x / 5 ^ t / 5) from pk_div (d := 5) hlt (by decide) (by decide), pbs, ed, lit_add 6, vcl (by omega), vcl (by omega), uu1, uu3 _ _ _ (show 1 ≠ 17 by omega), k2 1 (by omega), e6, nI_add]
        refine ⟨vin (by omega) (by decide), vin (by omega) (by decide), ?_⟩
        have ee : endd (dP D) (dA D) (dg5 (dP D) x) (t + 1) = max (endd (dP D) (dA D) (dg5 (dP D) x) t) (evl (dA D) (dg5 (dP D) x) k) := by
          show max _ (evl (dA D) (dg5 (dP D) x) (pw (dP D) - (t + 1))) = _
          rw [show pw (dP D) - (t + 1) = k by omega]
        have nx : ∀ v : Nat, v = evl (dA D) (dg5 (dP D) x) k → v ≤ 13 → Wi E TM iX10_delays (d + 1 + 1 + 1) Q 123 [(0, .ref 0), (1, .int x1), (2, .int (nI (5 ^ pw (dP D)))), (3, .int (dbI (dbs (dP D) (dA D) x) 1000000)), (4, .int (nI x)), (5, .int (nI (x / 5 ^ (t + 1)))), (6, .int (nI (endd (dP D) (dA D) (dg5 (dP D) x) t))), (7, .int (nI k))] [.int (nI v)] (tp_u s' 17 k (nI (dg5 (dP D) x k))) := by
          intro v hv hv13
          have nxt := ihk (t + 1) (tp_u s' 17 k (nI (dg5 (dP D) x k))) (by omega) (fun i a c => by
            by_cases q : i = k
            · subst q; rw [uu1]
            · rw [uu2 _ _ _ q]; exact k1 i (by omega) c) (fun q hq => by rw [uu3 _ _ _ hq]; exact k2 q hq)
          rw [ee, ← hv] at nxt
          refine bX10_delays_123 _ _ _ _ _ _ _ _ ?_
          rw [show nI k + (-1) = nI k - 1 from by rw [Int32.sub_eq_add_neg]]
          by_cases c : v ≤ endd (dP D) (dA D) (dg5 (dP D) x) t
          · rw [Nat.max_eq_left c] at nxt
            rw [if_pos (nI_le c (by omega))]
            exact nxt
          · rw [Nat.max_eq_right (by omega)] at nxt
            rw [if_neg (nI_ge (by omega) (by omega))]
            exact nxt
        by_cases c : aRt (dA D) k = 0
        · rw [if_pos (by rw [c]; decide)]
          exact nx 0 (by unfold evl; rw [if_pos c]) (by omega)
        · have hnd : nd (aRt (dA D) k) ≠ 0 := fun q => c ((nd_0 hr).mp q)
          rw [if_neg (nI_nleL 0 (Nat.pos_of_ne_zero hnd) (by omega))]
          exact ⟨vin (by omega) (by decide), vin (by omega) (by decide), nx _ (by unfold evl; rw [if_neg c]) (by omega)⟩
    have := key (pw (dP D)) 0 s1 (by omega) (fun i a c => by omega) (fun q _ => rfl)
    rw [Nat.pow_zero, Nat.div_one] at this
    exact this
end MD
theorem op_delays {D : DD} (h : okD D) (x : Int32) : op_Q yX9_delays iX9_delays yX10_delays iX10_delays [.int x] D := by
  have h4 := h.1.1.2.2.2.1
  have hbl := dbs_le (dP D) (dA D) (5 ^ pw (dP D))
  by_cases h1 : x = -1
  · subst h1
    refine ⟨dbI (dbs (dP D) (dA D) (5 ^ pw (dP D))) (-1), D, h, fun E σ Q hc hq => eX9_delays _ ?_, fun E σ Q hmr hq => eX10_delays _ ?_⟩
    · rw [if_pos rfl]
      refine sC_seekD h hc (fun σ1 hc1 e1 e2 => eX1_answer _ ?_)
      rw [if_pos rfl, e1]
      exact hq σ1 hc1
    · rw [if_pos rfl]
      refine sM_seekD h hmr (fun σ1 hm1 e2 => ?_)
      have := hq σ1 hm1
      cases hb : dbs (dP D) (dA D) (5 ^ pw (dP D)) with
      | none =>
        rw [hb] at this
        rw [if_pos (show dbI none 1000000 = 1000000 from rfl)]
        exact this
      | some b =>
        rw [hb] at this
        have := (hbl b hb).1
        rw [if_neg (show ¬ dbI (some b) 1000000 = 1000000 from fun q => by have := (nI_eqL 1000000 (by omega) (by decide)).mp q; omega), if_pos rfl]
        assumption
  · rcases vrng x (pw (dP D)) (by omega) with ⟨k, hk, rfl⟩ | hx
    · refine ⟨match dbs (dP D) (dA D) (5 ^ pw (dP D)) with | none => -1 | some b => nI (b.2 k), D, h, fun E σ Q hc hq => eX9_delays _ ?_, fun E σ Q hmr hq => eX10_delays _ ?_⟩
      · rw [if_neg h1]
        refine sc_hasWaiter_t hc.1.1.2.2.2.1 h4 hk ?_
        rw [if_neg (by decide)]
        refine sC_seekD h hc (fun σ1 hc1 e1 e2 => eX1_answer _ ?_)
        rw [if_neg h1, e1]
        have hq1 := hq σ1 hc1
        cases hb : dbs (dP D) (dA D) (5 ^ pw (dP D)) with
        | none =>
          rw [hb] at hq1
          rw [if_pos (show dbI none (-1) = -1 from rfl)]
          exact hq1
        | some b =>
          rw [hb] at hq1
          have := (hbl b hb).1
          rw [if_neg (show ¬ dbI (some b) (-1) = -1 from nI_ne_m1 (by omega))]
          refine sc_hasWaiter_t hc1.1.1.2.2.2.1 h4 hk ?_
          rw [if_neg (by decide), vcl (by omega), e2 b hb k hk]
          exact ⟨vin (by omega) (by decide), hq1⟩
      · rw [if_neg h1]
        refine sm_isWaiter_t hmr.1.1.2.2.2.1 h4 hk ?_
        rw [if_neg (by decide)]
        refine sM_seekD h hmr (fun σ1 hm1 e2 => ?_)
        have hq1 := hq σ1 hm1
        cases hb : dbs (dP D) (dA D) (5 ^ pw (dP D)) with
        | none =>
          rw [hb] at hq1
          rw [if_pos (show dbI none 1000000 = 1000000 from rfl)]
          exact hq1
        | some b =>
          rw [hb] at hq1
          have := (hbl b hb).1
          rw [if_neg (show ¬ dbI (some b) 1000000 = 1000000 from fun q => by have := (nI_eqL 1000000 (by omega) (by decide)).mp q; omega), if_neg h1, vcl (by omega), e2 b hb k hk]
          exact ⟨vin (by omega) (by decide), hq1⟩
    · refine op_Q.ask (-1000000001) h (fun E σ Q hc hq => eX9_delays _ ?_) (fun E σ Q hmr hq => eX10_delays _ ?_)
      · rw [if_neg h1]
        refine sc_hasWaiter_f hc.1.1.2.2.2.1 h4 hx ?_
        rw [if_pos rfl]; exact hq
      · rw [if_neg h1]
        refine sm_isWaiter_f hmr.1.1.2.2.2.1 h4 hx ?_
        rw [if_pos rfl]; exact hq

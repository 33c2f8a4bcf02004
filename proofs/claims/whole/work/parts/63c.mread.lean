/-! ===== reading: the reference's clause, all of it ===== -/
theorem wd0_le {n : Nat} {tx : Nat → Nat} {F : PD} {L p : Nat} {y : PD × Nat} (hx : ∀ i, i < n → tx i ≤ 255) (hp : p < n) (h : wd0 n tx F L p = .inr y) : y.2 ≤ n := by
  unfold wd0 at h
  cases h1 : nmb n tx (fl L) (fm F L) (p + 1) with
  | inl e => rw [h1] at h; cases h
  | inr x =>
    rw [h1] at h
    have b1 := nmb_in hx (by omega) h1
    change wd1 n tx F L x.1 x.2.1 = .inr y at h
    unfold wd1 at h
    cases h2 : nmb n tx (sl L) (sm F L) x.2.1 with
    | inl e => rw [h2] at h; cases h
    | inr z =>
      rw [h2] at h
      have b2 := nmb_in hx b1.2.2.2.1 h2
      change wd2 F L x.1 z.1 z.2.1 z.2.2 = .inr y at h
      unfold wd2 at h
      by_cases c : L = 112 ∧ (x.1 = z.1 ∨ bt (pJ F x.1) z.1 = true)
      · rw [if_pos c] at h; cases h
      · rw [if_neg c] at h; cases h; exact b2.2.2.2.1
section MC
variable {E : tp_E} {d : Nat} {σ : tp_M} {Q : Int32 → tp_M → Prop} {n : Nat} {tx : Nat → Nat} {F : PD} {p : Nat}
theorem sM_words {L : Nat} (hn : n ≤ 240) (hx : ∀ i, i < n → tx i ≤ 255) (h16 : σ 0 16 = nI n) (h17 : σ 0 17 = nI (p + 1)) (ht : tT σ n tx) (hp : p < n) (hm : mF σ F) (hF : okP F) (h5 : five L) (h1 : L = 104 ∨ 1 ≤ pn F) (hfu : full F L = false) (h : dOut σ (wd0 n tx F L p) (fun v s => (v = 0 ∨ v = 1) → Q v s)) : Ci E TM yX10_takesWords iX10_takesWords (d + 1 + 1 + 1 + 1) [.ref 0, .int (nI L)] σ Q := by
  have h : dOut σ (wd0 n tx F L p) (fun v s => (v = 0 ∨ v = 1) ∧ Q v s) := by
    cases hw : wd0 n tx F L p with
    | inl e => rw [hw] at h; exact fun s a b c => ⟨Or.inl rfl, h s a b c (Or.inl rfl)⟩
    | inr y => rw [hw] at h; exact fun s a b c e f => ⟨Or.inr rfl, h s a b c e f (Or.inr rfl)⟩
  refine eX10_takesWords _ ?_
  rcases h5 with k | k | k | k | k
  · subst k
    rw [if_pos (show nI 104 = 104 from rfl)]
    exact sM_w104 hn hx h16 h17 ht hp hm h
  · subst k
    rw [if_neg (show ¬ nI 112 = 104 by decide), if_pos (show nI 112 = 112 from rfl)]
    exact sM_w112 hn hx h16 h17 ht hp hm hF (by omega) h
  · subst k
    rw [if_neg (show ¬ nI 119 = 104 by decide), if_neg (show ¬ nI 119 = 112 by decide), if_neg (show ¬ nI 119 = 116 by decide), if_pos (show nI 119 = 119 from rfl)]
    exact sM_w119 hn hx h16 h17 ht hp hm hF (by omega) hfu h
  · subst k
    rw [if_neg (show ¬ nI 116 = 104 by decide), if_neg (show ¬ nI 116 = 112 by decide), if_pos (show nI 116 = 116 from rfl)]
    exact sM_w116 hn hx h16 h17 ht hp hm hF hfu h
  · subst k
    rw [if_neg (show ¬ nI 111 = 104 by decide), if_neg (show ¬ nI 111 = 112 by decide), if_neg (show ¬ nI 111 = 116 by decide), if_neg (show ¬ nI 111 = 119 by decide)]
    exact sM_w111 hn hx h16 h17 ht hp hm hF (by omega) hfu h
theorem skip_skip (hn : n ≤ 240) (p : Nat) : skip n tx (skip n tx p) = skip n tx p := skp_stop (skp_end n tx 240 p (by omega)) 240
theorem sM_clause (hn : n ≤ 240) (hx : ∀ i, i < n → tx i ≤ 255) (h16 : σ 0 16 = nI n) (h17 : σ 0 17 = nI p) (ht : tT σ n tx) (hp : p < n) (hsk : skip n tx p = p) (hm : mF σ F) (hF : okP F) (h : dOut σ (clz n tx F p) Q) : Ci E TM yX10_takesClause iX10_takesClause (d + 1 + 1 + 1 + 1 + 1) [.ref 0] σ Q := by
  have hL := hx p hp
  have hn8 := hF.1
  have e : ∀ k : Nat, k < 256 → (nI (tx p) = (OfNat.ofNat k : Int32) ↔ tx p = k) := fun k hk => nI_eqL k (by omega) (by omega)
  refine eX10_takesClause (sM_here hn hx h16 h17 ht (by omega) (fun s a17 a18 a0 aq => ?_))
  rw [hsk] at a17 a18 ⊢
  rw [show chr n tx p = nI (tx p) from if_pos hp]
  have f1 : fN s σ := ⟨aq, fun k hk => a0 k (by omega) (by omega)⟩
  have m1 := hm.n f1
  obtain ⟨⟨m22, m23, m24, m26, m28, m30⟩, -⟩ := m1
  have s16 : s 0 16 = nI n := by rw [a0 16 (by omega) (by omega)]; exact h16
  have ts : tT s n tx := fun i hi => by rw [aq 9 (by omega)]; exact ht i hi
  unfold clz at h
  have fail : ∀ c : Nat, dOut σ (.inl (c, p)) Q → Ci E TM yX10_fails iX10_fails (d + 1 + 1 + 1 + 1) [.ref 0, .int (nI c), .int (s 0 18)] s (fun v σ' => (v = 0 ∨ v = 1) ∧ Q v σ') := by
    intro c hc
    refine eX10_fails _ _ ?_
    rw [a18]
    exact ⟨Or.inl rfl, hc _ (by rw [uu2 _ _ _ (by omega), uu1]) (uu1 _ _ _ _) ((f1.u 20 _ (by omega)).u 21 _ (by omega)).d⟩
  -- the words themselves
  have go : five (tx p) → (tx p = 104 ∨ 1 ≤ pn F) → ∀ v : Int32, (v = 0 ↔ full F (tx p) = false) → Wi E TM iX10_takesClause (d + 1 + 1 + 1 + 1 + 1) Q 164 [(0, .ref 0), (1, .int (nI (tx p)))] [.int v] s := by
    intro h5 h1 v hv
    refine bX10_takesClause_164 _ _ ?_
    have ef : flt F (tx p) = if full F (tx p) = true then 3 else 0 := by
      unfold flt
      rw [if_neg (fun q => q h5), if_neg (fun q => by omega)]
    rw [ef] at h
    cases hfu : full F (tx p) with
    | true =>
      rw [hfu] at h hv
      rw [if_neg (fun q => by have := hv.mp q; cases this)]
      change dOut σ (.inl (3, p)) Q at h
      exact fail 3 h
    | false =>
      rw [hfu] at h
      change dOut σ (cl0 n tx F (tx p) p) Q at h
      rw [cl0_wd] at h
      rw [hfu] at hv
      rw [if_pos (hv.mpr rfl), a17, nI_1]
      have f2 : fN (tp_u s 0 17 (nI (p + 1))) σ := f1.u 17 _ (by omega)
      refine sM_words (F := F) hn hx (by rw [uu2 _ _ _ (by omega)]; exact s16) (uu1 _ _ _ _) (fun i hi => by rw [uu3 _ _ _ (by omega)]; exact ts i hi) hp (hm.n f2) hF h5 h1 hfu ?_
      cases hw : wd0 n tx F (tx p) p with
      | inl e =>
        rw [hw] at h
        intro s2 b20 b21 fd2 _
        rw [if_pos rfl]
        exact h s2 b20 b21 (fd2.t f2.d)
      | inr y =>
        rw [hw] at h
        intro s2 b17 mF2 b20 b21 fd2 _
        rw [if_neg (by decide)]
        have hyn : y.2 ≤ n := wd0_le hx hp hw
        have fd : fD s2 σ := fd2.t f2.d
        change dOut σ (if skip n tx y.2 < n ∧ tx (skip n tx y.2) = 59 then .inr (y.1, skip n tx y.2 + 1) else .inl (1, skip n tx y.2)) Q at h
        refine eX10_takes _ (sM_here hn hx (by rw [fd.2 16 (by omega)]; exact h16) b17 (fun i hi => by rw [fd.1 9 (by omega) (by omega)]; exact ht i hi) hyn (fun s3 c17 c18 c0 cq => ?_))
        have f3 : fN s3 s2 := ⟨cq, fun k hk => c0 k (by omega) (by omega)⟩
        by_cases c : skip n tx y.2 < n ∧ tx (skip n tx y.2) = 59
        · rw [if_pos c] at h
          rw [if_pos (show chr n tx (skip n tx y.2) = 59 from (chr_32 hx (L := 59) (by omega)).mpr c), if_neg (by decide), c17, nI_1]
          refine h _ (uu1 _ _ _ _) (mF2.n (f3.u 17 _ (by omega))) ?_ ?_ ((f3.u 17 _ (by omega)).d.t fd)
          · rw [uu2 _ _ _ (by omega), c0 20 (by omega) (by omega), b20, uu2 _ _ _ (by omega), a0 20 (by omega) (by omega)]
          · rw [uu2 _ _ _ (by omega), c0 21 (by omega) (by omega), b21, uu2 _ _ _ (by omega), a0 21 (by omega) (by omega)]
        · rw [if_neg c] at h
          rw [if_neg (show ¬ chr n tx (skip n tx y.2) = 59 from fun q => c ((chr_32 hx (L := 59) (by omega)).mp q))]
          refine eX10_fails _ _ ?_
          rw [c18]
          refine ⟨Or.inl rfl, ?_⟩
          rw [if_pos rfl]
          exact h _ (by rw [uu2 _ _ _ (by omega), uu1]; rfl) (uu1 _ _ _ _) (((f3.u 20 _ (by omega)).u 21 _ (by omega)).d.t fd)
  have no : ¬ (five (tx p) ∧ (tx p = 104 ∨ 1 ≤ pn F)) → Wi E TM iX10_takesClause (d + 1 + 1 + 1 + 1 + 1) Q 47 [(0, .ref 0), (1, .int (nI (tx p)))] [.int 0] s := by
    intro hno
    refine bX10_takesClause_47 _ _ ?_
    rw [if_pos rfl]
    have e1 : flt F (tx p) = 1 := by
      unfold flt
      by_cases c1 : ¬ five (tx p)
      · rw [if_pos c1]
      · rw [if_neg c1, if_pos]
        have := fun q => hno ⟨Classical.not_not.mp c1, q⟩
        omega
    rw [e1, if_pos (by decide)] at h
    exact fail 1 h
  have yes : five (tx p) → (tx p = 104 ∨ 1 ≤ pn F) → Wi E TM iX10_takesClause (d + 1 + 1 + 1 + 1 + 1) Q 47 [(0, .ref 0), (1, .int (nI (tx p)))] [.int 1] s := by
    intro h5 h1
    refine bX10_takesClause_47 _ _ ?_
    have fz : ∀ (b : Bool) (v : Int32), v = bI b → (v = 0 ↔ b = false) := fun b v hv => by rw [hv]; cases b <;> decide
    rw [if_neg (by decide), m22, m24, m26, m28, m30]
    have go2 := go h5 h1
    rcases h5 with k | k | k | k | k
    · rw [if_pos ((e 104 (by omega)).mpr k)]
      rw [k] at go2 ⊢
      by_cases z : pn F ≤ 0
      · rw [if_pos (nI_leL 0 z (by decide))]
        exact go2 0 (fz _ _ (by unfold full; rw [if_neg (by decide), if_neg (by decide), if_neg (by decide), if_neg (by decide), decide_eq_true z]; rfl))
      · rw [if_neg (nI_nleL 0 (by omega) (by omega))]
        exact go2 1 (fz _ _ (by unfold full; rw [if_neg (by decide), if_neg (by decide), if_neg (by decide), if_neg (by decide), decide_eq_false z]; rfl))
    · rw [if_neg (fun q => by have := (e 104 (by omega)).mp q; omega), if_pos ((e 112 (by omega)).mpr k)]
      rw [k] at go2 ⊢
      by_cases z : pp F = 12
      · rw [if_pos (by rw [z]; rfl)]
        exact go2 1 (fz _ _ (by unfold full; rw [if_neg (by decide), if_pos rfl, decide_eq_false (by omega)]; rfl))
      · rw [if_neg (by rw [nI_eqL 12 (by omega) (by decide)]; exact z)]
        exact go2 0 (fz _ _ (by unfold full; rw [if_neg (by decide), if_pos rfl, decide_eq_true (by omega)]; rfl))
    · rw [if_neg (fun q => by have := (e 104 (by omega)).mp q; omega), if_neg (fun q => by have := (e 112 (by omega)).mp q; omega), if_pos ((e 119 (by omega)).mpr k)]
      rw [k] at go2 ⊢
      by_cases z : pw F = 4
      · rw [if_pos (by rw [z]; rfl)]
        exact go2 1 (fz _ _ (by unfold full; rw [if_neg (by decide), if_neg (by decide), if_neg (by decide), if_pos rfl, decide_eq_false (by omega)]; rfl))
      · rw [if_neg (by rw [nI_eqL 4 (by omega) (by decide)]; exact z)]
        exact go2 0 (fz _ _ (by unfold full; rw [if_neg (by decide), if_neg (by decide), if_neg (by decide), if_pos rfl, decide_eq_true (by omega)]; rfl))
    · rw [if_neg (fun q => by have := (e 104 (by omega)).mp q; omega), if_neg (fun q => by have := (e 112 (by omega)).mp q; omega), if_neg (fun q => by have := (e 119 (by omega)).mp q; omega), if_pos ((e 116 (by omega)).mpr k)]
      rw [k] at go2 ⊢
      by_cases z : pt F = 8
      · rw [if_pos (by rw [z]; rfl)]
        exact go2 1 (fz _ _ (by unfold full; rw [if_neg (by decide), if_neg (by decide), if_pos rfl, decide_eq_false (by omega)]; rfl))
      · rw [if_neg (by rw [nI_eqL 8 (by omega) (by decide)]; exact z)]
        exact go2 0 (fz _ _ (by unfold full; rw [if_neg (by decide), if_neg (by decide), if_pos rfl, decide_eq_true (by omega)]; rfl))
    · rw [if_neg (fun q => by have := (e 104 (by omega)).mp q; omega), if_neg (fun q => by have := (e 112 (by omega)).mp q; omega), if_neg (fun q => by have := (e 119 (by omega)).mp q; omega), if_neg (fun q => by have := (e 116 (by omega)).mp q; omega)]
      rw [k] at go2 ⊢
      by_cases z : po F = 4
      · rw [if_pos (by rw [z]; rfl)]
        exact go2 1 (fz _ _ (by unfold full; rw [if_pos rfl, decide_eq_false (by omega)]; rfl))
      · rw [if_neg (by rw [nI_eqL 4 (by omega) (by decide)]; exact z)]
        exact go2 0 (fz _ _ (by unfold full; rw [if_pos rfl, decide_eq_true (by omega)]; rfl))
  by_cases k1 : tx p = 104
  · rw [if_pos ((e 104 (by omega)).mpr k1)]; exact yes (Or.inl k1) (Or.inl k1)
  rw [if_neg (fun q => k1 ((e 104 (by omega)).mp q)), m22]
  by_cases z : pn F ≤ 0
  · rw [if_pos (nI_leL 0 z (by decide))]; exact no (fun q => by omega)
  rw [if_neg (nI_nleL 0 (by omega) (by omega))]
  by_cases k2 : tx p = 112
  · rw [if_pos ((e 112 (by omega)).mpr k2)]; exact yes (Or.inr (Or.inl k2)) (Or.inr (by omega))
  rw [if_neg (fun q => k2 ((e 112 (by omega)).mp q))]
  by_cases k3 : tx p = 119
  · rw [if_pos ((e 119 (by omega)).mpr k3)]; exact yes (Or.inr (Or.inr (Or.inl k3))) (Or.inr (by omega))
  rw [if_neg (fun q => k3 ((e 119 (by omega)).mp q))]
  by_cases k4 : tx p = 116
  · rw [if_pos ((e 116 (by omega)).mpr k4)]; exact yes (Or.inr (Or.inr (Or.inr (Or.inl k4)))) (Or.inr (by omega))
  rw [if_neg (fun q => k4 ((e 116 (by omega)).mp q))]
  by_cases k5 : tx p = 111
  · rw [if_pos ((e 111 (by omega)).mpr k5)]; exact yes (Or.inr (Or.inr (Or.inr (Or.inr k5)))) (Or.inr (by omega))
  rw [if_neg (fun q => k5 ((e 111 (by omega)).mp q))]
  exact no (fun q => by rcases q.1 with y | y | y | y | y <;> omega)
end MC

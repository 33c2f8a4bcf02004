/-! ===== a minute passes: walking ===== -/
theorem add_lit (b c : Nat) : nI b + (OfNat.ofNat c : Int32) = nI (b + c) := nI_add b c
theorem nne {a b : Nat} (ha : a < 100) (hb : b < 100) (h : ¬ a = b) : ¬ nI a = nI b := fun q => h ((nI_eq (by omega) (by omega)).mp q)
theorem mul9 (k : Nat) : (9 : Int32) * nI k = nI (9 * k) := by rw [show (9 : Int32) = nI 9 from rfl, pk_mul]
theorem cS.cg {σ : tp_M} {o : Nat} {P : PD} {A A' : AS} (h : cS σ o P A) (h1 : aMi A' = aMi A) (h2 : aMe A' = aMe A) (h3 : ∀ k, k < pw P → aAt A' k = aAt A k) (h4 : ∀ k, k < 4 → aRt A' k = aRt A k) (h5 : ∀ k, k < pw P → aTr A' k = aTr A k) (h6 : ∀ t, t < 8 → aPl A' t = aPl A t) : cS σ o P A' := by
  obtain ⟨g1, g2, g3, g4, g5⟩ := h
  exact ⟨⟨g1.1.trans h1.symm, g1.2.trans h2.symm⟩, fun k hk => by rw [h3 k hk]; exact g2 k hk, fun k hk => by rw [h4 k hk]; exact g3 k hk, fun k hk => by rw [h5 k hk]; exact g4 k hk, fun t ht => by rw [h6 t ht]; exact g5 t ht⟩
theorem mS.cg {σ : tp_M} {b : Nat} {P : PD} {A A' : AS} (h : mS σ b P A) (h1 : aMi A' = aMi A) (h2 : aMe A' = aMe A) (h3 : ∀ k, k < pw P → aAt A' k = aAt A k) (h4 : ∀ k, k < pw P → aRt A' k = aRt A k) (h5 : ∀ k, k < pw P → aTr A' k = aTr A k) (h6 : ∀ t, t < pt P → aPl A' t = aPl A t) : mS σ b P A' := by
  obtain ⟨g1, g2, g3, g4, g5⟩ := h
  exact ⟨⟨g1.1.trans h1.symm, g1.2.trans h2.symm⟩, fun k hk => by rw [h3 k hk]; exact g2 k hk, fun k hk => by rw [h4 k hk]; exact g3 k hk, fun k hk => by rw [h5 k hk]; exact g4 k hk, fun t ht => by rw [h6 t ht]; exact g5 t ht⟩
/-- one of them walks; all of them -/
def w1 (A : AS) (j : Nat) : AS := (A.1, A.2.1, va_up (aAt A) j (stp (aAt A j, aRt A j)).1, va_up (aRt A) j (aRt A j / 10), A.2.2.2.2)
def wlk (A : AS) : AS := (A.1, A.2.1, (fun k => (stp (aAt A k, aRt A k)).1), (fun k => aRt A k / 10), A.2.2.2.2)
def wn (A : AS) : Nat → AS
  | 0 => A
  | n + 1 => w1 (wn A n) n
theorem wn_at (A : AS) : ∀ n k, aAt (wn A n) k = (if k < n then (stp (aAt A k, aRt A k)).1 else aAt A k) ∧ aRt (wn A n) k = (if k < n then aRt A k / 10 else aRt A k)
  | 0, k => ⟨by rw [if_neg (Nat.not_lt_zero k)]; rfl, by rw [if_neg (Nat.not_lt_zero k)]; rfl⟩
  | n + 1, k => by
    have hk := wn_at A n k
    show va_up (aAt (wn A n)) n (stp (aAt (wn A n) n, aRt (wn A n) n)).1 k = _ ∧ va_up (aRt (wn A n)) n (aRt (wn A n) n / 10) k = _
    by_cases q : k = n
    · subst q
      rw [va_up_self, va_up_self, if_pos (by omega), if_pos (by omega)]
      rw [if_neg (Nat.lt_irrefl k), if_neg (Nat.lt_irrefl k)] at hk
      rw [hk.1, hk.2]
      exact ⟨rfl, rfl⟩
    · rw [va_up_ne _ _ q, va_up_ne _ _ q, hk.1, hk.2]
      by_cases z : k < n
      · rw [if_pos z, if_pos z, if_pos (by omega), if_pos (by omega)]; exact ⟨rfl, rfl⟩
      · rw [if_neg z, if_neg z, if_neg (by omega), if_neg (by omega)]; exact ⟨rfl, rfl⟩
theorem wn_rest (A : AS) : ∀ n, aMi (wn A n) = aMi A ∧ aMe (wn A n) = aMe A ∧ aTr (wn A n) = aTr A ∧ aPl (wn A n) = aPl A
  | 0 => ⟨rfl, rfl, rfl, rfl⟩
  | n + 1 => wn_rest A n
theorem okA_wlk {P : PD} {A : AS} (h : okA P A) : okA P (wlk A) := by
  obtain ⟨h1, h2, h3, h4⟩ := h
  refine ⟨h1, fun k hk => ?_, fun k hk => ?_, h4⟩
  · show (stp (aAt A k, aRt A k)).1 < pn P ∧ chn P 9 (stp (aAt A k, aRt A k)).1 (aRt A k / 10)
    have hc := (h2 k hk).2
    show (if aRt A k = 0 then aAt A k else aRt A k % 10 - 1) < pn P ∧ chn P 9 (if aRt A k = 0 then aAt A k else aRt A k % 10 - 1) (aRt A k / 10)
    by_cases h0 : aRt A k = 0
    · rw [if_pos h0, h0]
      exact ⟨(h2 k hk).1, Or.inl rfl⟩
    · rw [if_neg h0]
      rcases hc with hc | ⟨c1, c2, c3, c4⟩
      · exact absurd hc h0
      · exact ⟨by omega, chn_mono _ _ _ c4⟩
  · show aRt A k / 10 = 0
    rw [h3 k hk]
/-- who goes, changes the room -/
theorem went {P : PD} {A : AS} (hP : okP P) (h : okA P A) {k : Nat} (hk : k < pw P) : decide (aRt A k ≠ 0) = decide (aAt (wlk A) k ≠ aAt A k) := by
  have hc := (h.2.1 k hk).2
  have ha := (h.2.1 k hk).1
  have hn := hP.1.1
  show _ = decide ((if aRt A k = 0 then aAt A k else aRt A k % 10 - 1) ≠ aAt A k)
  by_cases h0 : aRt A k = 0
  · simp [h0]
  · rw [if_neg h0]
    rcases hc with hc | ⟨c1, c2, c3, c4⟩
    · exact absurd hc h0
    · have := (hP.2.1 (aAt A k) (aRt A k % 10 - 1) (by omega) (by omega) c3).2.1
      simp [h0, this]
section WK
variable {E : tp_E} {d : Nat} {σ : tp_M} {P : PD} {A : AS}
theorem mS.w1 {σ' : tp_M} {b j : Nat} (hw : pw P ≤ 4) (hp : pt P ≤ 8) (hj : j < pw P) (h : mS σ b P A) (h1 : σ' 1 (b + 2 + j) = nI (stp (aAt A j, aRt A j)).1) (h2 : σ' 1 (b + 6 + j) = nI (nd (aRt A j / 10))) (h3 : ∀ e, e < nd (aRt A j / 10) → σ' 1 (b + 10 + 9 * j + e) = nI (dg (aRt A j / 10) e)) (fr : ∀ i, i ≠ b + 2 + j → i ≠ b + 6 + j → (i < b + 10 + 9 * j ∨ b + 10 + 9 * j + 9 ≤ i) → σ' 1 i = σ 1 i) : mS σ' b P (w1 A j) := by
  obtain ⟨g1, g2, g3, g4, g5⟩ := h
  refine ⟨⟨by rw [fr _ (by omega) (by omega) (by omega)]; exact g1.1, by rw [fr _ (by omega) (by omega) (by omega)]; exact g1.2⟩, fun k hk => ?_, fun k hk => ?_, fun k hk => by rw [fr _ (by omega) (by omega) (by omega)]; exact g4 k hk, fun k hk => by rw [fr _ (by omega) (by omega) (by omega)]; exact g5 k hk⟩
  · show _ = nI (va_up (aAt A) j (stp (aAt A j, aRt A j)).1 k)
    by_cases q : k = j
    · rw [q, va_up_self]; exact h1
    · rw [va_up_ne _ _ q, fr _ (by omega) (by omega) (by omega)]; exact g2 k hk
  · show _ = nI (nd (va_up (aRt A) j (aRt A j / 10) k)) ∧ ∀ e, e < nd (va_up (aRt A) j (aRt A j / 10) k) → _ = nI (dg (va_up (aRt A) j (aRt A j / 10) k) e)
    by_cases q : k = j
    · rw [q, va_up_self]; exact ⟨h2, h3⟩
    · rw [va_up_ne _ _ q]
      refine ⟨by rw [fr _ (by omega) (by omega) (by omega)]; exact (g3 k hk).1, fun e he => ?_⟩
      have := nd_le (aRt A k)
      rw [fr _ (by omega) (by omega) (by omega)]
      exact (g3 k hk).2 e he
theorem sM_walks {Q : tp_M → Prop} {b j : Nat} (hP : okP P) (hb : b + 59 ≤ 1416) (hj : j < pw P) (hr : aRt A j < 1000000000) (hS : mS σ b P A) (h : ∀ σ', mS σ' b P (w1 A j) → σ' 14 j = nI (aAt A j) → σ' 15 j = bI (decide (aRt A j ≠ 0)) → (∀ q, q ≠ 1 → q ≠ 14 → q ≠ 15 → σ' q = σ q) → (∀ i, (i < b ∨ b + 58 ≤ i) → σ' 1 i = σ 1 i) → (∀ k, k ≠ j → σ' 14 k = σ 14 k ∧ σ' 15 k = σ 15 k) → Q σ') : Cv E TM yX10_walks iX10_walks (d + 1) [.ref 0, .int (nI b), .int (nI j)] σ Q := by
  have hw := hP.1.2.2.2.1
  have hp := hP.1.2.2.2.2.1
  have e2 : σ 1 (b + 2 + j) = nI (aAt A j) := hS.2.1 j hj
  have e6 : σ 1 (b + 6 + j) = nI (nd (aRt A j)) := (hS.2.2.1 j hj).1
  have hl := nd_le (aRt A j)
  refine eX10_walks _ _ ?_
  rw [add_lit _ 2, add_lit _ 6, nI_add, nI_add, vcl (by omega), vcl (by omega), vcl (by omega), uu3 _ _ _ (show 1 ≠ 14 by omega), e2, e6]
  refine ⟨vin (by omega) (by decide), vin (by omega) (by decide), vin (by omega) (by decide), ?_⟩
  generalize hσ1 : tp_u σ 14 j (nI (aAt A j)) = σ1
  have f1 : ∀ q, q ≠ 14 → σ1 q = σ q := fun q hq => by rw [← hσ1, uu3 _ _ _ hq]
  by_cases h0 : aRt A j = 0
  · rw [h0, if_pos (by decide)]
    refine bX10_walks_40 _ _ _ _ ?_
    rw [vcl (by omega), uu1, if_pos rfl]
    refine ⟨vin (by omega) (by decide), Or.inl rfl, vin (by omega) (by decide), h _ ?_ ?_ ?_ (fun q a b c => by rw [uu3 _ _ _ c, f1 q b]) (fun i a => by rw [uu3 _ _ _ (by omega), f1 1 (by omega)]) (fun k hk => ⟨?_, ?_⟩)⟩
    · have hS2 : mS (tp_u σ1 15 j 0) b P A := hS.fr hw hp (fun i a b => by rw [uu3 _ _ _ (by omega), f1 1 (by omega)])
      refine hS2.cg rfl rfl (fun k hk => ?_) (fun k hk => ?_) (fun k hk => rfl) (fun k hk => rfl)
      · show va_up (aAt A) j (if aRt A j = 0 then aAt A j else aRt A j % 10 - 1) k = aAt A k
        rw [if_pos h0]
        by_cases q : k = j
        · rw [q, va_up_self]
        · rw [va_up_ne _ _ q]
      · show va_up (aRt A) j (aRt A j / 10) k = aRt A k
        by_cases q : k = j
        · rw [q, va_up_self, h0]
        · rw [va_up_ne _ _ q]
    · rw [uu3 _ _ _ (by omega), ← hσ1, uu1]
    · rw [uu1, h0]; rfl
    · rw [uu3 _ _ _ (by omega), ← hσ1, uu2 _ _ _ hk]
    · rw [uu2 _ _ _ hk, f1 15 (by omega)]
  · have hnd : 1 ≤ nd (aRt A j) := by have := nd_0 hr; omega
    rw [if_neg (nI_nleL 0 hnd (by omega))]
    refine bX10_walks_40 _ _ _ _ ?_
    rw [vcl (by omega), uu1, if_neg (by decide), mul9, add_lit _ 10, nI_add, add_lit _ 2, nI_add, vcl (by omega), vcl (by omega), uu3 _ _ _ (show 1 ≠ 15 by omega), f1 1 (by omega)]
    have e10 : σ 1 (b + 10 + 9 * j) = nI (dg (aRt A j) 0) := (hS.2.2.1 j hj).2 0 (by omega)
    rw [e10]
    refine ⟨vin (by omega) (by decide), Or.inr rfl, vin (by omega) (by decide), vin (by omega) (by decide), vin (by omega) (by decide), ?_⟩
    generalize hσ2 : tp_u (tp_u σ1 15 j 1) 1 (b + 2 + j) (nI (dg (aRt A j) 0)) = σ2
    have f2 : ∀ q, q ≠ 1 → q ≠ 14 → q ≠ 15 → σ2 q = σ q := fun q a b c => by rw [← hσ2, uu3 _ _ _ a, uu3 _ _ _ c, f1 q b]
    have f21 : ∀ i, i ≠ b + 2 + j → σ2 1 i = σ 1 i := fun i hi => by rw [← hσ2, uu2 _ _ _ hi, uu3 _ _ _ (by omega), f1 1 (by omega)]
    have key : ∀ m i s, i + m = 8 → (∀ q, q ≠ 1 → s q = σ2 q) → (∀ k, (k < b + 10 + 9 * j ∨ b + 10 + 9 * j + 9 ≤ k) → s 1 k = σ2 1 k) → (∀ e, e < i → s 1 (b + 10 + 9 * j + e) = σ 1 (b + 10 + 9 * j + (e + 1))) → (∀ e, i ≤ e → e < 9 → s 1 (b + 10 + 9 * j + e) = σ 1 (b + 10 + 9 * j + e)) → Wv E TM iX10_walks (d + 1) Q 76 [(0, .ref 0), (1, .int (nI b)), (2, .int (nI j)), (3, .int (nI i))] [] s := by
      intro m
      induction m with
      | zero =>
        intro i s hi g1 g2 g3 g4
        rw [Nat.add_zero] at hi
        subst hi
        refine bX10_walks_76 _ _ _ ?_
        rw [if_pos (by decide), add_lit _ 6, nI_add, vcl (by omega), g2 (b + 6 + j) (by omega), f21 _ (by omega), e6, nI_sub1 hnd]
        refine ⟨vin (by omega) (by decide), vin (by omega) (by decide), h _ (mS.w1 hw hp hj hS ?_ ?_ (fun e he => ?_) (fun i a1 a2 a3 => ?_)) ?_ ?_ (fun q a1 a2 a3 => ?_) (fun i a => ?_) (fun k hk => ⟨?_, ?_⟩)⟩
        · rw [uu2 _ _ _ (by omega), g2 _ (by omega), ← hσ2, uu1, dg_0]
          show _ = nI (if aRt A j = 0 then aAt A j else aRt A j % 10 - 1)
          rw [if_neg h0]
        · rw [uu1, nd_div hr]
        · rw [nd_div hr] at he
          rw [uu2 _ _ _ (by omega), g3 e (by omega), dg_div]
          exact (hS.2.2.1 j hj).2 (e + 1) (by show e + 1 < nd (aRt A j); omega)
        · rw [uu2 _ _ _ a2, g2 i a3, f21 i a1]
        · rw [uu3 _ _ _ (by omega), g1 14 (by omega), ← hσ2, uu3 _ _ _ (by omega), uu3 _ _ _ (by omega), ← hσ1, uu1]
        · rw [uu3 _ _ _ (by omega), g1 15 (by omega), ← hσ2, uu3 _ _ _ (by omega), uu1, decide_eq_true h0]; rfl
        · rw [uu3 _ _ _ a1, g1 q a1, f2 q a1 a2 a3]
        · rw [uu2 _ _ _ (by omega), g2 i (by omega), f21 i (by omega)]
        · rw [uu3 _ _ _ (by omega), g1 14 (by omega), ← hσ2, uu3 _ _ _ (by omega), uu3 _ _ _ (by omega), ← hσ1, uu2 _ _ _ hk]
        · rw [uu3 _ _ _ (by omega), g1 15 (by omega), ← hσ2, uu3 _ _ _ (by omega), uu2 _ _ _ hk, f1 15 (by omega)]
      | succ m ih =>
        intro i s hi g1 g2 g3 g4
        refine bX10_walks_76 _ _ _ ?_
        rw [if_neg (nle_lit 8 (by omega) (by decide)), mul9, add_lit _ 10, nI_add, nI_add, nI_1, nI_1, vcl (by omega), vcl (by omega), show b + 10 + 9 * j + i + 1 = b + 10 + 9 * j + (i + 1) by omega, g4 (i + 1) (by omega) (by omega)]
        refine ⟨vin (by omega) (by decide), vin (by omega) (by decide), ih (i + 1) _ (by omega) (fun q a => by rw [uu3 _ _ _ a]; exact g1 q a) (fun k a => by rw [uu2 _ _ _ (by omega)]; exact g2 k a) (fun e he => ?_) (fun e a1 a2 => ?_)⟩
        · by_cases q : e = i
          · subst q; rw [uu1]
          · rw [uu2 _ _ _ (by omega)]; exact g3 e (by omega)
        · rw [uu2 _ _ _ (by omega)]; exact g4 e (by omega) a2
    refine key 8 0 σ2 rfl (fun q _ => rfl) (fun k _ => rfl) (fun e he => absurd he (Nat.not_lt_zero e)) (fun e a1 a2 => f21 _ (by omega))
end WK
/-! ===== meeting ===== -/
def met (b1 a1 b2 a2 : Nat) : Bool := decide (¬ (b1 = a1 ∧ b2 = a2) ∧ (a1 = a2 ∨ (a1 = b2 ∧ a2 = b1)))
section MT
variable {E : tp_E} {d : Nat} {σ : tp_M} {Q : Int32 → tp_M → Prop}
theorem sC_met {b1 a1 b2 a2 : Nat} (h1 : b1 < 100) (h2 : a1 < 100) (h3 : b2 < 100) (h4 : a2 < 100) (h : Q (bI (met b1 a1 b2 a2)) σ) : Ci E TC yX0_meetBetween iX0_meetBetween (d + 1) [.int (nI b1), .int (nI a1), .int (nI b2), .int (nI a2)] σ Q := by
  have fin : ∀ s : Int32, (s = if b1 = a1 ∧ b2 = a2 then 0 else 1) → Wi E TC iX0_meetBetween (d + 1) Q 15 [(0, .int (nI b1)), (1, .int (nI a1)), (2, .int (nI b2)), (3, .int (nI a2))] [.int s] σ := by
    intro s hs
    refine bX0_meetBetween_15 _ _ _ _ _ ?_
    rw [hs]
    by_cases c1 : b1 = a1 ∧ b2 = a2
    · rw [if_pos c1, if_pos rfl]
      rw [show met b1 a1 b2 a2 = false from decide_eq_false (fun q => q.1 c1)] at h
      exact h
    · rw [if_neg c1, if_neg (by decide)]
      by_cases c2 : a1 = a2
      · rw [if_pos (congrArg nI c2)]
        rw [show met b1 a1 b2 a2 = true from decide_eq_true ⟨c1, Or.inl c2⟩] at h
        exact h
      · rw [if_neg (nne h2 h4 c2)]
        by_cases c3 : a1 = b2
        · rw [if_pos (congrArg nI c3)]
          by_cases c4 : a2 = b1
          · rw [if_pos (congrArg nI c4)]
            rw [show met b1 a1 b2 a2 = true from decide_eq_true ⟨c1, Or.inr ⟨c3, c4⟩⟩] at h
            exact h
          · rw [if_neg (nne h4 h1 c4)]
            rw [show met b1 a1 b2 a2 = false from decide_eq_false (fun q => by rcases q.2 with q | q; exact c2 q; exact c4 q.2)] at h
            exact h
        · rw [if_neg (nne h2 h3 c3)]
          rw [show met b1 a1 b2 a2 = false from decide_eq_false (fun q => by rcases q.2 with q | q; exact c2 q; exact c3 q.1)] at h
          exact h
  refine eX0_meetBetween _ _ _ _ ?_
  by_cases c1 : b1 = a1
  · rw [if_pos (congrArg nI c1)]
    by_cases c2 : b2 = a2
    · rw [if_pos (congrArg nI c2)]; exact fin 0 (by rw [if_pos ⟨c1, c2⟩])
    · rw [if_neg (nne h3 h4 c2)]; exact fin 1 (by rw [if_neg (fun q => c2 q.2)])
  · rw [if_neg (nne h1 h2 c1)]; exact fin 1 (by rw [if_neg (fun q => c1 q.1)])
theorem sM_met {b i j a1 b1 a2 b2 : Nat} (hb : b + 59 ≤ 1416) (hi : i < 4) (hj : j < 4) (h1 : σ 1 (b + 2 + i) = nI a1) (h2 : σ 1 (b + 2 + j) = nI a2) (h3 : σ 14 i = nI b1) (h4 : σ 14 j = nI b2) (h5 : σ 15 i = bI (decide (a1 ≠ b1))) (h6 : σ 15 j = bI (decide (a2 ≠ b2))) (l1 : b1 < 100) (l2 : a1 < 100) (l3 : b2 < 100) (l4 : a2 < 100) (h : Q (bI (met b1 a1 b2 a2)) σ) : Ci E TM yX10_haveMet iX10_haveMet (d + 1) [.ref 0, .int (nI b), .int (nI i), .int (nI j)] σ Q := by
  have z : ∀ x y : Nat, (bI (decide (x ≠ y)) = 0) ↔ x = y := fun x y => by
    by_cases q : x = y
    · simp [q, bI]
    · simp [q, bI]
  have fin : ∀ s : Int32, (s = if a1 = a2 ∧ ¬ (b1 = a1 ∧ b2 = a2) then 1 else 0) → Wi E TM iX10_haveMet (d + 1) Q 46 [(0, .ref 0), (1, .int (nI b)), (2, .int (nI i)), (3, .int (nI j))] [.int s] σ := by
    intro s hs
    have r0 : ¬ (b1 ≠ a1 ∧ b2 ≠ a2 ∧ a1 = b2 ∧ a2 = b1) → (if s = 0 then Q 0 σ else Q 1 σ) := fun hn => by
      rw [hs]
      by_cases c : a1 = a2 ∧ ¬ (b1 = a1 ∧ b2 = a2)
      · rw [if_pos c, if_neg (by decide)]
        rw [show met b1 a1 b2 a2 = true from decide_eq_true ⟨c.2, Or.inl c.1⟩] at h
        exact h
      · rw [if_neg c, if_pos rfl]
        rw [show met b1 a1 b2 a2 = false from decide_eq_false (fun q => by omega)] at h
        exact h
    refine bX10_haveMet_46 _ _ _ _ ?_
    rw [add_lit _ 2, nI_add, nI_add, vcl (by omega), vcl (by omega), vcl (by omega), vcl (by omega), h1, h2, h3, h4, h5, h6]
    refine ⟨vin (by omega) (by decide), ?_⟩
    by_cases c1 : a1 = b1
    · rw [if_pos ((z _ _).mpr c1)]
      exact r0 (by omega)
    · rw [if_neg (fun q => c1 ((z _ _).mp q))]
      refine ⟨vin (by omega) (by decide), ?_⟩
      by_cases c2 : a2 = b2
      · rw [if_pos ((z _ _).mpr c2)]
        exact r0 (by omega)
      · rw [if_neg (fun q => c2 ((z _ _).mp q))]
        refine ⟨vin (by omega) (by decide), vin (by omega) (by decide), ?_⟩
        by_cases c3 : a1 = b2
        · rw [if_pos (congrArg nI c3)]
          refine ⟨vin (by omega) (by decide), vin (by omega) (by decide), ?_⟩
          by_cases c4 : a2 = b1
          · rw [if_pos (congrArg nI c4)]
            rw [show met b1 a1 b2 a2 = true from decide_eq_true ⟨by omega, Or.inr ⟨c3, c4⟩⟩] at h
            by_cases c5 : s = 0
            · rw [if_pos c5]; exact h
            · rw [if_neg c5]; exact h
          · rw [if_neg (nne l4 l1 c4)]
            exact r0 (by omega)
        · rw [if_neg (nne l2 l3 c3)]
          exact r0 (by omega)
  refine eX10_haveMet _ _ _ ?_
  rw [add_lit _ 2, nI_add, nI_add, vcl (by omega), vcl (by omega), vcl (by omega), vcl (by omega), h1, h2, h5, h6]
  refine ⟨vin (by omega) (by decide), vin (by omega) (by decide), ?_⟩
  by_cases c1 : a1 = a2
  · rw [if_pos (congrArg nI c1)]
    refine ⟨vin (by omega) (by decide), ?_⟩
    by_cases c2 : a1 = b1
    · rw [if_pos ((z _ _).mpr c2)]
      refine ⟨vin (by omega) (by decide), ?_⟩
      by_cases c3 : a2 = b2
      · rw [if_pos ((z _ _).mpr c3)]
        exact fin 0 (by rw [if_neg (by omega)])
      · rw [if_neg (fun q => c3 ((z _ _).mp q))]
        exact fin 1 (by rw [if_pos (by omega)])
    · rw [if_neg (fun q => c2 ((z _ _).mp q))]
      exact fin 1 (by rw [if_pos (by omega)])
  · rw [if_neg (nne l2 l4 c1)]
    exact fin 0 (by rw [if_neg (fun q => c1 q.1)])
end MT

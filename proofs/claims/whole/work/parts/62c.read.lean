/-! ===== reading: the class's clause ===== -/
theorem full_111 {F : PD} (h : full F 111 = false) : po F < 4 := by
  unfold full at h
  rw [if_pos rfl] at h
  by_cases c : po F < 4
  · exact c
  · rw [decide_eq_false c] at h; cases h
theorem full_112 {F : PD} (h : full F 112 = false) : pp F < 12 := by
  unfold full at h
  rw [if_neg (by decide), if_pos rfl] at h
  by_cases c : pp F < 12
  · exact c
  · rw [decide_eq_false c] at h; cases h
theorem full_116 {F : PD} (h : full F 116 = false) : pt F < 8 := by
  unfold full at h
  rw [if_neg (by decide), if_neg (by decide), if_pos rfl] at h
  by_cases c : pt F < 8
  · exact c
  · rw [decide_eq_false c] at h; cases h
theorem full_119 {F : PD} (h : full F 119 = false) : pw F < 4 := by
  unfold full at h
  rw [if_neg (by decide), if_neg (by decide), if_neg (by decide), if_pos rfl] at h
  by_cases c : pw F < 4
  · exact c
  · rw [decide_eq_false c] at h; cases h
theorem full_104 {F : PD} (h : full F 104 = false) : pn F = 0 := by
  unfold full at h
  rw [if_neg (by decide), if_neg (by decide), if_neg (by decide), if_neg (by decide)] at h
  by_cases c : pn F ≤ 0
  · omega
  · rw [decide_eq_false c] at h; cases h
section CLC
variable {E : tp_E} {d : Nat} {σ : tp_M} {n : Nat} {tx : Nat → Nat} {F : PD}
theorem sC_add {Q : tp_M → Prop} {L a b : Nat} (hF : okP F) (hc : cP σ 28 F) (h5 : five L) (hf : full F L = false) (ha : L = 112 → a < pn F ∧ b < pn F ∧ a ≠ b) (h : ∀ σ', cP σ' 28 (addP F L a b) → (∀ q, ¬ (28 ≤ q ∧ q ≤ 35) → σ' q = σ q) → Q σ') : Cv E TC yX5_add iX5_add (d + 1 + 1 + 1) [.ref 28, .int (nI L), .int (nI a), .int (nI b)] σ Q := by
  obtain ⟨b1, b2, b3, b4, b5, b6⟩ := hF.1
  have hc' := hc
  obtain ⟨⟨c1, c2, c3, c4, c5, c6⟩, cJ, cW, cTh, cO⟩ := hc'
  refine eX5_add _ _ _ (sC_full hF hc (by rcases h5 with q | q | q | q | q <;> omega) ?_)
  rw [hf, if_pos (show bI false = 0 from rfl)]
  unfold addP at h
  rcases h5 with k | k | k | k | k
  · subst k
    rw [if_neg (by decide), if_neg (by decide), if_neg (by decide), if_neg (by decide)] at h
    rw [if_neg (show ¬ nI 104 = 111 by decide), if_neg (show ¬ nI 104 = 112 by decide), if_neg (show ¬ nI 104 = 116 by decide), if_neg (show ¬ nI 104 = 119 by decide)]
    refine h _ ⟨⟨?_, ?_, ?_, ?_, ?_, ?_⟩, fun r hr => ?_, fun k hk => ?_, fun k hk => ?_, fun k hk => ?_⟩ (fun q hq => by rw [uu3 _ _ _ (by omega), uu3 _ _ _ (by omega)])
    · rw [uu2 _ _ _ (by omega), uu1]
    · rw [uu1]
    · rw [uu2 _ _ _ (by omega), uu2 _ _ _ (by omega)]; exact c3
    · rw [uu2 _ _ _ (by omega), uu2 _ _ _ (by omega)]; exact c4
    · rw [uu2 _ _ _ (by omega), uu2 _ _ _ (by omega)]; exact c5
    · rw [uu2 _ _ _ (by omega), uu2 _ _ _ (by omega)]; exact c6
    · rw [uu3 _ _ _ (by omega), uu3 _ _ _ (by omega)]; exact cJ r hr
    · rw [uu3 _ _ _ (by omega), uu3 _ _ _ (by omega), uu3 _ _ _ (by omega), uu3 _ _ _ (by omega)]; exact cW k hk
    · rw [uu3 _ _ _ (by omega), uu3 _ _ _ (by omega), uu3 _ _ _ (by omega), uu3 _ _ _ (by omega)]; exact cTh k hk
    · rw [uu3 _ _ _ (by omega), uu3 _ _ _ (by omega), uu3 _ _ _ (by omega), uu3 _ _ _ (by omega)]; exact cO k hk
  · subst k
    obtain ⟨ha1, hb1, hab⟩ := ha rfl
    rw [if_neg (by decide), if_pos rfl] at h
    rw [if_neg (show ¬ nI 112 = 111 by decide), if_pos (show nI 112 = 112 from rfl)]
    refine eX5_join _ _ (eX5_hasRoom_28 _ (if3_t (n := pn F) (m := 8) c1 rfl ha1 b1 (by decide) ?_))
    rw [if_neg (by decide), vcl (by omega), show σ 29 a = pJ F a from cJ a (by omega)]
    refine ⟨vin (by omega) (by decide), vin (by omega) (by decide), ?_⟩
    refine eX5_join _ _ (eX5_hasRoom_28 _ (if3_t (n := pn F) (m := 8) (by rw [uu3 _ _ _ (by omega)]; exact c1) rfl hb1 b1 (by decide) ?_))
    rw [if_neg (by decide), vcl (by omega), uu2 _ _ _ (Ne.symm hab), show σ 29 b = pJ F b from cJ b (by omega)]
    refine ⟨vin (by omega) (by decide), vin (by omega) (by decide), ?_⟩
    rw [uu3 _ _ _ (show 28 ≠ 29 by omega), uu3 _ _ _ (show 28 ≠ 29 by omega), c3, nI_1]
    refine h _ ⟨⟨?_, ?_, ?_, ?_, ?_, ?_⟩, fun r hr => ?_, fun k hk => ?_, fun k hk => ?_, fun k hk => ?_⟩ (fun q hq => by rw [uu3 _ _ _ (by omega), uu3 _ _ _ (by omega), uu3 _ _ _ (by omega)])
    · rw [uu2 _ _ _ (by omega), uu3 _ _ _ (by omega), uu3 _ _ _ (by omega)]; exact c1
    · rw [uu2 _ _ _ (by omega), uu3 _ _ _ (by omega), uu3 _ _ _ (by omega)]; exact c2
    · rw [uu1]
    · rw [uu2 _ _ _ (by omega), uu3 _ _ _ (by omega), uu3 _ _ _ (by omega)]; exact c4
    · rw [uu2 _ _ _ (by omega), uu3 _ _ _ (by omega), uu3 _ _ _ (by omega)]; exact c5
    · rw [uu2 _ _ _ (by omega), uu3 _ _ _ (by omega), uu3 _ _ _ (by omega)]; exact c6
    · rw [uu3 _ _ _ (by omega)]
      show tp_u _ 29 b _ 29 r = va_up (va_up (pJ F) a (pJ F a ||| bit b)) b (pJ F b ||| bit a) r
      by_cases q : r = b
      · rw [q, uu1, va_up_self]
      · rw [uu2 _ _ _ q, va_up_ne _ _ q]
        by_cases q2 : r = a
        · rw [q2, uu1, va_up_self]
        · rw [uu2 _ _ _ q2, va_up_ne _ _ q2]; exact cJ r hr
    · rw [uu3 _ _ _ (by omega), uu3 _ _ _ (by omega), uu3 _ _ _ (by omega), uu3 _ _ _ (by omega), uu3 _ _ _ (by omega), uu3 _ _ _ (by omega)]; exact cW k hk
    · rw [uu3 _ _ _ (by omega), uu3 _ _ _ (by omega), uu3 _ _ _ (by omega), uu3 _ _ _ (by omega), uu3 _ _ _ (by omega), uu3 _ _ _ (by omega)]; exact cTh k hk
    · rw [uu3 _ _ _ (by omega), uu3 _ _ _ (by omega), uu3 _ _ _ (by omega), uu3 _ _ _ (by omega), uu3 _ _ _ (by omega), uu3 _ _ _ (by omega)]; exact cO k hk
  · subst k
    have hw := full_119 hf
    rw [if_neg (by decide), if_neg (by decide), if_neg (by decide), if_pos rfl] at h
    rw [if_neg (show ¬ nI 119 = 111 by decide), if_neg (show ¬ nI 119 = 112 by decide), if_neg (show ¬ nI 119 = 116 by decide), if_pos (show nI 119 = 119 from rfl), uu3 _ _ _ (show 28 ≠ 31 by omega), uu3 _ _ _ (show 28 ≠ 30 by omega), c4, vcl (by omega), nI_1]
    refine ⟨vin (by omega) (by decide), vin (by omega) (by decide), h _ ⟨⟨?_, ?_, ?_, ?_, ?_, ?_⟩, fun r hr => ?_, fun k hk => ⟨?_, ?_⟩, fun k hk => ?_, fun k hk => ?_⟩ (fun q hq => by rw [uu3 _ _ _ (by omega), uu3 _ _ _ (by omega), uu3 _ _ _ (by omega)])⟩
    · rw [uu2 _ _ _ (by omega), uu3 _ _ _ (by omega), uu3 _ _ _ (by omega)]; exact c1
    · rw [uu2 _ _ _ (by omega), uu3 _ _ _ (by omega), uu3 _ _ _ (by omega)]; exact c2
    · rw [uu2 _ _ _ (by omega), uu3 _ _ _ (by omega), uu3 _ _ _ (by omega)]; exact c3
    · rw [uu1]
    · rw [uu2 _ _ _ (by omega), uu3 _ _ _ (by omega), uu3 _ _ _ (by omega)]; exact c5
    · rw [uu2 _ _ _ (by omega), uu3 _ _ _ (by omega), uu3 _ _ _ (by omega)]; exact c6
    · rw [uu3 _ _ _ (by omega), uu3 _ _ _ (by omega), uu3 _ _ _ (by omega)]; exact cJ r hr
    · show tp_u (tp_u (tp_u σ 30 (pw F) (nI a)) 31 (pw F) (nI b)) 28 3 _ 30 k = nI (va_up (pS F) (pw F) a k)
      have hk : k < pw F + 1 := hk
      rw [uu3 _ _ _ (by omega), uu3 _ _ _ (by omega)]
      by_cases q : k = pw F
      · rw [q, uu1, va_up_self]
      · rw [uu2 _ _ _ q, va_up_ne _ _ q]; exact (cW k (by omega)).1
    · show tp_u (tp_u (tp_u σ 30 (pw F) (nI a)) 31 (pw F) (nI b)) 28 3 _ 31 k = nI (va_up (pC F) (pw F) b k)
      have hk : k < pw F + 1 := hk
      rw [uu3 _ _ _ (by omega)]
      by_cases q : k = pw F
      · rw [q, uu1, va_up_self]
      · rw [uu2 _ _ _ q, uu3 _ _ _ (by omega), va_up_ne _ _ q]; exact (cW k (by omega)).2
    · rw [uu3 _ _ _ (by omega), uu3 _ _ _ (by omega), uu3 _ _ _ (by omega), uu3 _ _ _ (by omega), uu3 _ _ _ (by omega), uu3 _ _ _ (by omega)]; exact cTh k hk
    · rw [uu3 _ _ _ (by omega), uu3 _ _ _ (by omega), uu3 _ _ _ (by omega), uu3 _ _ _ (by omega), uu3 _ _ _ (by omega), uu3 _ _ _ (by omega)]; exact cO k hk
  · subst k
    have hw := full_116 hf
    rw [if_neg (by decide), if_neg (by decide), if_pos rfl] at h
    rw [if_neg (show ¬ nI 116 = 111 by decide), if_neg (show ¬ nI 116 = 112 by decide), if_pos (show nI 116 = 116 from rfl), uu3 _ _ _ (show 28 ≠ 33 by omega), uu3 _ _ _ (show 28 ≠ 32 by omega), c5, vcl (by omega), nI_1]
    refine ⟨vin (by omega) (by decide), vin (by omega) (by decide), h _ ⟨⟨?_, ?_, ?_, ?_, ?_, ?_⟩, fun r hr => ?_, fun k hk => ?_, fun k hk => ⟨?_, ?_⟩, fun k hk => ?_⟩ (fun q hq => by rw [uu3 _ _ _ (by omega), uu3 _ _ _ (by omega), uu3 _ _ _ (by omega)])⟩
    · rw [uu2 _ _ _ (by omega), uu3 _ _ _ (by omega), uu3 _ _ _ (by omega)]; exact c1
    · rw [uu2 _ _ _ (by omega), uu3 _ _ _ (by omega), uu3 _ _ _ (by omega)]; exact c2
    · rw [uu2 _ _ _ (by omega), uu3 _ _ _ (by omega), uu3 _ _ _ (by omega)]; exact c3
    · rw [uu2 _ _ _ (by omega), uu3 _ _ _ (by omega), uu3 _ _ _ (by omega)]; exact c4
    · rw [uu1]
    · rw [uu2 _ _ _ (by omega), uu3 _ _ _ (by omega), uu3 _ _ _ (by omega)]; exact c6
    · rw [uu3 _ _ _ (by omega), uu3 _ _ _ (by omega), uu3 _ _ _ (by omega)]; exact cJ r hr
    · rw [uu3 _ _ _ (by omega), uu3 _ _ _ (by omega), uu3 _ _ _ (by omega), uu3 _ _ _ (by omega), uu3 _ _ _ (by omega), uu3 _ _ _ (by omega)]; exact cW k hk
    · show tp_u (tp_u (tp_u σ 32 (pt F) (nI a)) 33 (pt F) (nI b)) 28 4 _ 32 k = nI (va_up (pG F) (pt F) a k)
      have hk : k < pt F + 1 := hk
      rw [uu3 _ _ _ (by omega), uu3 _ _ _ (by omega)]
      by_cases q : k = pt F
      · rw [q, uu1, va_up_self]
      · rw [uu2 _ _ _ q, va_up_ne _ _ q]; exact (cTh k (by omega)).1
    · show tp_u (tp_u (tp_u σ 32 (pt F) (nI a)) 33 (pt F) (nI b)) 28 4 _ 33 k = nI (va_up (pV F) (pt F) b k)
      have hk : k < pt F + 1 := hk
      rw [uu3 _ _ _ (by omega)]
      by_cases q : k = pt F
      · rw [q, uu1, va_up_self]
      · rw [uu2 _ _ _ q, uu3 _ _ _ (by omega), va_up_ne _ _ q]; exact (cTh k (by omega)).2
    · rw [uu3 _ _ _ (by omega), uu3 _ _ _ (by omega), uu3 _ _ _ (by omega), uu3 _ _ _ (by omega), uu3 _ _ _ (by omega), uu3 _ _ _ (by omega)]; exact cO k hk
  · subst k
    have hw := full_111 hf
    rw [if_pos rfl] at h
    rw [if_pos (show nI 111 = 111 from rfl), uu3 _ _ _ (show 28 ≠ 35 by omega), uu3 _ _ _ (show 28 ≠ 34 by omega), c6, vcl (by omega), nI_1]
    refine ⟨vin (by omega) (by decide), vin (by omega) (by decide), h _ ⟨⟨?_, ?_, ?_, ?_, ?_, ?_⟩, fun r hr => ?_, fun k hk => ?_, fun k hk => ?_, fun k hk => ⟨?_, ?_⟩⟩ (fun q hq => by rw [uu3 _ _ _ (by omega), uu3 _ _ _ (by omega), uu3 _ _ _ (by omega)])⟩
    · rw [uu2 _ _ _ (by omega), uu3 _ _ _ (by omega), uu3 _ _ _ (by omega)]; exact c1
    · rw [uu2 _ _ _ (by omega), uu3 _ _ _ (by omega), uu3 _ _ _ (by omega)]; exact c2
    · rw [uu2 _ _ _ (by omega), uu3 _ _ _ (by omega), uu3 _ _ _ (by omega)]; exact c3
    · rw [uu2 _ _ _ (by omega), uu3 _ _ _ (by omega), uu3 _ _ _ (by omega)]; exact c4
    · rw [uu2 _ _ _ (by omega), uu3 _ _ _ (by omega), uu3 _ _ _ (by omega)]; exact c5
    · rw [uu1]
    · rw [uu3 _ _ _ (by omega), uu3 _ _ _ (by omega), uu3 _ _ _ (by omega)]; exact cJ r hr
    · rw [uu3 _ _ _ (by omega), uu3 _ _ _ (by omega), uu3 _ _ _ (by omega), uu3 _ _ _ (by omega), uu3 _ _ _ (by omega), uu3 _ _ _ (by omega)]; exact cW k hk
    · rw [uu3 _ _ _ (by omega), uu3 _ _ _ (by omega), uu3 _ _ _ (by omega), uu3 _ _ _ (by omega), uu3 _ _ _ (by omega), uu3 _ _ _ (by omega)]; exact cTh k hk
    · show tp_u (tp_u (tp_u σ 34 (po F) (nI a)) 35 (po F) (nI b)) 28 5 _ 34 k = nI (va_up (pR F) (po F) a k)
      have hk : k < po F + 1 := hk
      rw [uu3 _ _ _ (by omega), uu3 _ _ _ (by omega)]
      by_cases q : k = po F
      · rw [q, uu1, va_up_self]
      · rw [uu2 _ _ _ q, va_up_ne _ _ q]; exact (cO k (by omega)).1
    · show tp_u (tp_u (tp_u σ 34 (po F) (nI a)) 35 (po F) (nI b)) 28 5 _ 35 k = nI (va_up (pM F) (po F) b k)
      have hk : k < po F + 1 := hk
      rw [uu3 _ _ _ (by omega)]
      by_cases q : k = po F
      · rw [q, uu1, va_up_self]
      · rw [uu2 _ _ _ q, uu3 _ _ _ (by omega), va_up_ne _ _ q]; exact (cO k (by omega)).2
/-- what a clause leaves -/
def cOut (σ : tp_M) (n : Nat) (x : (Nat × Nat) ⊕ (PD × Nat)) (Q : tp_M → Prop) : Prop := match x with
  | .inl e => ∀ σ', rF σ' n e.1 e.2 → (∀ q, q ≠ 27 → σ' q = σ q) → Q σ'
  | .inr y => ∀ σ', rS σ' n y.2 → cP σ' 28 y.1 → (∀ q, q ≠ 27 → ¬ (28 ≤ q ∧ q ≤ 35) → σ' q = σ q) → Q σ'
theorem nI_nz {c : Nat} (h : c ≠ 0) (h4 : c ≤ 4) : ¬ nI c = 0 := fun q => h ((nI_eqL 0 (by omega) (by decide)).mp q)
theorem sC_clause {Q : tp_M → Prop} {p : Nat} (hn : n ≤ 240) (hx : ∀ i, i < n → tx i ≤ 255) (hp : p < n) (hr : rS σ n p) (ht : rT σ n tx) (hF : okP F) (hc : cP σ 28 F) (h : cOut σ n (clz n tx F p) Q) : Cv E TC yX6_readClause iX6_readClause (d + 1 + 1 + 1 + 1) [.ref 27] σ Q := by
  obtain ⟨r2, r4, r3, r5⟩ := hr
  have hL := hx p hp
  have e : ∀ k : Nat, k < 256 → (nI (tx p) = (OfNat.ofNat k : Int32) ↔ tx p = k) := fun k hk => nI_eqL k (by omega) (by omega)
  have hn8 := hF.1.1
  refine eX6_readClause ?_
  rw [r5]
  refine sC_letter hn r2 ht (by omega) ?_
  rw [show chr n tx p = nI (tx p) from if_pos hp]
  refine sC_flt hF hc hL ?_
  unfold clz at h
  by_cases hf : flt F (tx p) = 0
  · rw [if_neg (fun q => q hf)] at h
    obtain ⟨h5, h1, hfu⟩ := flt_0 hf
    rw [hf, if_pos (show nI 0 = 0 from rfl), r5, nI_1]
    -- the fail after a number
    have bad : ∀ (s' : tp_M) (v w : Int32) (x : Nat × Nat), x.1 ≠ 0 → x.1 ≤ 4 → rF s' n x.1 x.2 → Q s' → Wv E TC iX6_readClause (d + 1 + 1 + 1 + 1) Q 79 [(0, .ref 27), (1, .int (nI (tx p))), (3, .int v)] [.int w] s' := by
      intro s' v w x hx0 hx4 hrf hq
      refine bX6_readClause_79 _ _ _ ?_
      rw [hrf.2.1, if_neg (nI_nz hx0 hx4)]
      refine bX6_readClause_125 _ _ _ ?_
      rw [hrf.2.1, if_neg (nI_nz hx0 hx4), if_neg (nI_nz hx0 hx4)]
      exact hq
    have bad2 : ∀ (s' : tp_M) (v w : Int32) (x : Nat × Nat), x.1 ≠ 0 → x.1 ≤ 4 → rF s' n x.1 x.2 → Q s' → Wv E TC iX6_readClause (d + 1 + 1 + 1 + 1) Q 125 [(0, .ref 27), (1, .int (nI (tx p))), (3, .int v), (4, .int w)] [] s' := by
      intro s' v w x hx0 hx4 hrf hq
      refine bX6_readClause_125 _ _ _ ?_
      rw [hrf.2.1, if_neg (nI_nz hx0 hx4), if_neg (nI_nz hx0 hx4)]
      exact hq
    have hfm : fm F (tx p) < 2147483648 := by unfold fm; by_cases k1 : tx p = 104 <;> by_cases k2 : tx p = 116 <;> simp [k1, k2] <;> omega
    have hfl : fl (tx p) < 2147483648 := by unfold fl; by_cases k1 : tx p = 104 <;> by_cases k2 : tx p = 116 <;> simp [k1, k2]
    have hsl : sl (tx p) < 2147483648 := by unfold sl; by_cases k1 : tx p = 119 <;> simp [k1]
    have hsm : sm F (tx p) < 2147483648 := by unfold sm; by_cases k1 : tx p = 112 <;> by_cases k2 : tx p = 119 <;> simp [k1, k2] <;> omega
    generalize hs1 : tp_u σ 27 5 (nI (p + 1)) = s1
    have f1 : ∀ q, q ≠ 27 → s1 q = σ q := fun q hq => by rw [← hs1, uu3 _ _ _ hq]
    have rs1 : rS s1 n (p + 1) := ⟨by rw [← hs1, uu2 _ _ _ (by omega)]; exact r2, by rw [← hs1, uu2 _ _ _ (by omega)]; exact r4, by rw [← hs1, uu2 _ _ _ (by omega)]; exact r3, by rw [← hs1, uu1]⟩
    refine sC_fl hL (sC_fm (F := F) hL (by rw [f1 28 (by omega)]; exact hc.1.1) h1 ?_)
    refine sC_number hn hx (by omega) rs1 (fun i hi => by rw [f1 36 (by omega)]; exact ht i hi) hfl hfm ?_
    unfold cl0 at h
    cases hn1 : nmb n tx (fl (tx p)) (fm F (tx p)) (p + 1) with
    | inl x =>
      rw [hn1] at h
      obtain ⟨x0, x4⟩ := nmb_err hn1
      intro v s2 rf2 f2
      rw [rf2.2.1, if_neg (nI_nz x0 x4)]
      exact bad s2 v 0 x x0 x4 rf2 (h s2 rf2 (fun q hq => by rw [f2 q hq, f1 q hq]))
    | inr x =>
      rw [hn1] at h
      obtain ⟨x1, x2, x3, x4, x5⟩ := nmb_in hx (by omega) hn1
      intro s2 rs2 e62 f2
      rw [rs2.2.1, if_pos rfl]
      have g2 : ∀ q, q ≠ 27 → s2 q = σ q := fun q hq => by rw [f2 q hq, f1 q hq]
      refine sC_sl hL (sC_sm (F := F) hL (by rw [g2 28 (by omega)]; exact hc.1.1) h1 ?_)
      refine sC_number hn hx x4 rs2 (fun i hi => by rw [g2 36 (by omega)]; exact ht i hi) hsl hsm ?_
      change cOut σ n (cl1 n tx F (tx p) x.1 x.2.1) Q at h
      unfold cl1 at h
      cases hn2 : nmb n tx (sl (tx p)) (sm F (tx p)) x.2.1 with
      | inl y =>
        rw [hn2] at h
        obtain ⟨y0, y4⟩ := nmb_err hn2
        intro v s3 rf3 f3
        exact bad s3 (nI x.1) v y y0 y4 rf3 (h s3 rf3 (fun q hq => by rw [f3 q hq, g2 q hq]))
      | inr y =>
        rw [hn2] at h
        obtain ⟨y1, y2, y3, y4, y5⟩ := nmb_in hx x4 hn2
        intro s3 rs3 e63 f3
        have g3 : ∀ q, q ≠ 27 → s3 q = σ q := fun q hq => by rw [f3 q hq, g2 q hq]
        change cOut σ n (cl2 n tx F (tx p) x.1 y.1 y.2.1 y.2.2) Q at h
        unfold cl2 at h
        refine bX6_readClause_79 _ _ _ ?_
        rw [rs3.2.1, if_pos rfl, e63]
        have bl : ∀ (c a : Nat), rF (tp_u (tp_u s3 27 4 (nI c)) 27 3 (nI a)) n c a ∧ ∀ q, q ≠ 27 → tp_u (tp_u s3 27 4 (nI c)) 27 3 (nI a) q = σ q := fun c a => ⟨⟨by rw [uu2 _ _ _ (by omega), uu2 _ _ _ (by omega)]; exact rs3.1, by rw [uu2 _ _ _ (by omega), uu1], by rw [uu1], y.2.1, y4, by rw [uu2 _ _ _ (by omega), uu2 _ _ _ (by omega)]; exact rs3.2.2.2⟩, fun q hq => by rw [uu3 _ _ _ hq, uu3 _ _ _ hq]; exact g3 q hq⟩
        -- the end, where the words are sound
        have sound : ¬ (tx p = 112 ∧ (x.1 = y.1 ∨ bt (pJ F x.1) y.1 = true)) → (tx p = 112 → x.1 < pn F ∧ y.1 < pn F) → Wv E TC iX6_readClause (d + 1 + 1 + 1 + 1) Q 125 [(0, .ref 27), (1, .int (nI (tx p))), (3, .int (nI x.1)), (4, .int (nI y.1))] [] s3 := by
          intro hs hrm
          rw [if_neg hs] at h
          refine bX6_readClause_125 _ _ _ ?_
          rw [rs3.2.1, if_pos rfl]
          refine eX6_readEnd (sC_skip hn hx y4 rs3.1 rs3.2.2.2 (fun i hi => by rw [g3 36 (by omega)]; exact ht i hi) (fun s4 e54 k4 f4 => ?_))
          have hs2 : skip n tx y.2.1 ≤ n := (skp_le n tx 240 y.2.1).2 y4
          have h24 : s4 27 2 = nI n := by rw [k4 2 (by omega)]; exact rs3.1
          have g4 : ∀ q, q ≠ 27 → s4 q = σ q := fun q hq => by rw [f4 q hq, g3 q hq]
          rw [e54]
          refine sC_letter hn h24 (fun i hi => by rw [g4 36 (by omega)]; exact ht i hi) (by omega) ?_
          by_cases c : skip n tx y.2.1 < n ∧ tx (skip n tx y.2.1) = 59
          · rw [if_pos c] at h
            rw [if_pos (show chr n tx (skip n tx y.2.1) = 59 from (chr_32 hx (L := 59) (by omega)).mpr c), e54, nI_1, uu2 _ _ _ (by omega), k4 4 (by omega), rs3.2.1, if_pos rfl]
            refine sC_add hF (hc.fr (fun q a b => by rw [uu3 _ _ _ (by omega)]; exact g4 q (by omega))) h5 hfu (fun q => ⟨(hrm q).1, (hrm q).2, fun z => hs ⟨q, Or.inl z⟩⟩) (fun s5 c5 f5 => ?_)
            refine h s5 ⟨?_, ?_, ?_, ?_⟩ c5 (fun q a b => by rw [f5 q b, uu3 _ _ _ a]; exact g4 q a)
            · rw [f5 27 (by omega), uu2 _ _ _ (by omega)]; exact h24
            · rw [f5 27 (by omega), uu2 _ _ _ (by omega), k4 4 (by omega)]; exact rs3.2.1
            · rw [f5 27 (by omega), uu2 _ _ _ (by omega), k4 3 (by omega)]; exact rs3.2.2.1
            · rw [f5 27 (by omega), uu1]
          · rw [if_neg c] at h
            rw [if_neg (show ¬ chr n tx (skip n tx y.2.1) = 59 from fun q => c ((chr_32 hx (L := 59) (by omega)).mp q))]
            refine eX6_blame _ _ ?_
            rw [e54, uu2 _ _ _ (by omega), uu1, if_neg (show ¬ (1 : Int32) = 0 by decide)]
            exact h _ ⟨by rw [uu2 _ _ _ (by omega), uu2 _ _ _ (by omega)]; exact h24, by rw [uu2 _ _ _ (by omega), uu1]; rfl, by rw [uu1], skip n tx y.2.1, hs2, by rw [uu2 _ _ _ (by omega), uu2 _ _ _ (by omega)]; exact e54⟩ (fun q hq => by rw [uu3 _ _ _ hq, uu3 _ _ _ hq]; exact g4 q hq)
        by_cases k : tx p = 112
        · rw [if_pos ((e 112 (by omega)).mpr k)]
          have hpn : 1 ≤ pn F := by rcases h1 with q | q <;> omega
          have xr : x.1 < pn F := by unfold fm at x2; rw [if_neg (by omega), if_neg (by omega)] at x2; omega
          have yr : y.1 < pn F := by unfold sm at y2; rw [if_pos k] at y2; omega
          by_cases kab : x.1 = y.1
          · rw [if_pos ⟨k, Or.inl kab⟩] at h
            rw [if_pos (congrArg nI kab)]
            exact eX6_blame _ _ (bad2 _ _ _ (4, y.2.2) (show (4 : Nat) ≠ 0 by decide) (show (4 : Nat) ≤ 4 by decide) (bl 4 y.2.2).1 (h _ (bl 4 y.2.2).1 (bl 4 y.2.2).2))
          · rw [if_neg (by rw [nI_eq (by omega) (by omega)]; exact kab)]
            refine eX5_joinedTo_28 _ (eX5_hasRoom_28 _ (if3_t (n := pn F) (m := 8) (by rw [g3 28 (by omega)]; exact hc.1.1) rfl xr hn8 (by decide) ?_))
            rw [if_neg (by decide), vcl (by omega), g3 29 (by omega), show σ 29 x.1 = pJ F x.1 from hc.2.1 _ (by omega)]
            refine ⟨vin (by omega) (by decide), sc_hasC (by omega) (fun hb => ?_) (fun hb => ?_)⟩
            · rw [if_pos ⟨k, Or.inr hb⟩] at h
              rw [if_neg (by decide), e63]
              exact eX6_blame _ _ (bad2 _ _ _ (4, y.2.2) (show (4 : Nat) ≠ 0 by decide) (show (4 : Nat) ≤ 4 by decide) (bl 4 y.2.2).1 (h _ (bl 4 y.2.2).1 (bl 4 y.2.2).2))
            · rw [if_pos rfl]
              exact sound (fun q => by rcases q.2 with z | z; exact kab z; rw [hb] at z; cases z) (fun _ => ⟨xr, yr⟩)
        · rw [if_neg (fun q => k ((e 112 (by omega)).mp q))]
          exact sound (fun q => k q.1) (fun q => absurd q k)
  · rw [if_pos hf] at h
    have hf3 : flt F (tx p) ≤ 4 := by
      unfold flt
      by_cases c1 : ¬ five (tx p)
      · rw [if_pos c1]; omega
      · rw [if_neg c1]
        by_cases c2 : pn F = 0 ∧ tx p ≠ 104
        · rw [if_pos c2]; omega
        · rw [if_neg c2]
          by_cases c3 : full F (tx p) = true
          · rw [if_pos c3]; omega
          · rw [if_neg c3]; omega
    rw [if_neg (nI_nz hf hf3), r5]
    refine eX6_blame _ _ (h _ ⟨?_, ?_, ?_, p, by omega, ?_⟩ (fun q hq => by rw [uu3 _ _ _ hq, uu3 _ _ _ hq]))
    · rw [uu2 _ _ _ (by omega), uu2 _ _ _ (by omega)]; exact r2
    · rw [uu2 _ _ _ (by omega), uu1]
    · rw [uu1]
    · rw [uu2 _ _ _ (by omega), uu2 _ _ _ (by omega)]; exact r5
end CLC

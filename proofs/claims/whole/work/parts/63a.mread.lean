/-! ===== reading: the reference ===== -/
abbrev tT (σ : tp_M) (n : Nat) (tx : Nat → Nat) : Prop := ∀ i, i < n → σ 9 i = nI (tx i)
/-- but the reader's own fields of cell 0; but those and the draft -/
def fN (σ' σ : tp_M) : Prop := (∀ q, q ≠ 0 → σ' q = σ q) ∧ ∀ k, ¬ (17 ≤ k ∧ k ≤ 21) → σ' 0 k = σ 0 k
def fD (σ' σ : tp_M) : Prop := (∀ q, q ≠ 0 → ¬ (10 ≤ q ∧ q ≤ 13) → σ' q = σ q) ∧ ∀ k, ¬ (17 ≤ k ∧ k ≤ 30) → σ' 0 k = σ 0 k
theorem fN.d {σ' σ : tp_M} (h : fN σ' σ) : fD σ' σ := ⟨fun q a _ => h.1 q a, fun k a => h.2 k (by omega)⟩
theorem fN.t {σ'' σ' σ : tp_M} (h2 : fN σ'' σ') (h1 : fN σ' σ) : fN σ'' σ := ⟨fun q a => (h2.1 q a).trans (h1.1 q a), fun k a => (h2.2 k a).trans (h1.2 k a)⟩
theorem fD.t {σ'' σ' σ : tp_M} (h2 : fD σ'' σ') (h1 : fD σ' σ) : fD σ'' σ := ⟨fun q a b => (h2.1 q a b).trans (h1.1 q a b), fun k a => (h2.2 k a).trans (h1.2 k a)⟩
theorem fN.u {σ' σ : tp_M} (h : fN σ' σ) (k : Nat) (v : Int32) (hk : 17 ≤ k ∧ k ≤ 21) : fN (tp_u σ' 0 k v) σ := ⟨fun q a => by rw [uu3 _ _ _ a]; exact h.1 q a, fun j a => by rw [uu2 _ _ _ (by omega)]; exact h.2 j a⟩
theorem fD.u {σ' σ : tp_M} (h : fD σ' σ) (k : Nat) (v : Int32) (hk : 17 ≤ k ∧ k ≤ 30) : fD (tp_u σ' 0 k v) σ := ⟨fun q a b => by rw [uu3 _ _ _ a]; exact h.1 q a b, fun j a => by rw [uu2 _ _ _ (by omega)]; exact h.2 j a⟩
theorem fD.w {σ' σ : tp_M} (h : fD σ' σ) (o k : Nat) (v : Int32) (ho : 10 ≤ o ∧ o ≤ 13) : fD (tp_u σ' o k v) σ := ⟨fun q a b => by rw [uu3 _ _ _ (by omega)]; exact h.1 q a b, fun j a => by rw [uu3 _ _ _ (by omega)]; exact h.2 j a⟩
theorem fN.refl (σ : tp_M) : fN σ σ := ⟨fun q _ => rfl, fun k _ => rfl⟩
section MRD
variable {E : tp_E} {d : Nat} {σ : tp_M} {Q : Int32 → tp_M → Prop} {n : Nat} {tx : Nat → Nat}
theorem sM_letter {p : Nat} (hn : n ≤ 240) (h16 : σ 0 16 = nI n) (ht : tT σ n tx) (hp : p ≤ n) (h : Q (chr n tx p) σ) : Ci E TM yX10_letterAt iX10_letterAt d [.ref 0, .int (nI p)] σ Q := by
  refine eX10_letterAt _ ?_
  rw [h16]
  unfold chr at h
  by_cases c : p < n
  · rw [if_pos c] at h
    rw [if_neg (nI_ge c (by omega)), vcl (by omega), ht p c]
    exact ⟨vin (by omega) (by decide), h⟩
  · rw [if_neg c] at h
    rw [if_pos (nI_le (by omega) (by omega))]
    exact h
theorem sM_here {p : Nat} (hn : n ≤ 240) (hx : ∀ i, i < n → tx i ≤ 255) (h16 : σ 0 16 = nI n) (h17 : σ 0 17 = nI p) (ht : tT σ n tx) (hp : p ≤ n) (h : ∀ σ', σ' 0 17 = nI (skip n tx p) → σ' 0 18 = nI (skip n tx p) → (∀ k, k ≠ 17 → k ≠ 18 → σ' 0 k = σ 0 k) → (∀ q, q ≠ 0 → σ' q = σ q) → Q (chr n tx (skip n tx p)) σ') : Ci E TM yX10_here iX10_here (d + 1) [.ref 0] σ Q := by
  have key : ∀ f p s, p ≤ n → n ≤ p + f → s 0 17 = nI p → (∀ k, k ≠ 17 → s 0 k = σ 0 k) → (∀ q, q ≠ 0 → s q = σ q) → (∀ σ', σ' 0 17 = nI (skp n tx f p) → σ' 0 18 = nI (skp n tx f p) → (∀ k, k ≠ 17 → k ≠ 18 → σ' 0 k = σ 0 k) → (∀ q, q ≠ 0 → σ' q = σ q) → Q (chr n tx (skp n tx f p)) σ') → Wi E TM iX10_here (d + 1) Q 0 [(0, .ref 0)] [] s := by
    intro f
    have stop : ∀ p s, p ≤ n → ¬ (p < n ∧ tx p = 32) → s 0 17 = nI p → (∀ k, k ≠ 17 → s 0 k = σ 0 k) → (∀ q, q ≠ 0 → s q = σ q) → (∀ σ', σ' 0 17 = nI p → σ' 0 18 = nI p → (∀ k, k ≠ 17 → k ≠ 18 → σ' 0 k = σ 0 k) → (∀ q, q ≠ 0 → σ' q = σ q) → Q (chr n tx p) σ') → Wi E TM iX10_here (d + 1) Q 0 [(0, .ref 0)] [] s := by
      intro p s hp hc g1 g2 g3 hq
      have h16s : s 0 16 = nI n := by rw [g2 16 (by omega)]; exact h16
      refine bX10_here_0 ?_
      rw [g1]
      refine sM_letter hn h16s (fun i hi => by rw [g3 9 (by omega)]; exact ht i hi) hp ?_
      rw [if_neg (show ¬ chr n tx p = 32 from fun q => hc ((chr_32 hx (L := 32) (by omega)).mp q)), g1, uu2 _ _ _ (by omega), g1]
      refine sM_letter hn (by rw [uu2 _ _ _ (by omega)]; exact h16s) (fun i hi => by rw [uu3 _ _ _ (by omega), g3 9 (by omega)]; exact ht i hi) hp (hq _ (by rw [uu2 _ _ _ (by omega)]; exact g1) (uu1 _ _ _ _) (fun k a b => by rw [uu2 _ _ _ b]; exact g2 k a) (fun q hq => by rw [uu3 _ _ _ hq]; exact g3 q hq))
    induction f with
    | zero =>
      intro p s hp hf g1 g2 g3 hq
      exact stop p s hp (by omega) g1 g2 g3 hq
    | succ f ih =>
      intro p s hp hf g1 g2 g3 hq
      by_cases c : p < n ∧ tx p = 32
      · unfold skp at hq
        rw [if_pos c] at hq
        refine bX10_here_0 ?_
        rw [g1]
        refine sM_letter hn (by rw [g2 16 (by omega)]; exact h16) (fun i hi => by rw [g3 9 (by omega)]; exact ht i hi) hp ?_
        rw [if_pos (show chr n tx p = 32 from (chr_32 hx (L := 32) (by omega)).mpr c), g1, nI_1]
        refine ih (p + 1) _ (by omega) (by omega) (uu1 _ _ _ _) (fun k hk => by rw [uu2 _ _ _ hk]; exact g2 k hk) (fun q hq => by rw [uu3 _ _ _ hq]; exact g3 q hq) hq
      · rw [skp_stop c] at hq
        exact stop p s hp c g1 g2 g3 hq
  exact Ci.of ⟨by decide +kernel, rfl, rfl⟩ (Nat.le_of_ble_eq_true rfl) (key 240 p σ hp (by omega) h17 (fun k _ => rfl) (fun q _ => rfl) h)
theorem sM_fig_t {p : Nat} (h : isF n tx p) (hq : Q 1 σ) : Ci E TM yX10_in iX10_in d [.long (chr n tx p).toInt64, .long 48, .long 57] σ Q := by
  rw [show chr n tx p = nI (tx p) from if_pos h.1]
  exact sm_inL_t 48 57 h.2.1 h.2.2 (by decide) hq
theorem sM_fig_f {p : Nat} (hx : ∀ i, i < n → tx i ≤ 255) (h : ¬ isF n tx p) (hq : Q 0 σ) : Ci E TM yX10_in iX10_in d [.long (chr n tx p).toInt64, .long 48, .long 57] σ Q := by
  refine sm_inL_f 48 57 (fun q => h ?_) (by decide) (by decide) hq
  unfold chr at q
  by_cases c : p < n
  · have := hx p c
    rw [if_pos c, nI_toInt (by omega)] at q
    exact ⟨c, by omega, by omega⟩
  · rw [if_neg c] at q
    have e : (-1 : Int32).toInt = -1 := by decide
    omega
/-- what reading leaves -/
def nOut (σ : tp_M) (x : (Nat × Nat) ⊕ (Nat × Nat × Nat)) (Q : Int32 → tp_M → Prop) : Prop := match x with
  | .inl e => ∀ σ', σ' 0 20 = nI e.1 → σ' 0 21 = nI e.2 → fN σ' σ → Q 0 σ'
  | .inr y => ∀ σ', σ' 0 17 = nI y.2.1 → σ' 0 18 = nI y.2.2 → σ' 0 19 = nI y.1 → σ' 0 20 = σ 0 20 → σ' 0 21 = σ 0 21 → fN σ' σ → Q 1 σ'
theorem sM_number {p lo hi : Nat} (hn : n ≤ 240) (hx : ∀ i, i < n → tx i ≤ 255) (h16 : σ 0 16 = nI n) (h17 : σ 0 17 = nI p) (ht : tT σ n tx) (hp : p ≤ n) (hlo : lo < 2147483648) (hhi : hi < 2147483648) (h : nOut σ (nmb n tx lo hi p) Q) : Ci E TM yX10_takesNumber iX10_takesNumber (d + 1 + 1) [.ref 0, .int (nI lo), .int (nI hi)] σ Q := by
  refine eX10_takesNumber _ _ (sM_here hn hx h16 h17 ht hp (fun s1 a17 a18 a0 aq => ?_))
  have hs2 : skip n tx p ≤ n := (skp_le n tx 240 p).2 hp
  unfold nmb at h
  generalize skip n tx p = s at a17 a18 h hs2
  generalize hN0 : num n tx 240 s 0 0 = N at h
  have fail : ∀ (s' : tp_M) (c : Nat) (R : Int32 → tp_M → Prop), s' 0 18 = nI s → fN s' σ → (∀ σ', σ' 0 20 = nI c → σ' 0 21 = nI s → fN σ' σ → R 0 σ') → Ci E TM yX10_fails iX10_fails (d + 1) [.ref 0, .int (nI c), .int (s' 0 18)] s' R := by
    intro s' c R e18 f hR
    refine eX10_fails _ _ ?_
    rw [e18]
    exact hR _ (by rw [uu2 _ _ _ (by omega), uu1]) (uu1 _ _ _ _) ((f.u 20 _ (by omega)).u 21 _ (by omega))
  have f1 : fN s1 σ := ⟨aq, fun k hk => a0 k (by omega) (by omega)⟩
  have t1 : tT s1 n tx := fun i hi => by rw [aq 9 (by omega)]; exact ht i hi
  by_cases c0 : isF n tx s
  · refine sM_fig_t c0 ?_
    rw [if_neg (by decide)]
    have stop : ∀ p c v s', p ≤ n → p = s + c → v < 1000 → 1 ≤ c → ¬ isF n tx p → s' 0 17 = nI p → s' 0 18 = nI s → s' 0 19 = nI v → s' 0 20 = σ 0 20 → s' 0 21 = σ 0 21 → fN s' σ → (c, v) = N → Wi E TM iX10_takesNumber (d + 1 + 1) Q 32 [(0, .ref 0), (1, .int (nI lo)), (2, .int (nI hi))] [] s' := by
      intro p c v s' hp hpc hv hc1 c1 g17 g18 g19 g20 g21 gf hN
      have g16 : s' 0 16 = nI n := by rw [gf.2 16 (by omega)]; exact h16
      have t' : tT s' n tx := fun i hi => by rw [gf.1 9 (by omega)]; exact ht i hi
      refine bX10_takesNumber_32 _ _ ?_
      rw [g17]
      refine sM_letter hn g16 t' hp ?_
      rw [← hN] at h
      change nOut σ (if c = 0 then Sum.inl (1, s) else if 3 < c then Sum.inl (2, s) else if lo ≤ v ∧ v ≤ hi then Sum.inr (v, s + c, s) else Sum.inl (2, s) : (Nat × Nat) ⊕ (Nat × Nat × Nat)) Q at h
      rw [if_neg (by omega)] at h
      refine sM_fig_f hx c1 ?_
      rw [if_pos rfl, g17, g18, pk_sub (by omega), show p - s = c by omega, ← g18]
      by_cases c3 : 3 < c
      · rw [if_pos c3] at h
        rw [if_pos (le_litp 4 (by omega) (by omega))]
        refine fail s' 2 _ g18 gf (fun σ' e1 e2 e3 => ?_)
        rw [if_pos rfl]
        exact h σ' e1 e2 e3
      · rw [if_neg c3] at h
        rw [if_neg (nle_lit 4 (by omega) (by decide)), g19]
        by_cases cv : lo ≤ v ∧ v ≤ hi
        · rw [if_pos cv] at h
          refine sm_in_t (fun q => ?_) (fun q => ?_) ?_
          · rw [wide_lt] at q; exact nI_nlt cv.1 (by omega) q
          · rw [wide_lt] at q; exact nI_nlt cv.2 (by omega) q
          · rw [if_neg (by decide)]
            exact h s' (by rw [g17, hpc]) g18 g19 g20 g21 gf
        · rw [if_neg cv] at h
          refine sm_in_f ?_ ?_
          · rw [wide_lt, wide_lt]
            by_cases q : v < lo
            · exact Or.inl (nI_lt q hlo)
            · exact Or.inr (nI_lt (by omega) (by omega))
          · rw [if_pos rfl]
            refine fail s' 2 _ g18 gf (fun σ' e1 e2 e3 => ?_)
            rw [if_pos rfl]
            exact h σ' e1 e2 e3
    have key : ∀ f p c v s', c + f = 240 → p ≤ n → p = s + c → v < 1000 → s' 0 17 = nI p → s' 0 18 = nI s → s' 0 19 = nI v → s' 0 20 = σ 0 20 → s' 0 21 = σ 0 21 → fN s' σ → num n tx f p c v = N → (1 ≤ c ∨ isF n tx p) → v < 10 ^ (min c 3) → Wi E TM iX10_takesNumber (d + 1 + 1) Q 32 [(0, .ref 0), (1, .int (nI lo)), (2, .int (nI hi))] [] s' := by
      intro f
      induction f with
      | zero => intro p c v s' hc hp hpc hv g17 g18 g19 g20 g21 gf hN h1 hv3; exact stop p c v s' hp hpc hv (by omega) (fun q => by have := q.1; omega) g17 g18 g19 g20 g21 gf hN
      | succ f ih =>
        intro p c v s' hc hp hpc hv g17 g18 g19 g20 g21 gf hN h1 hv3
        have g16 : s' 0 16 = nI n := by rw [gf.2 16 (by omega)]; exact h16
        have t' : tT s' n tx := fun i hi => by rw [gf.1 9 (by omega)]; exact ht i hi
        unfold num at hN
        by_cases c1 : isF n tx p
        · rw [if_pos c1] at hN
          obtain ⟨d1, d2, d3⟩ := c1
          refine bX10_takesNumber_32 _ _ ?_
          rw [g17]
          refine sM_letter hn g16 t' hp ?_
          refine sM_fig_t ⟨d1, d2, d3⟩ ?_
          rw [if_neg (by decide), g17, g18, g19, pk_sub (by omega), show p - s = c by omega]
          by_cases c3 : c < 3
          · rw [if_pos c3] at hN
            rw [if_neg (nle_lit 3 c3 (by decide))]
            refine sM_letter hn g16 t' hp ?_
            rw [uu2 _ _ _ (by omega), g17, nI_1, show chr n tx p = nI (tx p) from if_pos d1, show (10 : Int32) * nI v = nI (10 * v) from by rw [show (10 : Int32) = nI 10 from rfl, pk_mul], nI_add, show nI (10 * v + tx p) - 48 = nI (10 * v + tx p - 48) from pk_sub (b := 48) (by omega), show 10 * v + tx p - 48 = v * 10 + (tx p - 48) by omega]
            have hv4 : v * 10 + (tx p - 48) < 10 ^ (min (c + 1) 3) := by rw [show min (c + 1) 3 = min c 3 + 1 by omega, Nat.pow_succ]; omega
            refine ih (p + 1) (c + 1) _ _ (by omega) (by omega) (by omega) ?_ (uu1 _ _ _ _) ?_ ?_ ?_ ?_ ((gf.u 19 _ (by omega)).u 17 _ (by omega)) hN (Or.inl (by omega)) hv4
            · have : 10 ^ (min (c + 1) 3) ≤ 10 ^ 3 := Nat.pow_le_pow_right (by omega) (by omega)
              omega
            · rw [uu2 _ _ _ (by omega), uu2 _ _ _ (by omega)]; exact g18
            · rw [uu2 _ _ _ (by omega), uu1]
            · rw [uu2 _ _ _ (by omega), uu2 _ _ _ (by omega)]; exact g20
            · rw [uu2 _ _ _ (by omega), uu2 _ _ _ (by omega)]; exact g21
          · rw [if_neg c3] at hN
            rw [if_pos (le_litp 3 (by omega) (by omega)), uu2 _ _ _ (by omega), g17, nI_1]
            refine ih (p + 1) (c + 1) v _ (by omega) (by omega) (by omega) hv (uu1 _ _ _ _) ?_ ?_ ?_ ?_ ((gf.u 19 _ (by omega)).u 17 _ (by omega)) hN (Or.inl (by omega)) (by rw [show min (c + 1) 3 = min c 3 by omega]; exact hv3)
            · rw [uu2 _ _ _ (by omega), uu2 _ _ _ (by omega)]; exact g18
            · rw [uu2 _ _ _ (by omega), uu1]
            · rw [uu2 _ _ _ (by omega), uu2 _ _ _ (by omega)]; exact g20
            · rw [uu2 _ _ _ (by omega), uu2 _ _ _ (by omega)]; exact g21
        · rw [if_neg c1] at hN
          have hc1 : 1 ≤ c := by rcases h1 with q | q; exact q; exact absurd q c1
          exact stop p c v s' hp hpc hv hc1 c1 g17 g18 g19 g20 g21 gf hN
    exact key 240 s 0 0 _ rfl hs2 rfl (by omega) (by rw [uu2 _ _ _ (by omega)]; exact a17) (by rw [uu2 _ _ _ (by omega)]; exact a18) (uu1 _ _ _ _) (by rw [uu2 _ _ _ (by omega)]; exact a0 20 (by omega) (by omega)) (by rw [uu2 _ _ _ (by omega)]; exact a0 21 (by omega) (by omega)) (f1.u 19 _ (by omega)) hN0 (Or.inr c0) (by decide)
  · refine sM_fig_f hx c0 ?_
    rw [if_pos rfl]
    have e0 : num n tx 240 s 0 0 = (0, 0) := by unfold num; rw [if_neg c0]
    rw [← hN0, e0, if_pos rfl] at h
    exact fail s1 1 _ a18 f1 (fun σ' e1 e2 e3 => ⟨Or.inl rfl, h σ' e1 e2 e3⟩)
end MRD

/-! ===== reads after writes, frames ===== -/
theorem uu1 (σ : tp_M) (o k : Nat) (x : Int32) : tp_u σ o k x o k = x := by simp [tp_u, upd]
theorem uu2 (σ : tp_M) (o : Nat) {k j : Nat} (x : Int32) (h : j ≠ k) : tp_u σ o k x o j = σ o j := by simp [tp_u, upd, h]
theorem uu3 (σ : tp_M) {o p : Nat} (k : Nat) (x : Int32) (h : p ≠ o) : tp_u σ o k x p = σ p := by simp [tp_u, h]
section FR
variable {σ σ' : tp_M} {P : PD} {A : AS}
theorem cP.fr {b : Nat} (h : ∀ o, b ≤ o → o ≤ b + 7 → σ' o = σ o) (hc : cP σ b P) : cP σ' b P := by
  unfold cP at hc ⊢
  rw [h b (by omega) (by omega), h (b + 1) (by omega) (by omega), h (b + 2) (by omega) (by omega), h (b + 3) (by omega) (by omega), h (b + 4) (by omega) (by omega), h (b + 5) (by omega) (by omega), h (b + 6) (by omega) (by omega), h (b + 7) (by omega) (by omega)]
  exact hc
theorem cS.fr {o : Nat} (h : ∀ q, o ≤ q → q ≤ o + 4 → σ' q = σ q) (hc : cS σ o P A) : cS σ' o P A := by
  unfold cS at hc ⊢
  rw [h o (by omega) (by omega), h (o + 1) (by omega) (by omega), h (o + 2) (by omega) (by omega), h (o + 3) (by omega) (by omega), h (o + 4) (by omega) (by omega)]
  exact hc
theorem cU.fr {U : Nat × (Nat → AS)} (h : ∀ q, 37 ≤ q → q ≤ 138 → σ' q = σ q) (hc : cU σ P U) : cU σ' P U := by
  obtain ⟨nx, h1, h2, h3, h4⟩ := hc
  refine ⟨nx, h1, by rw [h 37 (by omega) (by omega)]; exact h2, by rw [h 37 (by omega) (by omega)]; exact h3, fun j hj => (h4 j hj).fr (fun q a b => h q (by omega) ?_)⟩
  have := Nat.mod_lt (nx + 20 - U.1 + j) (show 0 < 20 by omega)
  omega
theorem cI1.fr {i : Nat} {x : Option (AS × Int32)} (h : ∀ q, 15 + 6 * i ≤ q → q ≤ 15 + 6 * i + 5 → σ' q = σ q) (hc : cI1 σ P i x) : cI1 σ' P i x := by
  cases x with
  | none => exact (congrFun (h _ (by omega) (by omega)) 2).trans hc
  | some a =>
    obtain ⟨h1, h2, h3⟩ := hc
    exact ⟨(congrFun (h _ (by omega) (by omega)) 2).trans h1, (congrFun (h _ (by omega) (by omega)) 1).trans h2, h3.fr (fun q a b => h q (by omega) (by omega))⟩
theorem cT.fr {T : Nat × (Nat → Nat) × Int32} (h1 : σ' 27 2 = σ 27 2) (h2 : σ' 27 3 = σ 27 3) (h3 : σ' 36 = σ 36) (hc : cT σ T) : cT σ' T := by
  unfold cT at hc ⊢
  rw [h1, h2, h3]
  exact hc
theorem cN.fr {N : Nat × (Nat → Nat × Nat × Bool)} {B : Nat × (Nat → Nat × Nat)} (h : ∀ q, 151 ≤ q → q ≤ 156 → σ' q = σ q) (hc : cN σ N B) : cN σ' N B := by
  unfold cN at hc ⊢
  rw [h 151 (by omega) (by omega), h 152 (by omega) (by omega), h 153 (by omega) (by omega), h 154 (by omega) (by omega), h 155 (by omega) (by omega), h 156 (by omega) (by omega)]
  exact hc
/-- cells that the class's answers don't rest on: the draft, what is tried -/
def cScr (o : Nat) : Prop := (28 ≤ o ∧ o ≤ 35) ∨ (140 ≤ o ∧ o ≤ 150)
theorem cR.fr {D : DD} (h : ∀ q, ¬ cScr q → σ' q = σ q) (hc : cR σ D) : cR σ' D := by
  have g : ∀ q, (¬ ((28 ≤ q ∧ q ≤ 35) ∨ (140 ≤ q ∧ q ≤ 150))) → σ' q = σ q := h
  obtain ⟨h1, h2, h3, h4, h5, h6, h7⟩ := hc
  exact ⟨h1.fr (fun q a b => g q (by omega)), h2.fr (fun q a b => g q (by omega)), by rw [g 139 (by omega)]; exact h3, h4.fr (fun q a b => g q (by omega)), ⟨h5.1.fr (fun q a b => g q (by omega)), h5.2.fr (fun q a b => g q (by omega))⟩, h6.fr (by rw [g 27 (by omega)]) (by rw [g 27 (by omega)]) (g 36 (by omega)), h7.fr (fun q a b => g q (by omega))⟩
theorem mP.fr (h0 : ∀ k, (3 ≤ k ∧ k ≤ 12) → σ' 0 k = σ 0 k) (h : ∀ q, 3 ≤ q → q ≤ 8 → σ' q = σ q) (hc : mP σ P) : mP σ' P := by
  unfold mP at hc ⊢
  rw [h0 3 (by omega), h0 4 (by omega), h0 5 (by omega), h0 7 (by omega), h0 9 (by omega), h0 12 (by omega), h 3 (by omega) (by omega), h 4 (by omega) (by omega), h 5 (by omega) (by omega), h 6 (by omega) (by omega), h 7 (by omega) (by omega), h 8 (by omega) (by omega)]
  exact hc
theorem ndf_le : ∀ (f r : Nat), ndf f r ≤ f
  | 0, r => Nat.le_refl 0
  | f + 1, r => by
    unfold ndf
    by_cases h : r = 0
    · rw [if_pos h]; omega
    · rw [if_neg h]; have := ndf_le f (r / 10); omega
theorem nd_le (r : Nat) : nd r ≤ 9 := ndf_le 9 r
theorem mS.fr {b : Nat} (hw : pw P ≤ 4) (ht : pt P ≤ 8) (h : ∀ i, b ≤ i → i < b + 58 → σ' 1 i = σ 1 i) (hc : mS σ b P A) : mS σ' b P A := by
  obtain ⟨⟨h1, h2⟩, h3, h4, h5, h6⟩ := hc
  refine ⟨⟨by rw [h b (by omega) (by omega)]; exact h1, by rw [h (b + 1) (by omega) (by omega)]; exact h2⟩, fun k hk => by rw [h _ (by omega) (by omega)]; exact h3 k hk, fun k hk => ⟨by rw [h _ (by omega) (by omega)]; exact (h4 k hk).1, fun e he => ?_⟩, fun k hk => by rw [h _ (by omega) (by omega)]; exact h5 k hk, fun t ht => by rw [h _ (by omega) (by omega)]; exact h6 t ht⟩
  have := nd_le (aRt A k)
  rw [h _ (by omega) (by omega)]
  exact (h4 k hk).2 e he
theorem mS.mv {b c : Nat} (hw : pw P ≤ 4) (ht : pt P ≤ 8) (h : ∀ i, i < 58 → σ' 1 (c + i) = σ 1 (b + i)) (hc : mS σ b P A) : mS σ' c P A := by
  obtain ⟨⟨h1, h2⟩, h3, h4, h5, h6⟩ := hc
  refine ⟨⟨(h 0 (by omega)).trans h1, (h 1 (by omega)).trans h2⟩, fun k hk => ?_, fun k hk => ⟨?_, fun e he => ?_⟩, fun k hk => ?_, fun t ht => ?_⟩
  · rw [Nat.add_assoc, h _ (by omega), ← Nat.add_assoc]; exact h3 k hk
  · rw [Nat.add_assoc, h _ (by omega), ← Nat.add_assoc]; exact (h4 k hk).1
  · have := nd_le (aRt A k)
    rw [Nat.add_assoc, Nat.add_assoc, h _ (by omega), ← Nat.add_assoc, ← Nat.add_assoc]
    exact (h4 k hk).2 e he
  · rw [Nat.add_assoc, h _ (by omega), ← Nat.add_assoc]; exact h5 k hk
  · rw [Nat.add_assoc, h _ (by omega), ← Nat.add_assoc]; exact h6 t ht
theorem mU.fr {U : Nat × (Nat → AS)} (hw : pw P ≤ 4) (ht : pt P ≤ 8) (hu : U.1 ≤ 20) (h0 : σ' 0 2 = σ 0 2) (h : ∀ i, 236 ≤ i → i < 1416 → σ' 1 i = σ 1 i) (hc : mU σ P U) : mU σ' P U :=
  ⟨h0.trans hc.1, fun j hj => (hc.2 j hj).fr hw ht (fun i a b => h i (by omega) (by omega))⟩
theorem mI1.fr {i : Nat} {x : Option (AS × Int32)} (hw : pw P ≤ 4) (ht : pt P ≤ 8) (h0 : σ' 2 i = σ 2 i) (h : ∀ q, 118 + 59 * i ≤ q → q ≤ 118 + 59 * i + 58 → σ' 1 q = σ 1 q) (hc : mI1 σ P i x) : mI1 σ' P i x := by
  cases x with
  | none => exact h0.trans hc
  | some a =>
    obtain ⟨h1, h2, h3⟩ := hc
    exact ⟨h0.trans h1, (h _ (by omega) (by omega)).trans h2, h3.fr hw ht (fun q a b => h q (by omega) (by omega))⟩
theorem mT.fr {T : Nat × (Nat → Nat) × Int32} (h1 : σ' 0 16 = σ 0 16) (h2 : σ' 0 21 = σ 0 21) (h3 : σ' 9 = σ 9) (hc : mT σ T) : mT σ' T := by
  unfold mT at hc ⊢
  rw [h1, h2, h3]
  exact hc
theorem mN.fr {N : Nat × (Nat → Nat × Nat × Bool)} {B : Nat × (Nat → Nat × Nat)} (h1 : σ' 0 39 = σ 0 39) (h2 : σ' 0 43 = σ 0 43) (h : ∀ q, 21 ≤ q → q ≤ 25 → σ' q = σ q) (hc : mN σ N B) : mN σ' N B := by
  unfold mN at hc ⊢
  rw [h1, h2, h 21 (by omega) (by omega), h 22 (by omega) (by omega), h 23 (by omega) (by omega), h 24 (by omega) (by omega), h 25 (by omega) (by omega)]
  exact hc
/-- what the reference's answers rest on: all of it but 59 .. 117 of w, the rows of what is tried, the draft -/
theorem mR.fr {D : DD} (hok : okD D) (h0 : ∀ k, ¬ (17 ≤ k ∧ k ≤ 20) → ¬ (22 ≤ k ∧ k ≤ 38) → σ' 0 k = σ 0 k) (h1 : ∀ i, i < 1416 → ¬ (59 ≤ i ∧ i < 118) → σ' 1 i = σ 1 i) (h : ∀ q, 2 ≤ q → ¬ (10 ≤ q ∧ q ≤ 20) → σ' q = σ q) (hc : mR σ D) : mR σ' D := by
  have hw : pw (dP D) ≤ 4 := hok.1.1.2.2.2.1
  have ht : pt (dP D) ≤ 8 := hok.1.1.2.2.2.2.1
  obtain ⟨g1, g2, g3, g4, g5, g6, g7⟩ := hc
  exact ⟨g1.fr (fun k a => h0 k (by omega) (by omega)) (fun q a b => h q (by omega) (by omega)), g2.fr hw ht (fun i a b => h1 i (by omega) (by omega)), by rw [h1 58 (by omega) (by omega)]; exact g3, g4.fr hw ht hok.2.2.2.1.1 (h0 2 (by omega) (by omega)) (fun i a b => h1 i (by omega) (by omega)), ⟨g5.1.fr hw ht (by rw [h 2 (by omega) (by omega)]) (fun q a b => h1 q (by omega) (by omega)), g5.2.fr hw ht (by rw [h 2 (by omega) (by omega)]) (fun q a b => h1 q (by omega) (by omega))⟩, g6.fr (h0 16 (by omega) (by omega)) (h0 21 (by omega) (by omega)) (h 9 (by omega) (by omega)), g7.fr (h0 39 (by omega) (by omega)) (h0 43 (by omega) (by omega)) (fun q a b => h q (by omega) (by omega))⟩
end FR
/-! ===== arguments within bounds ===== -/
theorem rng (x : Int32) (lo hi : Nat) (hh : hi < 2147483648) : (∃ j, lo ≤ j ∧ j ≤ hi ∧ x = nI j) ∨ ¬ ((lo : Int) ≤ x.toInt ∧ x.toInt ≤ hi) := by
  by_cases h : (lo : Int) ≤ x.toInt ∧ x.toInt ≤ hi
  · left
    refine ⟨x.toInt.toNat, by omega, by omega, ?_⟩
    rw [fa_eq, nI_toInt (by omega)]
    omega
  · exact Or.inr h
theorem vrng (x : Int32) (n : Nat) (hn : n < 2147483648) : (∃ j, j < n ∧ x = nI j) ∨ ¬ vp_in x n := by
  by_cases h : vp_in x n
  · exact Or.inl (vp_in_of h hn)
  · exact Or.inr h
theorem lit_t (n : Nat) (h : n < 2147483648) : (OfNat.ofNat n : Int32).toInt = n := nI_toInt h
theorem lit64_t (n : Nat) (h : n < 2147483648) : (OfNat.ofNat n : Int64).toInt = n := lN_toInt h
section BND
variable {E : tp_E} {d : Nat} {σ : tp_M} {Q : Int32 → tp_M → Prop}
theorem sm_inL_t {j : Nat} (lo hi : Nat) (h1 : lo ≤ j) (h2 : j ≤ hi) (hh : hi < 2147483648) (h : Q 1 σ) : Ci E TM yX10_in iX10_in d [.long (nI j).toInt64, .long (OfNat.ofNat lo), .long (OfNat.ofNat hi)] σ Q := by
  refine sm_in_t (fun q => ?_) (fun q => ?_) h
  · rw [Int64.lt_iff_toInt_lt, lit64_t lo (by omega), nI_l (by omega), lN_toInt (by omega)] at q; omega
  · rw [Int64.lt_iff_toInt_lt, lit64_t hi (by omega), nI_l (by omega), lN_toInt (by omega)] at q; omega
theorem sm_inL_f {x : Int32} (lo hi : Nat) (hx : ¬ ((lo : Int) ≤ x.toInt ∧ x.toInt ≤ hi)) (hl : lo < 2147483648) (hh : hi < 2147483648) (h : Q 0 σ) : Ci E TM yX10_in iX10_in d [.long x.toInt64, .long (OfNat.ofNat lo), .long (OfNat.ofNat hi)] σ Q := by
  refine sm_in_f ?_ h
  rw [Int64.lt_iff_toInt_lt, Int64.lt_iff_toInt_lt, lit64_t lo hl, lit64_t hi hh]
  simp only [Int32.toInt_toInt64]
  omega
theorem sc_fore_t {j : Nat} (lo : Nat) (h1 : lo ≤ j) (h2 : j ≤ 20) (h : Q 1 σ) : Ci E TC yX9_isForeseen iX9_isForeseen d [.int (nI j), .int (OfNat.ofNat lo)] σ Q := by
  refine eX9_isForeseen _ _ ?_
  rw [if_neg (nI_nltL lo h1 (by omega)), if_neg (nlt_lit 20 h2 (by decide))]
  exact h
theorem sc_fore_f {x : Int32} (lo : Nat) (hx : ¬ ((lo : Int) ≤ x.toInt ∧ x.toInt ≤ (20 : Nat))) (hl : lo < 2147483648) (h : Q 0 σ) : Ci E TC yX9_isForeseen iX9_isForeseen d [.int x, .int (OfNat.ofNat lo)] σ Q := by
  refine eX9_isForeseen _ _ ?_
  by_cases h1 : x < OfNat.ofNat lo
  · rw [if_pos h1]; exact h
  · rw [if_neg h1]
    rw [fa_lt, lit_t lo hl] at h1
    rw [if_pos (by rw [fa_lt, lit_t 20 (by decide)]; omega)]
    exact h
end BND

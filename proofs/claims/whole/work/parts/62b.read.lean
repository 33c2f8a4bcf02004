/-! ===== reading: a clause ===== -/
def fl (L : Nat) : Nat := if L = 104 then 1 else if L = 116 then 1 else 0
def fm (F : PD) (L : Nat) : Nat := if L = 104 then 8 else if L = 116 then 99 else pn F - 1
def sl (L : Nat) : Nat := if L = 119 then 1 else 0
def sm (F : PD) (L : Nat) : Nat := if L = 112 then pn F - 1 else if L = 119 then 999 else 99
def full (F : PD) (L : Nat) : Bool := if L = 111 then !decide (po F < 4) else if L = 112 then !decide (pp F < 12) else if L = 116 then !decide (pt F < 8) else if L = 119 then !decide (pw F < 4) else !decide (pn F ≤ 0)
abbrev five (L : Nat) : Prop := L = 104 ∨ L = 112 ∨ L = 119 ∨ L = 116 ∨ L = 111
def flt (F : PD) (L : Nat) : Nat := if ¬ five L then 1 else if pn F = 0 ∧ L ≠ 104 then 1 else if full F L = true then 3 else 0
def addP (F : PD) (L a b : Nat) : PD :=
  if L = 111 then ((pn F, pe F, pp F, pw F, pt F, po F + 1), pJ F, pS F, pC F, pG F, pV F, va_up (pR F) (po F) a, va_up (pM F) (po F) b)
  else if L = 112 then ((pn F, pe F, pp F + 1, pw F, pt F, po F), va_up (va_up (pJ F) a (pJ F a ||| bit b)) b (pJ F b ||| bit a), pS F, pC F, pG F, pV F, pR F, pM F)
  else if L = 116 then ((pn F, pe F, pp F, pw F, pt F + 1, po F), pJ F, pS F, pC F, va_up (pG F) (pt F) a, va_up (pV F) (pt F) b, pR F, pM F)
  else if L = 119 then ((pn F, pe F, pp F, pw F + 1, pt F, po F), pJ F, va_up (pS F) (pw F) a, va_up (pC F) (pw F) b, pG F, pV F, pR F, pM F)
  else ((a, b, pp F, pw F, pt F, po F), pJ F, pS F, pC F, pG F, pV F, pR F, pM F)
def cl2 (n : Nat) (tx : Nat → Nat) (F : PD) (L a b p2 s2 : Nat) : (Nat × Nat) ⊕ (PD × Nat) :=
  if L = 112 ∧ (a = b ∨ bt (pJ F a) b = true) then .inl (4, s2)
  else if skip n tx p2 < n ∧ tx (skip n tx p2) = 59 then .inr (addP F L a b, skip n tx p2 + 1) else .inl (1, skip n tx p2)
def cl1 (n : Nat) (tx : Nat → Nat) (F : PD) (L a p1 : Nat) : (Nat × Nat) ⊕ (PD × Nat) := match nmb n tx (sl L) (sm F L) p1 with
  | .inl e => .inl e
  | .inr x => cl2 n tx F L a x.1 x.2.1 x.2.2
def cl0 (n : Nat) (tx : Nat → Nat) (F : PD) (L p : Nat) : (Nat × Nat) ⊕ (PD × Nat) := match nmb n tx (fl L) (fm F L) (p + 1) with
  | .inl e => .inl e
  | .inr x => cl1 n tx F L x.1 x.2.1
def clz (n : Nat) (tx : Nat → Nat) (F : PD) (p : Nat) : (Nat × Nat) ⊕ (PD × Nat) := if flt F (tx p) ≠ 0 then .inl (flt F (tx p), p) else cl0 n tx F (tx p) p
theorem nmb_in {n : Nat} {tx : Nat → Nat} {lo hi p : Nat} {x : Nat × Nat × Nat} (hx : ∀ i, i < n → tx i ≤ 255) (hp : p ≤ n) (h : nmb n tx lo hi p = .inr x) : lo ≤ x.1 ∧ x.1 ≤ hi ∧ p < x.2.1 ∧ x.2.1 ≤ n ∧ x.1 < 1000 := by
  have h1 : p ≤ skip n tx p := (skp_le n tx 240 p).1
  have h2 : skip n tx p ≤ n := (skp_le n tx 240 p).2 hp
  have h3 := (num_c n tx 240 (skip n tx p) 0 0).2 h2
  have h4 := num_v (n := n) (tx := tx) hx 240 (skip n tx p) 0 0 (by decide)
  unfold nmb at h
  by_cases c0 : (num n tx 240 (skip n tx p) 0 0).1 = 0
  · rw [if_pos c0] at h; cases h
  · rw [if_neg c0] at h
    by_cases c3 : 3 < (num n tx 240 (skip n tx p) 0 0).1
    · rw [if_pos c3] at h; cases h
    · rw [if_neg c3] at h
      by_cases c4 : lo ≤ (num n tx 240 (skip n tx p) 0 0).2 ∧ (num n tx 240 (skip n tx p) 0 0).2 ≤ hi
      · rw [if_pos c4] at h
        cases h
        exact ⟨c4.1, c4.2, by show p < skip n tx p + _; omega, by show skip n tx p + _ ≤ n; omega, h4⟩
      · rw [if_neg c4] at h; cases h
theorem nmb_err {n : Nat} {tx : Nat → Nat} {lo hi p : Nat} {x : Nat × Nat} (h : nmb n tx lo hi p = .inl x) : x.1 ≠ 0 ∧ x.1 ≤ 4 := by
  unfold nmb at h
  by_cases c0 : (num n tx 240 (skip n tx p) 0 0).1 = 0
  · rw [if_pos c0] at h; cases h; exact ⟨(by decide : (1 : Nat) ≠ 0), (by decide : (1 : Nat) ≤ 4)⟩
  · rw [if_neg c0] at h
    by_cases c3 : 3 < (num n tx 240 (skip n tx p) 0 0).1
    · rw [if_pos c3] at h; cases h; exact ⟨(by decide : (2 : Nat) ≠ 0), (by decide : (2 : Nat) ≤ 4)⟩
    · rw [if_neg c3] at h
      by_cases c4 : lo ≤ (num n tx 240 (skip n tx p) 0 0).2 ∧ (num n tx 240 (skip n tx p) 0 0).2 ≤ hi
      · rw [if_pos c4] at h; cases h
      · rw [if_neg c4] at h; cases h; exact ⟨(by decide : (2 : Nat) ≠ 0), (by decide : (2 : Nat) ≤ 4)⟩
section CL
variable {E : tp_E} {d : Nat} {σ : tp_M} {n : Nat} {tx : Nat → Nat} {F : PD}
theorem if2b {a : Prop} [Decidable a] {x : Bool} {Q : Int32 → tp_M → Prop} (h : Q (bI x) σ) (hx : x = !decide a) : if a then Q 0 σ else Q 1 σ := by
  by_cases c : a
  · rw [if_pos c]; rw [hx, decide_eq_true c] at h; exact h
  · rw [if_neg c]; rw [hx, decide_eq_false c] at h; exact h
theorem sC_full {Q : Int32 → tp_M → Prop} {L : Nat} (hF : okP F) (hc : cP σ 28 F) (hL : L ≤ 255) (h : Q (bI (full F L)) σ) : Ci E TC yX5_isFull iX5_isFull d [.ref 28, .int (nI L)] σ Q := by
  obtain ⟨b1, b2, b3, b4, b5, b6⟩ := hF.1
  obtain ⟨c1, c2, c3, c4, c5, c6⟩ := hc.1
  refine eX5_isFull _ ?_
  rw [c1, c3, c4, c5, c6]
  unfold full at h
  have e : ∀ k : Nat, k < 256 → (nI L = (OfNat.ofNat k : Int32) ↔ L = k) := fun k hk => nI_eqL k (by omega) (by omega)
  by_cases k1 : L = 111
  · rw [if_pos k1] at h
    rw [if_pos ((e 111 (by omega)).mpr k1)]
    by_cases z : po F < 4
    · rw [if_pos (nI_ltL 4 z (by decide))]; rw [decide_eq_true z] at h; exact h
    · rw [if_neg (nI_nltL 4 (by omega) (by omega))]; rw [decide_eq_false z] at h; exact h
  · rw [if_neg k1] at h
    rw [if_neg (fun q => k1 ((e 111 (by omega)).mp q))]
    by_cases k2 : L = 112
    · rw [if_pos k2] at h
      rw [if_pos ((e 112 (by omega)).mpr k2)]
      by_cases z : pp F < 12
      · rw [if_pos (nI_ltL 12 z (by decide))]; rw [decide_eq_true z] at h; exact h
      · rw [if_neg (nI_nltL 12 (by omega) (by omega))]; rw [decide_eq_false z] at h; exact h
    · rw [if_neg k2] at h
      rw [if_neg (fun q => k2 ((e 112 (by omega)).mp q))]
      by_cases k3 : L = 116
      · rw [if_pos k3] at h
        rw [if_pos ((e 116 (by omega)).mpr k3)]
        by_cases z : pt F < 8
        · rw [if_pos (nI_ltL 8 z (by decide))]; rw [decide_eq_true z] at h; exact h
        · rw [if_neg (nI_nltL 8 (by omega) (by omega))]; rw [decide_eq_false z] at h; exact h
      · rw [if_neg k3] at h
        rw [if_neg (fun q => k3 ((e 116 (by omega)).mp q))]
        by_cases k4 : L = 119
        · rw [if_pos k4] at h
          rw [if_pos ((e 119 (by omega)).mpr k4)]
          by_cases z : pw F < 4
          · rw [if_pos (nI_ltL 4 z (by decide))]; rw [decide_eq_true z] at h; exact h
          · rw [if_neg (nI_nltL 4 (by omega) (by omega))]; rw [decide_eq_false z] at h; exact h
        · rw [if_neg k4] at h
          rw [if_neg (fun q => k4 ((e 119 (by omega)).mp q))]
          by_cases z : pn F ≤ 0
          · rw [if_pos (nI_leL 0 z (by decide))]; rw [decide_eq_true z] at h; exact h
          · rw [if_neg (nI_nleL 0 (by omega) (by omega))]; rw [decide_eq_false z] at h; exact h
theorem sC_flt {Q : Int32 → tp_M → Prop} {L : Nat} (hF : okP F) (hc : cP σ 28 F) (hL : L ≤ 255) (h : Q (nI (flt F L)) σ) : Ci E TC yX6_faultOfWord iX6_faultOfWord (d + 1 + 1) [.ref 27, .int (nI L)] σ Q := by
  have e : ∀ k : Nat, k < 256 → (nI L = (OfNat.ofNat k : Int32) ↔ L = k) := fun k hk => nI_eqL k (by omega) (by omega)
  have hn8 := hF.1.1
  have yes : five L → Wi E TC iX6_faultOfWord (d + 1 + 1) Q 35 [(0, .ref 27), (1, .int (nI L))] [.int 1] σ := by
    intro h5
    refine bX6_faultOfWord_35 _ _ ?_
    unfold flt at h
    rw [if_neg (fun q => q h5)] at h
    rw [if_neg (by decide), hc.1.1]
    have fin : ¬ (pn F = 0 ∧ L ≠ 104) → Ci E TC yX5_isFull iX5_isFull (d + 1) [.ref 28, .int (nI L)] σ (fun v8 σ7 => if v8 = 0 then Q 0 σ7 else Q 3 σ7) := by
      intro c
      rw [if_neg c] at h
      refine sC_full hF hc hL ?_
      cases hf : full F L with
      | true => rw [hf, if_pos rfl] at h; rw [if_neg (show ¬ bI true = 0 by decide)]; exact h
      | false => rw [hf, if_neg (by decide)] at h; rw [if_pos (show bI false = 0 from rfl)]; exact h
    by_cases z : pn F = 0
    · rw [if_pos (by rw [z]; rfl)]
      by_cases k : L = 104
      · rw [if_pos ((e 104 (by omega)).mpr k)]
        exact fin (fun q => q.2 k)
      · rw [if_neg (fun q => k ((e 104 (by omega)).mp q))]
        rw [if_pos ⟨z, k⟩] at h
        exact h
    · rw [if_neg (by rw [nI_eqL 0 (by omega) (by decide)]; exact z)]
      exact fin (fun q => z q.1)
  refine eX6_faultOfWord _ ?_
  by_cases k1 : L = 104
  · rw [if_pos ((e 104 (by omega)).mpr k1)]; exact yes (Or.inl k1)
  rw [if_neg (fun q => k1 ((e 104 (by omega)).mp q))]
  by_cases k2 : L = 112
  · rw [if_pos ((e 112 (by omega)).mpr k2)]; exact yes (Or.inr (Or.inl k2))
  rw [if_neg (fun q => k2 ((e 112 (by omega)).mp q))]
  by_cases k3 : L = 119
  · rw [if_pos ((e 119 (by omega)).mpr k3)]; exact yes (Or.inr (Or.inr (Or.inl k3)))
  rw [if_neg (fun q => k3 ((e 119 (by omega)).mp q))]
  by_cases k4 : L = 116
  · rw [if_pos ((e 116 (by omega)).mpr k4)]; exact yes (Or.inr (Or.inr (Or.inr (Or.inl k4))))
  rw [if_neg (fun q => k4 ((e 116 (by omega)).mp q))]
  by_cases k5 : L = 111
  · rw [if_pos ((e 111 (by omega)).mpr k5)]; exact yes (Or.inr (Or.inr (Or.inr (Or.inr k5))))
  rw [if_neg (fun q => k5 ((e 111 (by omega)).mp q))]
  refine bX6_faultOfWord_35 _ _ ?_
  unfold flt at h
  rw [if_pos (fun q => by have q : L = 104 ∨ L = 112 ∨ L = 119 ∨ L = 116 ∨ L = 111 := q; omega)] at h
  rw [if_pos rfl]
  exact h
theorem sC_fl {Q : Int32 → tp_M → Prop} {L : Nat} (hL : L ≤ 255) (h : Q (nI (fl L)) σ) : Ci E TC yX6_firstLeast iX6_firstLeast d [.ref 27, .int (nI L)] σ Q := by
  refine eX6_firstLeast _ ?_
  have e : ∀ k : Nat, k < 256 → (nI L = (OfNat.ofNat k : Int32) ↔ L = k) := fun k hk => nI_eqL k (by omega) (by omega)
  unfold fl at h
  by_cases k1 : L = 104
  · rw [if_pos k1] at h; rw [if_pos ((e 104 (by omega)).mpr k1)]; exact h
  rw [if_neg k1] at h; rw [if_neg (fun q => k1 ((e 104 (by omega)).mp q))]
  by_cases k2 : L = 116
  · rw [if_pos k2] at h; rw [if_pos ((e 116 (by omega)).mpr k2)]; exact h
  rw [if_neg k2] at h; rw [if_neg (fun q => k2 ((e 116 (by omega)).mp q))]
  exact h
theorem sC_fm {Q : Int32 → tp_M → Prop} {L : Nat} (hL : L ≤ 255) (h0 : σ 28 0 = nI (pn F)) (h1 : L = 104 ∨ 1 ≤ pn F) (h : Q (nI (fm F L)) σ) : Ci E TC yX6_firstMost iX6_firstMost d [.ref 27, .int (nI L)] σ Q := by
  refine eX6_firstMost _ ?_
  have e : ∀ k : Nat, k < 256 → (nI L = (OfNat.ofNat k : Int32) ↔ L = k) := fun k hk => nI_eqL k (by omega) (by omega)
  unfold fm at h
  by_cases k1 : L = 104
  · rw [if_pos k1] at h; rw [if_pos ((e 104 (by omega)).mpr k1)]; exact h
  rw [if_neg k1] at h; rw [if_neg (fun q => k1 ((e 104 (by omega)).mp q))]
  by_cases k2 : L = 116
  · rw [if_pos k2] at h; rw [if_pos ((e 116 (by omega)).mpr k2)]; exact h
  rw [if_neg k2] at h; rw [if_neg (fun q => k2 ((e 116 (by omega)).mp q)), h0, nI_sub1 (by omega)]
  exact h
theorem sC_sl {Q : Int32 → tp_M → Prop} {L : Nat} (hL : L ≤ 255) (h : Q (nI (sl L)) σ) : Ci E TC yX6_secondLeast iX6_secondLeast d [.ref 27, .int (nI L)] σ Q := by
  refine eX6_secondLeast _ ?_
  have e : ∀ k : Nat, k < 256 → (nI L = (OfNat.ofNat k : Int32) ↔ L = k) := fun k hk => nI_eqL k (by omega) (by omega)
  unfold sl at h
  by_cases k1 : L = 119
  · rw [if_pos k1] at h; rw [if_pos ((e 119 (by omega)).mpr k1)]; exact h
  rw [if_neg k1] at h; rw [if_neg (fun q => k1 ((e 119 (by omega)).mp q))]
  exact h
theorem sC_sm {Q : Int32 → tp_M → Prop} {L : Nat} (hL : L ≤ 255) (h0 : σ 28 0 = nI (pn F)) (h1 : L = 104 ∨ 1 ≤ pn F) (h : Q (nI (sm F L)) σ) : Ci E TC yX6_secondMost iX6_secondMost d [.ref 27, .int (nI L)] σ Q := by
  refine eX6_secondMost _ ?_
  have e : ∀ k : Nat, k < 256 → (nI L = (OfNat.ofNat k : Int32) ↔ L = k) := fun k hk => nI_eqL k (by omega) (by omega)
  unfold sm at h
  by_cases k1 : L = 112
  · rw [if_pos k1] at h; rw [if_pos ((e 112 (by omega)).mpr k1), h0, nI_sub1 (by omega)]; exact h
  rw [if_neg k1] at h; rw [if_neg (fun q => k1 ((e 112 (by omega)).mp q))]
  by_cases k2 : L = 119
  · rw [if_pos k2] at h; rw [if_pos ((e 119 (by omega)).mpr k2)]; exact h
  rw [if_neg k2] at h; rw [if_neg (fun q => k2 ((e 119 (by omega)).mp q))]
  exact h
theorem flt_0 {L : Nat} (h : flt F L = 0) : five L ∧ (L = 104 ∨ 1 ≤ pn F) ∧ full F L = false := by
  unfold flt at h
  by_cases c1 : ¬ five L
  · rw [if_pos c1] at h; omega
  · rw [if_neg c1] at h
    by_cases c2 : pn F = 0 ∧ L ≠ 104
    · rw [if_pos c2] at h; omega
    · rw [if_neg c2] at h
      cases hf : full F L with
      | true => rw [hf, if_pos rfl] at h; omega
      | false => exact ⟨Classical.not_not.mp c1, by omega, rfl⟩
end CL

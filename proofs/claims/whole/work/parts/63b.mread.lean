/-! ===== reading: the reference's words ===== -/
def mF (σ : tp_M) (F : PD) : Prop := (σ 0 22 = nI (pn F) ∧ σ 0 23 = nI (pe F) ∧ σ 0 24 = nI (pp F) ∧ σ 0 26 = nI (pw F) ∧ σ 0 28 = nI (pt F) ∧ σ 0 30 = nI (po F)) ∧ (∀ r, r < 8 → σ 10 r = pJ F r) ∧ (∀ k, k < pw F → σ 11 (2 * k) = nI (pS F k) ∧ σ 11 (2 * k + 1) = nI (pC F k)) ∧ (∀ t, t < pt F → σ 12 (2 * t) = nI (pG F t) ∧ σ 12 (2 * t + 1) = nI (pV F t)) ∧ (∀ o, o < po F → σ 13 (2 * o) = nI (pR F o) ∧ σ 13 (2 * o + 1) = nI (pM F o))
theorem mF.n {σ' σ : tp_M} {F : PD} (h : mF σ F) (f : fN σ' σ) : mF σ' F := by
  unfold mF at h ⊢
  rw [f.2 22 (by omega), f.2 23 (by omega), f.2 24 (by omega), f.2 26 (by omega), f.2 28 (by omega), f.2 30 (by omega), f.1 10 (by omega), f.1 11 (by omega), f.1 12 (by omega), f.1 13 (by omega)]
  exact h
def wd2 (F : PD) (L a b p2 s2 : Nat) : (Nat × Nat) ⊕ (PD × Nat) := if L = 112 ∧ (a = b ∨ bt (pJ F a) b = true) then .inl (4, s2) else .inr (addP F L a b, p2)
def wd1 (n : Nat) (tx : Nat → Nat) (F : PD) (L a p1 : Nat) : (Nat × Nat) ⊕ (PD × Nat) := match nmb n tx (sl L) (sm F L) p1 with
  | .inl e => .inl e
  | .inr x => wd2 F L a x.1 x.2.1 x.2.2
def wd0 (n : Nat) (tx : Nat → Nat) (F : PD) (L p : Nat) : (Nat × Nat) ⊕ (PD × Nat) := match nmb n tx (fl L) (fm F L) (p + 1) with
  | .inl e => .inl e
  | .inr x => wd1 n tx F L x.1 x.2.1
def wend (n : Nat) (tx : Nat → Nat) (w : (Nat × Nat) ⊕ (PD × Nat)) : (Nat × Nat) ⊕ (PD × Nat) := match w with
  | .inl e => .inl e
  | .inr z => if skip n tx z.2 < n ∧ tx (skip n tx z.2) = 59 then .inr (z.1, skip n tx z.2 + 1) else .inl (1, skip n tx z.2)
theorem cl0_wd (n : Nat) (tx : Nat → Nat) (F : PD) (L p : Nat) : cl0 n tx F L p = wend n tx (wd0 n tx F L p) := by
  unfold cl0 wd0
  cases nmb n tx (fl L) (fm F L) (p + 1) with
  | inl e => rfl
  | inr x =>
    show cl1 n tx F L x.1 x.2.1 = wend n tx (wd1 n tx F L x.1 x.2.1)
    unfold cl1 wd1
    cases nmb n tx (sl L) (sm F L) x.2.1 with
    | inl e => rfl
    | inr y =>
      show cl2 n tx F L x.1 y.1 y.2.1 y.2.2 = wend n tx (wd2 F L x.1 y.1 y.2.1 y.2.2)
      unfold cl2 wd2
      by_cases c : L = 112 ∧ (x.1 = y.1 ∨ bt (pJ F x.1) y.1 = true)
      · rw [if_pos c, if_pos c]; rfl
      · rw [if_neg c, if_neg c]; rfl
def dOut (σ : tp_M) (x : (Nat × Nat) ⊕ (PD × Nat)) (Q : Int32 → tp_M → Prop) : Prop := match x with
  | .inl e => ∀ σ', σ' 0 20 = nI e.1 → σ' 0 21 = nI e.2 → fD σ' σ → Q 0 σ'
  | .inr y => ∀ σ', σ' 0 17 = nI y.2 → mF σ' y.1 → σ' 0 20 = σ 0 20 → σ' 0 21 = σ 0 21 → fD σ' σ → Q 1 σ'
section MW
variable {E : tp_E} {d : Nat} {σ : tp_M} {Q : Int32 → tp_M → Prop} {n : Nat} {tx : Nat → Nat} {F : PD} {p : Nat}
/-- a number and what follows it -/
theorem sM_num2 {lo hi : Nat} {σ0 : tp_M} {R : (Nat × Nat × Nat) → (Nat × Nat) ⊕ (PD × Nat)} {K : Int32 → tp_M → Prop} (hn : n ≤ 240) (hx : ∀ i, i < n → tx i ≤ 255) (h16 : σ 0 16 = nI n) (h17 : σ 0 17 = nI p) (ht : tT σ n tx) (hp : p ≤ n) (hlo : lo < 2147483648) (hhi : hi < 2147483648) (hf : fD σ σ0) (h : dOut σ0 (match nmb n tx lo hi p with | .inl e => .inl e | .inr x => R x) Q) (h0 : ∀ s, Q 0 s → K 0 s) (h1 : ∀ x s, nmb n tx lo hi p = .inr x → (lo ≤ x.1 ∧ x.1 ≤ hi ∧ p < x.2.1 ∧ x.2.1 ≤ n ∧ x.1 < 1000) → dOut σ0 (R x) Q → s 0 17 = nI x.2.1 → s 0 18 = nI x.2.2 → s 0 19 = nI x.1 → s 0 20 = σ 0 20 → s 0 21 = σ 0 21 → fN s σ → K 1 s) : Ci E TM yX10_takesNumber iX10_takesNumber (d + 1 + 1) [.ref 0, .int (nI lo), .int (nI hi)] σ K := by
  refine sM_number hn hx h16 h17 ht hp hlo hhi ?_
  cases hm : nmb n tx lo hi p with
  | inl e =>
    rw [hm] at h
    exact fun s e1 e2 f => h0 s (h s e1 e2 (f.d.t hf))
  | inr x =>
    rw [hm] at h
    exact fun s a b c e g f => h1 x s hm (nmb_in hx hp hm) h a b c e g f
theorem sM_w104 (hn : n ≤ 240) (hx : ∀ i, i < n → tx i ≤ 255) (h16 : σ 0 16 = nI n) (h17 : σ 0 17 = nI (p + 1)) (ht : tT σ n tx) (hp : p < n) (hm : mF σ F) (h : dOut σ (wd0 n tx F 104 p) Q) : Ci E TM yX10_takesHotel iX10_takesHotel (d + 1 + 1 + 1) [.ref 0] σ Q := by
  refine eX10_takesHotel (sM_num2 (lo := 1) (hi := 8) hn hx h16 h17 ht hp (by decide) (by decide) (fN.refl σ).d h (fun s q => by rw [if_pos rfl]; exact q) (fun x s e0 b0 h a17 a18 a19 a20 a21 f => ?_))
  rw [if_neg (by decide), a19]
  have f2 : fD (tp_u s 0 22 (nI x.1)) σ := f.d.u 22 _ (by omega)
  refine sM_num2 (lo := 0) (hi := 99) hn hx (by rw [f2.2 16 (by omega)]; exact h16) (by rw [uu2 _ _ _ (by omega)]; exact a17) (fun i hi => by rw [f2.1 9 (by omega) (by omega)]; exact ht i hi) b0.2.2.2.1 (by decide) (by decide) f2 h (fun s q => by rw [if_pos rfl]; exact q) (fun y s2 e1 b1 h c17 c18 c19 c20 c21 f3 => ?_)
  rw [if_neg (by decide), c19]
  refine h _ (by rw [uu2 _ _ _ (by omega)]; exact c17) ?_ (by rw [uu2 _ _ _ (by omega), c20, uu2 _ _ _ (by omega)]; exact a20) (by rw [uu2 _ _ _ (by omega), c21, uu2 _ _ _ (by omega)]; exact a21) ((f3.d.t f2).u 23 _ (by omega))
  have m1 := (hm.n f)
  obtain ⟨⟨m22, m23, m24, m26, m28, m30⟩, mJ, mW, mTh, mO⟩ := m1
  refine ⟨⟨?_, ?_, ?_, ?_, ?_, ?_⟩, fun r hr => ?_, fun k hk => ?_, fun k hk => ?_, fun k hk => ?_⟩
  · rw [uu2 _ _ _ (by omega), f3.2 22 (by omega), uu1]; rfl
  · rw [uu1]; rfl
  · rw [uu2 _ _ _ (by omega), f3.2 24 (by omega), uu2 _ _ _ (by omega)]; exact m24
  · rw [uu2 _ _ _ (by omega), f3.2 26 (by omega), uu2 _ _ _ (by omega)]; exact m26
  · rw [uu2 _ _ _ (by omega), f3.2 28 (by omega), uu2 _ _ _ (by omega)]; exact m28
  · rw [uu2 _ _ _ (by omega), f3.2 30 (by omega), uu2 _ _ _ (by omega)]; exact m30
  · rw [uu3 _ _ _ (by omega), f3.1 10 (by omega), uu3 _ _ _ (by omega)]; exact mJ r hr
  · rw [uu3 _ _ _ (by omega), f3.1 11 (by omega), uu3 _ _ _ (by omega)]; exact mW k hk
  · rw [uu3 _ _ _ (by omega), f3.1 12 (by omega), uu3 _ _ _ (by omega)]; exact mTh k hk
  · rw [uu3 _ _ _ (by omega), f3.1 13 (by omega), uu3 _ _ _ (by omega)]; exact mO k hk
theorem sM_w119 (hn : n ≤ 240) (hx : ∀ i, i < n → tx i ≤ 255) (h16 : σ 0 16 = nI n) (h17 : σ 0 17 = nI (p + 1)) (ht : tT σ n tx) (hp : p < n) (hm : mF σ F) (hF : okP F) (hpn : 1 ≤ pn F) (hfu : full F 119 = false) (h : dOut σ (wd0 n tx F 119 p) Q) : Ci E TM yX10_takesWaiter iX10_takesWaiter (d + 1 + 1 + 1) [.ref 0] σ Q := by
  have hw := full_119 hfu
  have hn8 := hF.1.1
  refine eX10_takesWaiter ?_
  rw [hm.1.1, nI_sub1 hpn]
  refine sM_num2 (lo := 0) (hi := pn F - 1) hn hx h16 h17 ht hp (by decide) (by omega) (fN.refl σ).d h (fun s q => by rw [if_pos rfl]; exact q) (fun x s e0 b0 h a17 a18 a19 a20 a21 f => ?_)
  have m1 := (hm.n f)
  obtain ⟨⟨m22, m23, m24, m26, m28, m30⟩, mJ, mW, mTh, mO⟩ := m1
  rw [if_neg (by decide), a19, m26, two_k, vcl (by omega)]
  refine ⟨vin (by omega) (by decide), ?_⟩
  have f2 : fD (tp_u s 11 (2 * pw F) (nI x.1)) σ := f.d.w 11 _ _ (by omega)
  refine sM_num2 (lo := 1) (hi := 999) hn hx (by rw [f2.2 16 (by omega)]; exact h16) (by rw [uu3 _ _ _ (by omega)]; exact a17) (fun i hi => by rw [f2.1 9 (by omega) (by omega)]; exact ht i hi) b0.2.2.2.1 (by decide) (by decide) f2 h (fun s q => by rw [if_pos rfl]; exact q) (fun y s2 e1 b1 h c17 c18 c19 c20 c21 f3 => ?_)
  have s26 : s2 0 26 = nI (pw F) := by rw [f3.2 26 (by omega), uu3 _ _ _ (by omega)]; exact m26
  rw [if_neg (by decide), c19, s26, two_k1, vcl (by omega), uu3 _ _ _ (show 0 ≠ 11 by omega), s26, nI_1]
  refine ⟨vin (by omega) (by decide), h _ (by rw [uu2 _ _ _ (by omega), uu3 _ _ _ (by omega)]; exact c17) ?_ (by rw [uu2 _ _ _ (by omega), uu3 _ _ _ (by omega), c20, uu3 _ _ _ (by omega)]; exact a20) (by rw [uu2 _ _ _ (by omega), uu3 _ _ _ (by omega), c21, uu3 _ _ _ (by omega)]; exact a21) (((f3.d.t f2).w 11 _ _ (by omega)).u 26 _ (by omega))⟩
  refine ⟨⟨?_, ?_, ?_, ?_, ?_, ?_⟩, fun r hr => ?_, fun k hk => ?_, fun k hk => ?_, fun k hk => ?_⟩
  · rw [uu2 _ _ _ (by omega), uu3 _ _ _ (by omega), f3.2 22 (by omega), uu3 _ _ _ (by omega)]; exact m22
  · rw [uu2 _ _ _ (by omega), uu3 _ _ _ (by omega), f3.2 23 (by omega), uu3 _ _ _ (by omega)]; exact m23
  · rw [uu2 _ _ _ (by omega), uu3 _ _ _ (by omega), f3.2 24 (by omega), uu3 _ _ _ (by omega)]; exact m24
  · rw [uu1]; rfl
  · rw [uu2 _ _ _ (by omega), uu3 _ _ _ (by omega), f3.2 28 (by omega), uu3 _ _ _ (by omega)]; exact m28
  · rw [uu2 _ _ _ (by omega), uu3 _ _ _ (by omega), f3.2 30 (by omega), uu3 _ _ _ (by omega)]; exact m30
  · rw [uu3 _ _ _ (by omega), uu3 _ _ _ (by omega), f3.1 10 (by omega), uu3 _ _ _ (by omega)]; exact mJ r hr
  · have hk : k < pw F + 1 := hk
    show _ = nI (va_up (pS F) (pw F) x.1 k) ∧ _ = nI (va_up (pC F) (pw F) y.1 k)
    rw [uu3 _ _ _ (by omega)]
    by_cases q : k = pw F
    · subst q
      rw [va_up_self, va_up_self, uu2 _ _ _ (by omega), uu1, f3.1 11 (by omega), uu1]
      exact ⟨rfl, rfl⟩
    · rw [va_up_ne _ _ q, va_up_ne _ _ q, uu2 _ _ _ (by omega), uu2 _ _ _ (by omega), f3.1 11 (by omega), uu2 _ _ _ (by omega), uu2 _ _ _ (by omega)]
      exact mW k (by omega)
  · rw [uu3 _ _ _ (by omega), uu3 _ _ _ (by omega), f3.1 12 (by omega), uu3 _ _ _ (by omega)]; exact mTh k hk
  · rw [uu3 _ _ _ (by omega), uu3 _ _ _ (by omega), f3.1 13 (by omega), uu3 _ _ _ (by omega)]; exact mO k hk
theorem sM_w116 (hn : n ≤ 240) (hx : ∀ i, i < n → tx i ≤ 255) (h16 : σ 0 16 = nI n) (h17 : σ 0 17 = nI (p + 1)) (ht : tT σ n tx) (hp : p < n) (hm : mF σ F) (hF : okP F) (hfu : full F 116 = false) (h : dOut σ (wd0 n tx F 116 p) Q) : Ci E TM yX10_takesThing iX10_takesThing (d + 1 + 1 + 1) [.ref 0] σ Q := by
  have hw := full_116 hfu
  refine eX10_takesThing ?_
  refine sM_num2 (lo := 1) (hi := 99) hn hx h16 h17 ht hp (by decide) (by decide) (fN.refl σ).d h (fun s q => by rw [if_pos rfl]; exact q) (fun x s e0 b0 h a17 a18 a19 a20 a21 f => ?_)
  have m1 := (hm.n f)
  obtain ⟨⟨m22, m23, m24, m26, m28, m30⟩, mJ, mW, mTh, mO⟩ := m1
  rw [if_neg (by decide), a19, m28, two_k, vcl (by omega)]
  refine ⟨vin (by omega) (by decide), ?_⟩
  have f2 : fD (tp_u s 12 (2 * pt F) (nI x.1)) σ := f.d.w 12 _ _ (by omega)
  refine sM_num2 (lo := 0) (hi := 99) hn hx (by rw [f2.2 16 (by omega)]; exact h16) (by rw [uu3 _ _ _ (by omega)]; exact a17) (fun i hi => by rw [f2.1 9 (by omega) (by omega)]; exact ht i hi) b0.2.2.2.1 (by decide) (by decide) f2 h (fun s q => by rw [if_pos rfl]; exact q) (fun y s2 e1 b1 h c17 c18 c19 c20 c21 f3 => ?_)
  have s28 : s2 0 28 = nI (pt F) := by rw [f3.2 28 (by omega), uu3 _ _ _ (by omega)]; exact m28
  rw [if_neg (by decide), c19, s28, two_k1, vcl (by omega), uu3 _ _ _ (show 0 ≠ 12 by omega), s28, nI_1]
  refine ⟨vin (by omega) (by decide), h _ (by rw [uu2 _ _ _ (by omega), uu3 _ _ _ (by omega)]; exact c17) ?_ (by rw [uu2 _ _ _ (by omega), uu3 _ _ _ (by omega), c20, uu3 _ _ _ (by omega)]; exact a20) (by rw [uu2 _ _ _ (by omega), uu3 _ _ _ (by omega), c21, uu3 _ _ _ (by omega)]; exact a21) (((f3.d.t f2).w 12 _ _ (by omega)).u 28 _ (by omega))⟩
  refine ⟨⟨?_, ?_, ?_, ?_, ?_, ?_⟩, fun r hr => ?_, fun k hk => ?_, fun k hk => ?_, fun k hk => ?_⟩
  · rw [uu2 _ _ _ (by omega), uu3 _ _ _ (by omega), f3.2 22 (by omega), uu3 _ _ _ (by omega)]; exact m22
  · rw [uu2 _ _ _ (by omega), uu3 _ _ _ (by omega), f3.2 23 (by omega), uu3 _ _ _ (by omega)]; exact m23
  · rw [uu2 _ _ _ (by omega), uu3 _ _ _ (by omega), f3.2 24 (by omega), uu3 _ _ _ (by omega)]; exact m24
  · rw [uu2 _ _ _ (by omega), uu3 _ _ _ (by omega), f3.2 26 (by omega), uu3 _ _ _ (by omega)]; exact m26
  · rw [uu1]; rfl
  · rw [uu2 _ _ _ (by omega), uu3 _ _ _ (by omega), f3.2 30 (by omega), uu3 _ _ _ (by omega)]; exact m30
  · rw [uu3 _ _ _ (by omega), uu3 _ _ _ (by omega), f3.1 10 (by omega), uu3 _ _ _ (by omega)]; exact mJ r hr
  · rw [uu3 _ _ _ (by omega), uu3 _ _ _ (by omega), f3.1 11 (by omega), uu3 _ _ _ (by omega)]; exact mW k hk
  · have hk : k < pt F + 1 := hk
    show _ = nI (va_up (pG F) (pt F) x.1 k) ∧ _ = nI (va_up (pV F) (pt F) y.1 k)
    rw [uu3 _ _ _ (by omega)]
    by_cases q : k = pt F
    · subst q
      rw [va_up_self, va_up_self, uu2 _ _ _ (by omega), uu1, f3.1 12 (by omega), uu1]
      exact ⟨rfl, rfl⟩
    · rw [va_up_ne _ _ q, va_up_ne _ _ q, uu2 _ _ _ (by omega), uu2 _ _ _ (by omega), f3.1 12 (by omega), uu2 _ _ _ (by omega), uu2 _ _ _ (by omega)]
      exact mTh k (by omega)
  · rw [uu3 _ _ _ (by omega), uu3 _ _ _ (by omega), f3.1 13 (by omega), uu3 _ _ _ (by omega)]; exact mO k hk
theorem sM_w111 (hn : n ≤ 240) (hx : ∀ i, i < n → tx i ≤ 255) (h16 : σ 0 16 = nI n) (h17 : σ 0 17 = nI (p + 1)) (ht : tT σ n tx) (hp : p < n) (hm : mF σ F) (hF : okP F) (hpn : 1 ≤ pn F) (hfu : full F 111 = false) (h : dOut σ (wd0 n tx F 111 p) Q) : Ci E TM yX10_takesOrder iX10_takesOrder (d + 1 + 1 + 1) [.ref 0] σ Q := by
  have hw := full_111 hfu
  have hn8 := hF.1.1
  refine eX10_takesOrder ?_
  rw [hm.1.1, nI_sub1 hpn]
  refine sM_num2 (lo := 0) (hi := pn F - 1) hn hx h16 h17 ht hp (by decide) (by omega) (fN.refl σ).d h (fun s q => by rw [if_pos rfl]; exact q) (fun x s e0 b0 h a17 a18 a19 a20 a21 f => ?_)
  have m1 := (hm.n f)
  obtain ⟨⟨m22, m23, m24, m26, m28, m30⟩, mJ, mW, mTh, mO⟩ := m1
  rw [if_neg (by decide), a19, m30, two_k, vcl (by omega)]
  refine ⟨vin (by omega) (by decide), ?_⟩
  have f2 : fD (tp_u s 13 (2 * po F) (nI x.1)) σ := f.d.w 13 _ _ (by omega)
  refine sM_num2 (lo := 0) (hi := 99) hn hx (by rw [f2.2 16 (by omega)]; exact h16) (by rw [uu3 _ _ _ (by omega)]; exact a17) (fun i hi => by rw [f2.1 9 (by omega) (by omega)]; exact ht i hi) b0.2.2.2.1 (by decide) (by decide) f2 h (fun s q => by rw [if_pos rfl]; exact q) (fun y s2 e1 b1 h c17 c18 c19 c20 c21 f3 => ?_)
  have s30 : s2 0 30 = nI (po F) := by rw [f3.2 30 (by omega), uu3 _ _ _ (by omega)]; exact m30
  rw [if_neg (by decide), c19, s30, two_k1, vcl (by omega), uu3 _ _ _ (show 0 ≠ 13 by omega), s30, nI_1]
  refine ⟨vin (by omega) (by decide), h _ (by rw [uu2 _ _ _ (by omega), uu3 _ _ _ (by omega)]; exact c17) ?_ (by rw [uu2 _ _ _ (by omega), uu3 _ _ _ (by omega), c20, uu3 _ _ _ (by omega)]; exact a20) (by rw [uu2 _ _ _ (by omega), uu3 _ _ _ (by omega), c21, uu3 _ _ _ (by omega)]; exact a21) (((f3.d.t f2).w 13 _ _ (by omega)).u 30 _ (by omega))⟩
  refine ⟨⟨?_, ?_, ?_, ?_, ?_, ?_⟩, fun r hr => ?_, fun k hk => ?_, fun k hk => ?_, fun k hk => ?_⟩
  · rw [uu2 _ _ _ (by omega), uu3 _ _ _ (by omega), f3.2 22 (by omega), uu3 _ _ _ (by omega)]; exact m22
  · rw [uu2 _ _ _ (by omega), uu3 _ _ _ (by omega), f3.2 23 (by omega), uu3 _ _ _ (by omega)]; exact m23
  · rw [uu2 _ _ _ (by omega), uu3 _ _ _ (by omega), f3.2 24 (by omega), uu3 _ _ _ (by omega)]; exact m24
  · rw [uu2 _ _ _ (by omega), uu3 _ _ _ (by omega), f3.2 26 (by omega), uu3 _ _ _ (by omega)]; exact m26
  · rw [uu2 _ _ _ (by omega), uu3 _ _ _ (by omega), f3.2 28 (by omega), uu3 _ _ _ (by omega)]; exact m28
  · rw [uu1]; rfl
  · rw [uu3 _ _ _ (by omega), uu3 _ _ _ (by omega), f3.1 10 (by omega), uu3 _ _ _ (by omega)]; exact mJ r hr
  · rw [uu3 _ _ _ (by omega), uu3 _ _ _ (by omega), f3.1 11 (by omega), uu3 _ _ _ (by omega)]; exact mW k hk
  · rw [uu3 _ _ _ (by omega), uu3 _ _ _ (by omega), f3.1 12 (by omega), uu3 _ _ _ (by omega)]; exact mTh k hk
  · have hk : k < po F + 1 := hk
    show _ = nI (va_up (pR F) (po F) x.1 k) ∧ _ = nI (va_up (pM F) (po F) y.1 k)
    rw [uu3 _ _ _ (by omega)]
    by_cases q : k = po F
    · subst q
      rw [va_up_self, va_up_self, uu2 _ _ _ (by omega), uu1, f3.1 13 (by omega), uu1]
      exact ⟨rfl, rfl⟩
    · rw [va_up_ne _ _ q, va_up_ne _ _ q, uu2 _ _ _ (by omega), uu2 _ _ _ (by omega), f3.1 13 (by omega), uu2 _ _ _ (by omega), uu2 _ _ _ (by omega)]
      exact mO k (by omega)
theorem sM_w112 (hn : n ≤ 240) (hx : ∀ i, i < n → tx i ≤ 255) (h16 : σ 0 16 = nI n) (h17 : σ 0 17 = nI (p + 1)) (ht : tT σ n tx) (hp : p < n) (hm : mF σ F) (hF : okP F) (hpn : 1 ≤ pn F) (h : dOut σ (wd0 n tx F 112 p) Q) : Ci E TM yX10_takesPassage iX10_takesPassage (d + 1 + 1 + 1) [.ref 0] σ Q := by
  have hn8 := hF.1.1
  refine eX10_takesPassage ?_
  rw [hm.1.1, nI_sub1 hpn]
  refine sM_num2 (lo := 0) (hi := pn F - 1) hn hx h16 h17 ht hp (by decide) (by omega) (fN.refl σ).d h (fun s q => by rw [if_pos rfl]; exact q) (fun x s e0 b0 h a17 a18 a19 a20 a21 f => ?_)
  have m1 := (hm.n f)
  rw [if_neg (by decide), a19, m1.1.1, nI_sub1 hpn]
  refine sM_num2 (lo := 0) (hi := pn F - 1) hn hx (by rw [f.2 16 (by omega)]; exact h16) a17 (fun i hi => by rw [f.1 9 (by omega)]; exact ht i hi) b0.2.2.2.1 (by decide) (by omega) f.d h (fun s q => by rw [if_pos rfl]; exact q) (fun y s2 e1 b1 h c17 c18 c19 c20 c21 f3 => ?_)
  have m2 := (m1.n f3)
  obtain ⟨⟨m22, m23, m24, m26, m28, m30⟩, mJ, mW, mTh, mO⟩ := m2
  have f4 : fD s2 σ := f3.d.t f.d
  have hx1 : x.1 < pn F := by have := b0.2.1; omega
  have hy1 : y.1 < pn F := by have := b1.2.1; omega
  have fail : ∀ R : Int32 → tp_M → Prop, (∀ s', s' 0 20 = nI 4 → s' 0 21 = nI y.2.2 → fD s' σ → R 0 s') → Ci E TM yX10_fails iX10_fails (d + 1 + 1) [.ref 0, .int 4, .int (s2 0 18)] s2 R := by
    intro R hR
    refine eX10_fails _ _ ?_
    rw [c18]
    exact hR _ (by rw [uu2 _ _ _ (by omega), uu1]; rfl) (uu1 _ _ _ _) ((f4.u 20 _ (by omega)).u 21 _ (by omega))
  change dOut σ (wd2 F 112 x.1 y.1 y.2.1 y.2.2) Q at h
  unfold wd2 at h
  rw [if_neg (by decide), c19]
  by_cases kab : x.1 = y.1
  · rw [if_pos ⟨rfl, Or.inl kab⟩] at h
    rw [if_pos (by rw [kab])]
    exact fail _ (fun s' e1 e2 e3 => ⟨Or.inl rfl, h s' e1 e2 e3⟩)
  · rw [if_neg (by rw [nI_eq (by omega) (by omega)]; exact fun q => kab q.symm), vcl (by omega), mJ x.1 (by omega)]
    refine ⟨vin (by omega) (by decide), sm_hasC (by omega) (fun hb => ?_) (fun hb => ?_)⟩
    · rw [if_pos ⟨rfl, Or.inr hb⟩] at h
      rw [if_neg (by decide)]
      exact fail _ (fun s' e1 e2 e3 => ⟨Or.inl rfl, h s' e1 e2 e3⟩)
    · rw [if_neg (fun q => by rcases q.2 with z | z; exact kab z; rw [hb] at z; cases z)] at h
      rw [if_pos rfl, uu3 _ _ _ (show 0 ≠ 10 by omega), uu3 _ _ _ (show 0 ≠ 10 by omega), c19, vcl (by omega), uu3 _ _ _ (show 0 ≠ 10 by omega), m24, nI_1, mJ x.1 (by omega), uu2 _ _ _ (Ne.symm kab), mJ y.1 (by omega)]
      refine ⟨vin (by omega) (by decide), vin (by omega) (by decide), vin (by omega) (by decide), vin (by omega) (by decide), h _ ?_ ?_ ?_ ?_ (((f4.w 10 _ _ (by omega)).w 10 _ _ (by omega)).u 24 _ (by omega))⟩
      · rw [uu2 _ _ _ (by omega), uu3 _ _ _ (by omega), uu3 _ _ _ (by omega)]; exact c17
      · refine ⟨⟨?_, ?_, ?_, ?_, ?_, ?_⟩, fun r hr => ?_, fun k hk => ?_, fun k hk => ?_, fun k hk => ?_⟩
        · rw [uu2 _ _ _ (by omega), uu3 _ _ _ (by omega), uu3 _ _ _ (by omega)]; exact m22
        · rw [uu2 _ _ _ (by omega), uu3 _ _ _ (by omega), uu3 _ _ _ (by omega)]; exact m23
        · rw [uu1]; rfl
        · rw [uu2 _ _ _ (by omega), uu3 _ _ _ (by omega), uu3 _ _ _ (by omega)]; exact m26
        · rw [uu2 _ _ _ (by omega), uu3 _ _ _ (by omega), uu3 _ _ _ (by omega)]; exact m28
        · rw [uu2 _ _ _ (by omega), uu3 _ _ _ (by omega), uu3 _ _ _ (by omega)]; exact m30
        · rw [uu3 _ _ _ (by omega)]
          show tp_u _ 10 y.1 _ 10 r = va_up (va_up (pJ F) x.1 (pJ F x.1 ||| bit y.1)) y.1 (pJ F y.1 ||| bit x.1) r
          by_cases q : r = y.1
          · rw [q, uu1, va_up_self]
          · rw [uu2 _ _ _ q, va_up_ne _ _ q]
            by_cases q2 : r = x.1
            · rw [q2, uu1, va_up_self]
            · rw [uu2 _ _ _ q2, va_up_ne _ _ q2]; exact mJ r hr
        · rw [uu3 _ _ _ (by omega), uu3 _ _ _ (by omega), uu3 _ _ _ (by omega)]; exact mW k hk
        · rw [uu3 _ _ _ (by omega), uu3 _ _ _ (by omega), uu3 _ _ _ (by omega)]; exact mTh k hk
        · rw [uu3 _ _ _ (by omega), uu3 _ _ _ (by omega), uu3 _ _ _ (by omega)]; exact mO k hk
      · rw [uu2 _ _ _ (by omega), uu3 _ _ _ (by omega), uu3 _ _ _ (by omega), c20]; exact a20
      · rw [uu2 _ _ _ (by omega), uu3 _ _ _ (by omega), uu3 _ _ _ (by omega), c21]; exact a21
end MW

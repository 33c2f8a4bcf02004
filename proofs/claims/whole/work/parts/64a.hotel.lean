/-! ===== hotel: the reference's loop ===== -/
theorem chr_end {n : Nat} {tx : Nat → Nat} {p : Nat} (hx : ∀ i, i < n → tx i ≤ 255) : chr n tx p = -1 ↔ n ≤ p := by
  unfold chr
  by_cases c : p < n
  · have := hx p c
    rw [if_pos c]
    exact ⟨fun q => absurd q (nI_ne_m1 (by omega)), fun q => by omega⟩
  · rw [if_neg c]
    exact ⟨fun _ => by omega, fun _ => rfl⟩
theorem sM_loop {E : tp_E} {d : Nat} {Q : Int32 → tp_M → Prop} {n : Nat} {tx : Nat → Nat} {σ0 : tp_M} {R : (Nat × Nat) ⊕ PD} (hn : n ≤ 240) (hx : ∀ i, i < n → tx i ≤ 255) (h16 : σ0 0 16 = nI n) (ht : tT σ0 n tx) (h20 : σ0 0 20 = 0) (h21 : σ0 0 21 = -1) (h : match R with
    | .inl e => ∀ σ', σ' 0 20 = nI e.1 → σ' 0 21 = nI e.2 → fD σ' σ0 → Wi E TM iX10_hotel (d + 1 + 1 + 1 + 1 + 1 + 1) Q 88 [(0, .ref 0), (1, .int 0)] [] σ'
    | .inr G => ∀ σ', mF σ' G → σ' 0 20 = 0 → σ' 0 21 = -1 → fD σ' σ0 → Wi E TM iX10_hotel (d + 1 + 1 + 1 + 1 + 1 + 1) Q 88 [(0, .ref 0), (1, .int 1)] [] σ') : ∀ f j F p s, j + f = 240 → j ≤ skip n tx p → p ≤ n → okP F → mF s F → s 0 17 = nI p → s 0 20 = 0 → s 0 21 = -1 → fD s σ0 → prs n tx f F (skip n tx p) = R → Wi E TM iX10_hotel (d + 1 + 1 + 1 + 1 + 1 + 1) Q 68 [(0, .ref 0), (1, .int 1)] [] s := by
  intro f
  induction f with
  | zero =>
    intro j F p s hj hjp hp hF hm s17 s20 s21 fd hR
    refine bX10_hotel_68 _ ?_
    rw [if_neg (by decide)]
    refine sM_here hn hx (by rw [fd.2 16 (by omega)]; exact h16) s17 (fun i hi => by rw [fd.1 9 (by omega) (by omega)]; exact ht i hi) hp (fun s1 a17 a18 a0 aq => ?_)
    have f1 : fN s1 s := ⟨aq, fun k hk => a0 k (by omega) (by omega)⟩
    rw [if_pos ((chr_end hx).mpr (by omega))]
    rw [← hR] at h
    exact h s1 (hm.n f1) (by rw [a0 20 (by omega) (by omega)]; exact s20) (by rw [a0 21 (by omega) (by omega)]; exact s21) (f1.d.t fd)
  | succ f ih =>
    intro j F p s hj hjp hp hF hm s17 s20 s21 fd hR
    refine bX10_hotel_68 _ ?_
    rw [if_neg (by decide)]
    refine sM_here hn hx (by rw [fd.2 16 (by omega)]; exact h16) s17 (fun i hi => by rw [fd.1 9 (by omega) (by omega)]; exact ht i hi) hp (fun s1 a17 a18 a0 aq => ?_)
    have f1 : fN s1 s := ⟨aq, fun k hk => a0 k (by omega) (by omega)⟩
    have t20 : s1 0 20 = 0 := by rw [a0 20 (by omega) (by omega)]; exact s20
    have t21 : s1 0 21 = -1 := by rw [a0 21 (by omega) (by omega)]; exact s21
    have fd1 : fD s1 σ0 := f1.d.t fd
    unfold prs at hR
    by_cases c : n ≤ skip n tx p
    · rw [if_pos ((chr_end hx).mpr c)]
      rw [if_pos c] at hR
      rw [← hR] at h
      exact h s1 (hm.n f1) t20 t21 fd1
    · rw [if_neg (fun q => c ((chr_end hx).mp q))]
      rw [if_neg c] at hR
      refine sM_clause (F := F) hn hx (by rw [fd1.2 16 (by omega)]; exact h16) a17 (fun i hi => by rw [fd1.1 9 (by omega) (by omega)]; exact ht i hi) (by omega) (skip_skip hn p) (hm.n f1) hF ?_
      cases hz : clz n tx F (skip n tx p) with
      | inl e =>
        rw [hz] at hR
        rw [← hR] at h
        intro s2 b20 b21 fd2
        refine bX10_hotel_68 _ ?_
        rw [if_pos rfl]
        exact h s2 b20 b21 (fd2.t fd1)
      | inr y =>
        rw [hz] at hR
        obtain ⟨o1, o2, o3⟩ := clz_ok hx (by omega) hF hz
        intro s2 b17 mF2 b20 b21 fd2
        have hs := (skp_le n tx 240 y.2).1
        exact ih (j + 1) y.1 y.2 s2 (by omega) (Nat.le_trans (by omega) hs) o3 o1 mF2 b17 (b20.trans t20) (b21.trans t21) (fd2.t fd1) hR
/-! ===== hotel: the new state ===== -/
def A0 (G : PD) : AS := (0, 0, pS G, (fun _ => 0), (fun _ => 0), (fun t => if t < pt G then -1 else -3))
theorem A0_ok {G : PD} (hG : okP G) : okA G (A0 G) := by
  refine ⟨⟨0, by omega, rfl⟩, fun k hk => ⟨(hG.2.2.1 k hk).1, Or.inl rfl⟩, fun k _ => rfl, fun t ht => if_neg (by omega), fun t ht => Or.inl (if_pos ht)⟩
def dSetT (D : DD) (T : Nat × (Nat → Nat) × Int32) : DD := (D.1, D.2.1, D.2.2.1, D.2.2.2.1, D.2.2.2.2.1, T, D.2.2.2.2.2.2)
def dNew (D : DD) (G : PD) : DD := (G, A0 G, dZ D, (0, (dU D).2), (fun _ => none), (0, (dT D).2.1, -1), (0, (dN D).2), (0, (dB D).2))
theorem sC_open {E : tp_E} {d : Nat} {σ : tp_M} {Q : tp_M → Prop} {G : PD} (hG : okP G) (hc : cP σ 1 G) (h : ∀ σ', cS σ' 9 G (A0 G) → (∀ q, q < 9 ∨ 13 < q → σ' q = σ q) → Q σ') : Cv E TC yX8_open iX8_open (d + 1) [.ref 9, .ref 1] σ Q := by
  have h4 := hG.1.2.2.2.1
  have h8 := hG.1.2.2.2.2.1
  refine eX8_open ?_
  generalize hs0 : tp_u (tp_u σ 9 0 0) 9 1 0 = s0
  have f0 : ∀ q, q ≠ 9 → s0 q = σ q := fun q a => by rw [← hs0, uu3 _ _ _ a, uu3 _ _ _ a]
  refine lup (fun j s => Wv E TC iX8_open (d + 1) Q 12 [(0, .ref 9), (1, .ref 1), (2, .int (nI j))] [] s) (fun j s => (∀ q, q ≠ 10 → q ≠ 11 → q ≠ 12 → s q = s0 q) ∧ ∀ k, k < j → s 10 k = σ 3 k ∧ s 11 k = 0 ∧ s 12 k = 0) 4 ?_ ?_ 0 s0 (by omega) ⟨fun q _ _ _ => rfl, fun k hk => absurd hk (Nat.not_lt_zero k)⟩
  · intro s ⟨g1, g2⟩
    refine bX8_open_12 _ ?_
    rw [if_pos (by decide)]
    refine lup (fun t s' => Wv E TC iX8_open (d + 1) Q 51 [(0, .ref 9), (1, .ref 1), (2, .int (nI t))] [] s') (fun t s' => (∀ q, q ≠ 13 → s' q = s q) ∧ ∀ k, k < t → s' 13 k = if k < pt G then -1 else -3) 8 ?_ ?_ 0 s (by omega) ⟨fun q _ => rfl, fun k hk => absurd hk (Nat.not_lt_zero k)⟩
    · intro s1 ⟨k1, k2⟩
      refine bX8_open_51 _ ?_
      rw [if_pos (by decide)]
      refine h s1 ⟨⟨?_, ?_⟩, fun k hk => ?_, fun k hk => ?_, fun k hk => ?_, fun t ht => k2 t ht⟩ (fun q hq => ?_)
      · rw [k1 9 (by omega), g1 9 (by omega) (by omega) (by omega), ← hs0, uu2 _ _ _ (by omega), uu1]; rfl
      · rw [k1 9 (by omega), g1 9 (by omega) (by omega) (by omega), ← hs0, uu1]; rfl
      · rw [k1 10 (by omega), (g2 k (by omega)).1]; exact (hc.2.2.1 k hk).1
      · rw [k1 11 (by omega), (g2 k (by omega)).2.1]; rfl
      · rw [k1 12 (by omega), (g2 k (by omega)).2.2]; rfl
      · rw [k1 q (by omega), g1 q (by omega) (by omega) (by omega), f0 q (by omega)]
    · intro t s1 ht ⟨k1, k2⟩ ih
      refine bX8_open_51 _ ?_
      rw [if_neg (nle_lit 8 ht (by decide)), vcl (by omega), nI_1, k1 1 (by omega), g1 1 (by omega) (by omega) (by omega), f0 1 (by omega), hc.1.2.2.2.2.1]
      by_cases c : pt G ≤ t
      · rw [if_pos (nI_le c (by omega))]
        refine ⟨vin ht (by decide), ih _ ⟨fun q a => by rw [uu3 _ _ _ a]; exact k1 q a, fun k hk => ?_⟩⟩
        by_cases q : k = t
        · subst q; rw [uu1, if_neg (by omega)]
        · rw [uu2 _ _ _ q]; exact k2 k (by omega)
      · rw [if_neg (nI_ge (by omega) (by omega))]
        refine ⟨vin ht (by decide), ih _ ⟨fun q a => by rw [uu3 _ _ _ a]; exact k1 q a, fun k hk => ?_⟩⟩
        by_cases q : k = t
        · subst q; rw [uu1, if_pos (by omega)]
        · rw [uu2 _ _ _ q]; exact k2 k (by omega)
  · intro j s hj ⟨g1, g2⟩ ih
    refine bX8_open_12 _ ?_
    rw [if_neg (nle_lit 4 hj (by decide)), vcl (by omega), nI_1, g1 3 (by omega) (by omega) (by omega), f0 3 (by omega)]
    refine ⟨vin hj (by decide), vin hj (by decide), vin hj (by decide), vin hj (by decide), ih _ ⟨fun q a b c => by rw [uu3 _ _ _ c, uu3 _ _ _ b, uu3 _ _ _ a]; exact g1 q a b c, fun k hk => ?_⟩⟩
    by_cases q : k = j
    · subst q
      exact ⟨by rw [uu3 _ _ _ (by omega), uu3 _ _ _ (by omega), uu1], by rw [uu3 _ _ _ (by omega), uu1], by rw [uu1]⟩
    · have := g2 k (by omega)
      exact ⟨by rw [uu3 _ _ _ (by omega), uu3 _ _ _ (by omega), uu2 _ _ _ q]; exact this.1, by rw [uu3 _ _ _ (by omega), uu2 _ _ _ q, uu3 _ _ _ (by omega)]; exact this.2.1, by rw [uu2 _ _ _ q, uu3 _ _ _ (by omega), uu3 _ _ _ (by omega)]; exact this.2.2⟩
theorem sC_become5 {E : tp_E} {d : Nat} {σ : tp_M} {Q : tp_M → Prop} {G : PD} (hG : okP G) (hc : cP σ 28 G) (h : ∀ σ', cP σ' 1 G → (∀ q, q < 1 ∨ 8 < q → σ' q = σ q) → Q σ') : Cv E TC yX5_become iX5_become (d + 1) [.ref 1, .ref 28] σ Q := by
  have h4 := hG.1.2.2.2.1
  have h8 := hG.1.2.2.2.2.1
  have ho := hG.1.2.2.2.2.2
  refine eX5_become ?_
  rw [show Int32.toNatClampNeg 0 = 0 from rfl, show Int32.toNatClampNeg 4 = 4 from rfl, show Int32.toNatClampNeg 8 = 8 from rfl]
  simp only [uu3 _ _ _ (show (28 : Nat) ≠ 1 by omega)]
  generalize hs : tp_u (tp_u (tp_u (tp_u (tp_u (tp_u σ 1 0 (σ 28 0)) 1 1 (σ 28 1)) 1 2 (σ 28 2)) 1 3 (σ 28 3)) 1 4 (σ 28 4)) 1 5 (σ 28 5) = s
  have f1 : ∀ q, q ≠ 1 → s q = σ q := fun q a => by rw [← hs, uu3 _ _ _ a, uu3 _ _ _ a, uu3 _ _ _ a, uu3 _ _ _ a, uu3 _ _ _ a, uu3 _ _ _ a]
  obtain ⟨⟨c1, c2, c3, c4, c5, c6⟩, cJ, cW, cTh, cO⟩ := hc
  refine h _ ⟨⟨?_, ?_, ?_, ?_, ?_, ?_⟩, fun r hr => ?_, fun k hk => ⟨?_, ?_⟩, fun k hk => ⟨?_, ?_⟩, fun k hk => ⟨?_, ?_⟩⟩ (fun q hq => ?_)
  · rw [cp_ne _ (by omega), cp_ne _ (by omega), cp_ne _ (by omega), cp_ne _ (by omega), cp_ne _ (by omega), cp_ne _ (by omega), cp_ne _ (by omega), ← hs, uu2 _ _ _ (by omega), uu2 _ _ _ (by omega), uu2 _ _ _ (by omega), uu2 _ _ _ (by omega), uu2 _ _ _ (by omega), uu1]; exact c1
  · rw [cp_ne _ (by omega), cp_ne _ (by omega), cp_ne _ (by omega), cp_ne _ (by omega), cp_ne _ (by omega), cp_ne _ (by omega), cp_ne _ (by omega), ← hs, uu2 _ _ _ (by omega), uu2 _ _ _ (by omega), uu2 _ _ _ (by omega), uu2 _ _ _ (by omega), uu1]; exact c2
  · rw [cp_ne _ (by omega), cp_ne _ (by omega), cp_ne _ (by omega), cp_ne _ (by omega), cp_ne _ (by omega), cp_ne _ (by omega), cp_ne _ (by omega), ← hs, uu2 _ _ _ (by omega), uu2 _ _ _ (by omega), uu2 _ _ _ (by omega), uu1]; exact c3
  · rw [cp_ne _ (by omega), cp_ne _ (by omega), cp_ne _ (by omega), cp_ne _ (by omega), cp_ne _ (by omega), cp_ne _ (by omega), cp_ne _ (by omega), ← hs, uu2 _ _ _ (by omega), uu2 _ _ _ (by omega), uu1]; exact c4
  · rw [cp_ne _ (by omega), cp_ne _ (by omega), cp_ne _ (by omega), cp_ne _ (by omega), cp_ne _ (by omega), cp_ne _ (by omega), cp_ne _ (by omega), ← hs, uu2 _ _ _ (by omega), uu1]; exact c5
  · rw [cp_ne _ (by omega), cp_ne _ (by omega), cp_ne _ (by omega), cp_ne _ (by omega), cp_ne _ (by omega), cp_ne _ (by omega), cp_ne _ (by omega), ← hs, uu1]; exact c6
  · rw [cp_ne _ (by omega), cp_ne _ (by omega), cp_ne _ (by omega), cp_ne _ (by omega), cp_ne _ (by omega), cp_ne _ (by omega), cp_eq _ hr, f1 29 (by omega)]; exact cJ r hr
  · rw [cp_ne _ (by omega), cp_ne _ (by omega), cp_ne _ (by omega), cp_ne _ (by omega), cp_ne _ (by omega), cp_eq _ (by omega), cp_ne _ (by omega), f1 30 (by omega)]; exact (cW k hk).1
  · rw [cp_ne _ (by omega), cp_ne _ (by omega), cp_ne _ (by omega), cp_ne _ (by omega), cp_eq _ (by omega), cp_ne _ (by omega), cp_ne _ (by omega), f1 31 (by omega)]; exact (cW k hk).2
  · rw [cp_ne _ (by omega), cp_ne _ (by omega), cp_ne _ (by omega), cp_eq _ (by omega), cp_ne _ (by omega), cp_ne _ (by omega), cp_ne _ (by omega), f1 32 (by omega)]; exact (cTh k hk).1
  · rw [cp_ne _ (by omega), cp_ne _ (by omega), cp_eq _ (by omega), cp_ne _ (by omega), cp_ne _ (by omega), cp_ne _ (by omega), cp_ne _ (by omega), f1 33 (by omega)]; exact (cTh k hk).2
  · rw [cp_ne _ (by omega), cp_eq _ (by omega), cp_ne _ (by omega), cp_ne _ (by omega), cp_ne _ (by omega), cp_ne _ (by omega), cp_ne _ (by omega), f1 34 (by omega)]; exact (cO k hk).1
  · rw [cp_eq _ (by omega), cp_ne _ (by omega), cp_ne _ (by omega), cp_ne _ (by omega), cp_ne _ (by omega), cp_ne _ (by omega), cp_ne _ (by omega), f1 35 (by omega)]; exact (cO k hk).2
  · rw [cp_ne _ (by omega), cp_ne _ (by omega), cp_ne _ (by omega), cp_ne _ (by omega), cp_ne _ (by omega), cp_ne _ (by omega), cp_ne _ (by omega), f1 q (by omega)]

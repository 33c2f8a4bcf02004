/-! ===== reading: all of it ===== -/
theorem addP_ok {F : PD} {L a b : Nat} (hF : okP F) (h5 : five L) (h1 : L = 104 ∨ 1 ≤ pn F) (hf : full F L = false) (ha : fl L ≤ a) (ha2 : a ≤ fm F L) (hb : sl L ≤ b) (hb2 : b ≤ sm F L) (hs : ¬ (L = 112 ∧ (a = b ∨ bt (pJ F a) b = true))) : okP (addP F L a b) := by
  obtain ⟨⟨b1, b2, b3, b4, b5, b6⟩, oJ, oW, oT, oO⟩ := hF
  unfold addP
  rcases h5 with k | k | k | k | k
  · subst k
    have h0 := full_104 hf
    unfold fm at ha2
    unfold sm at hb2
    rw [if_pos rfl] at ha2
    rw [if_neg (by decide), if_neg (by decide)] at hb2
    rw [if_neg (by decide), if_neg (by decide), if_neg (by decide), if_neg (by decide)]
    refine ⟨⟨ha2, hb2, b3, b4, b5, b6⟩, fun r j hr hj hbt => ?_, fun k hk => ?_, oT, fun o ho => ?_⟩
    · have := (oJ r j hr hj hbt).1; omega
    · have := (oW k hk).1; omega
    · have := (oO o ho).1; omega
  · subst k
    have h0 := full_112 hf
    unfold fm at ha2
    unfold sm at hb2
    rw [if_neg (by decide), if_neg (by decide)] at ha2
    rw [if_pos rfl] at hb2
    have hpn : 1 ≤ pn F := by rcases h1 with q | q <;> omega
    rw [if_neg (by decide), if_pos rfl]
    have hab : a ≠ b := fun q => hs ⟨rfl, Or.inl q⟩
    refine ⟨⟨b1, b2, h0, b4, b5, b6⟩, fun r j hr hj hbt => ?_, oW, oT, oO⟩
    change bt (va_up (va_up (pJ F) a (pJ F a ||| bit b)) b (pJ F b ||| bit a) r) j = true at hbt
    show j < pn F ∧ j ≠ r ∧ r < pn F
    by_cases q : r = b
    · subst q
      rw [va_up_self, b_or, b_bit a (by omega) hj] at hbt
      by_cases z : j = a
      · subst z; exact ⟨by omega, hab, by omega⟩
      · rw [decide_eq_false z, Bool.or_false] at hbt
        exact oJ _ j hr hj hbt
    · rw [va_up_ne _ _ q] at hbt
      by_cases q2 : r = a
      · subst q2
        rw [va_up_self, b_or, b_bit b (by omega) hj] at hbt
        by_cases z : j = b
        · subst z; exact ⟨by omega, Ne.symm hab, by omega⟩
        · rw [decide_eq_false z, Bool.or_false] at hbt
          exact oJ _ j hr hj hbt
      · rw [va_up_ne _ _ q2] at hbt
        exact oJ r j hr hj hbt
  · subst k
    have h0 := full_119 hf
    unfold fm at ha2
    unfold sm at hb2
    unfold sl at hb
    rw [if_neg (by decide), if_neg (by decide)] at ha2
    rw [if_neg (by decide), if_pos rfl] at hb2
    rw [if_pos rfl] at hb
    have hpn : 1 ≤ pn F := by rcases h1 with q | q <;> omega
    rw [if_neg (by decide), if_neg (by decide), if_neg (by decide), if_pos rfl]
    refine ⟨⟨b1, b2, b3, h0, b5, b6⟩, oJ, fun k hk => ?_, oT, oO⟩
    show va_up (pS F) (pw F) a k < pn F ∧ 1 ≤ va_up (pC F) (pw F) b k ∧ va_up (pC F) (pw F) b k ≤ 999
    have hk : k < pw F + 1 := hk
    by_cases q : k = pw F
    · rw [q, va_up_self, va_up_self]; omega
    · rw [va_up_ne _ _ q, va_up_ne _ _ q]; exact oW k (by omega)
  · subst k
    have h0 := full_116 hf
    unfold fm at ha2
    unfold fl at ha
    unfold sm at hb2
    rw [if_neg (by decide), if_pos rfl] at ha2
    rw [if_neg (by decide), if_pos rfl] at ha
    rw [if_neg (by decide), if_neg (by decide)] at hb2
    rw [if_neg (by decide), if_neg (by decide), if_pos rfl]
    refine ⟨⟨b1, b2, b3, b4, h0, b6⟩, oJ, oW, fun k hk => ?_, oO⟩
    show 1 ≤ va_up (pG F) (pt F) a k ∧ va_up (pG F) (pt F) a k ≤ 99 ∧ va_up (pV F) (pt F) b k ≤ 99
    have hk : k < pt F + 1 := hk
    by_cases q : k = pt F
    · rw [q, va_up_self, va_up_self]; omega
    · rw [va_up_ne _ _ q, va_up_ne _ _ q]; exact oT k (by omega)
  · subst k
    have h0 := full_111 hf
    unfold fm at ha2
    unfold sm at hb2
    rw [if_neg (by decide), if_neg (by decide)] at ha2
    rw [if_neg (by decide), if_neg (by decide)] at hb2
    have hpn : 1 ≤ pn F := by rcases h1 with q | q <;> omega
    rw [if_pos rfl]
    refine ⟨⟨b1, b2, b3, b4, b5, h0⟩, oJ, oW, oT, fun k hk => ?_⟩
    show va_up (pR F) (po F) a k < pn F ∧ va_up (pM F) (po F) b k ≤ 99
    have hk : k < po F + 1 := hk
    by_cases q : k = po F
    · rw [q, va_up_self, va_up_self]; omega
    · rw [va_up_ne _ _ q, va_up_ne _ _ q]; exact oO k (by omega)
section PR
variable {n : Nat} {tx : Nat → Nat} {F : PD} {p : Nat}
theorem clz_ok (hx : ∀ i, i < n → tx i ≤ 255) (hp : p < n) (hF : okP F) {y : PD × Nat} (h : clz n tx F p = .inr y) : okP y.1 ∧ p < y.2 ∧ y.2 ≤ n := by
  unfold clz at h
  by_cases hf : flt F (tx p) = 0
  · rw [if_neg (fun q => q hf)] at h
    obtain ⟨h5, h1, hfu⟩ := flt_0 hf
    unfold cl0 at h
    cases hn1 : nmb n tx (fl (tx p)) (fm F (tx p)) (p + 1) with
    | inl x => rw [hn1] at h; cases h
    | inr x =>
      rw [hn1] at h
      obtain ⟨x1, x2, x3, x4, x5⟩ := nmb_in hx (by omega) hn1
      change cl1 n tx F (tx p) x.1 x.2.1 = .inr y at h
      unfold cl1 at h
      cases hn2 : nmb n tx (sl (tx p)) (sm F (tx p)) x.2.1 with
      | inl z => rw [hn2] at h; cases h
      | inr z =>
        rw [hn2] at h
        obtain ⟨y1, y2, y3, y4, y5⟩ := nmb_in hx x4 hn2
        change cl2 n tx F (tx p) x.1 z.1 z.2.1 z.2.2 = .inr y at h
        unfold cl2 at h
        by_cases c : tx p = 112 ∧ (x.1 = z.1 ∨ bt (pJ F x.1) z.1 = true)
        · rw [if_pos c] at h; cases h
        · rw [if_neg c] at h
          have hs1 : z.2.1 ≤ skip n tx z.2.1 := (skp_le n tx 240 z.2.1).1
          by_cases c2 : skip n tx z.2.1 < n ∧ tx (skip n tx z.2.1) = 59
          · rw [if_pos c2] at h
            cases h
            exact ⟨addP_ok hF h5 h1 hfu x1 x2 y1 y2 c, by show p < skip n tx z.2.1 + 1; omega, by show skip n tx z.2.1 + 1 ≤ n; omega⟩
          · rw [if_neg c2] at h; cases h
  · rw [if_pos hf] at h; cases h
theorem clz_err {e : Nat × Nat} (h : clz n tx F p = .inl e) : e.1 ≠ 0 ∧ e.1 ≤ 4 := by
  unfold clz at h
  by_cases hf : flt F (tx p) = 0
  · rw [if_neg (fun q => q hf)] at h
    unfold cl0 at h
    cases hn1 : nmb n tx (fl (tx p)) (fm F (tx p)) (p + 1) with
    | inl x => rw [hn1] at h; cases h; exact nmb_err hn1
    | inr x =>
      rw [hn1] at h
      change cl1 n tx F (tx p) x.1 x.2.1 = .inl e at h
      unfold cl1 at h
      cases hn2 : nmb n tx (sl (tx p)) (sm F (tx p)) x.2.1 with
      | inl z => rw [hn2] at h; cases h; exact nmb_err hn2
      | inr z =>
        rw [hn2] at h
        change cl2 n tx F (tx p) x.1 z.1 z.2.1 z.2.2 = .inl e at h
        unfold cl2 at h
        by_cases c : tx p = 112 ∧ (x.1 = z.1 ∨ bt (pJ F x.1) z.1 = true)
        · rw [if_pos c] at h; cases h; exact ⟨(by decide : (4 : Nat) ≠ 0), (by decide : (4 : Nat) ≤ 4)⟩
        · rw [if_neg c] at h
          by_cases c2 : skip n tx z.2.1 < n ∧ tx (skip n tx z.2.1) = 59
          · rw [if_pos c2] at h; cases h
          · rw [if_neg c2] at h; cases h; exact ⟨(by decide : (1 : Nat) ≠ 0), (by decide : (1 : Nat) ≤ 4)⟩
  · rw [if_pos hf] at h
    cases h
    refine ⟨hf, ?_⟩
    show flt F (tx p) ≤ 4
    unfold flt
    by_cases c1 : ¬ five (tx p)
    · rw [if_pos c1]; omega
    · rw [if_neg c1]
      by_cases c2 : pn F = 0 ∧ tx p ≠ 104
      · rw [if_pos c2]; omega
      · rw [if_neg c2]
        by_cases c3 : full F (tx p) = true
        · rw [if_pos c3]; omega
        · rw [if_neg c3]; omega
end PR
def prs (n : Nat) (tx : Nat → Nat) : Nat → PD → Nat → (Nat × Nat) ⊕ PD
  | 0, F, _ => .inr F
  | f + 1, F, p => if n ≤ p then .inr F else match clz n tx F p with
    | .inl e => .inl e
    | .inr y => prs n tx f y.1 (skip n tx y.2)
def P0 : PD := ((0, 0, 0, 0, 0, 0), (fun _ => 0), (fun _ => 0), (fun _ => 0), (fun _ => 0), (fun _ => 0), (fun _ => 0), (fun _ => 0))
theorem P0_ok : okP P0 := ⟨⟨by decide, by decide, by decide, by decide, by decide, by decide⟩, fun r j _ _ h => (by rw [show pJ P0 r = 0 from rfl, b_0] at h; cases h), fun k hk => absurd hk (Nat.not_lt_zero k), fun k hk => absurd hk (Nat.not_lt_zero k), fun k hk => absurd hk (Nat.not_lt_zero k)⟩
abbrev rdA (n : Nat) (tx : Nat → Nat) : (Nat × Nat) ⊕ PD := prs n tx 240 P0 (skip n tx 0)
theorem prs_ok {n : Nat} {tx : Nat → Nat} (hx : ∀ i, i < n → tx i ≤ 255) : ∀ f F p, okP F → (∀ G, prs n tx f F p = .inr G → okP G) ∧ (∀ e, prs n tx f F p = .inl e → e.1 ≠ 0 ∧ e.1 ≤ 4)
  | 0, F, p, hF => ⟨fun G h => (by cases h; exact hF), fun e h => (by cases h)⟩
  | f + 1, F, p, hF => by
    unfold prs
    by_cases c : n ≤ p
    · rw [if_pos c]; exact ⟨fun G h => (by cases h; exact hF), fun e h => (by cases h)⟩
    · rw [if_neg c]
      cases hz : clz n tx F p with
      | inl e => exact ⟨fun G h => (by cases h), fun e' h => (by cases h; exact clz_err hz)⟩
      | inr y => exact prs_ok hx f y.1 _ (clz_ok hx (by omega) hF hz).1
section RA
variable {E : tp_E} {d : Nat} {σ : tp_M} {n : Nat} {tx : Nat → Nat}
theorem sC_readAll {Q : Int32 → tp_M → Prop} (hn : n ≤ 240) (hx : ∀ i, i < n → tx i ≤ 255) (h2 : σ 27 2 = nI n) (ht : rT σ n tx) (h : match rdA n tx with
    | .inl e => ∀ σ', σ' 27 2 = 0 → σ' 27 3 = nI e.2 → (∀ q, ¬ (27 ≤ q ∧ q ≤ 35) → σ' q = σ q) → Q (nI e.1) σ'
    | .inr G => ∀ σ', σ' 27 2 = 0 → σ' 27 3 = -1 → cP σ' 28 G → (∀ q, ¬ (27 ≤ q ∧ q ≤ 35) → σ' q = σ q) → Q 0 σ') : Ci E TC yX6_readAll iX6_readAll (d + 1 + 1 + 1 + 1 + 1) [.ref 27] σ Q := by
  generalize hR : rdA n tx = R at h
  refine eX6_readAll (eX5_clear ?_)
  refine lup (fun j s => Wv E TC iX5_clear (d + 1 + 1 + 1 + 1) _ 32 [(0, .ref 28), (1, .int (nI j))] [] s) (fun j s => (s 28 0 = 0 ∧ s 28 1 = 0 ∧ s 28 2 = 0 ∧ s 28 3 = 0 ∧ s 28 4 = 0 ∧ s 28 5 = 0) ∧ (∀ r, r < j → s 29 r = 0) ∧ ∀ q, q ≠ 28 → q ≠ 29 → s q = σ q) 8 ?_ ?_ 0 _ (by omega) ⟨⟨by rw [uu2 _ _ _ (by omega), uu2 _ _ _ (by omega), uu2 _ _ _ (by omega), uu2 _ _ _ (by omega), uu2 _ _ _ (by omega), uu1], by rw [uu2 _ _ _ (by omega), uu2 _ _ _ (by omega), uu2 _ _ _ (by omega), uu2 _ _ _ (by omega), uu1], by rw [uu2 _ _ _ (by omega), uu2 _ _ _ (by omega), uu2 _ _ _ (by omega), uu1], by rw [uu2 _ _ _ (by omega), uu2 _ _ _ (by omega), uu1], by rw [uu2 _ _ _ (by omega), uu1], by rw [uu1]⟩, fun r hr => absurd hr (Nat.not_lt_zero r), fun q a b => by rw [uu3 _ _ _ a, uu3 _ _ _ a, uu3 _ _ _ a, uu3 _ _ _ a, uu3 _ _ _ a, uu3 _ _ _ a]⟩
  rotate_left
  · intro j s hj ⟨g1, g2, g3⟩ ih
    refine bX5_clear_32 _ ?_
    rw [if_neg (nle_lit 8 hj (by decide)), vcl (by omega), nI_1]
    refine ⟨vin hj (by decide), ih _ ⟨by rw [uu3 _ _ _ (by omega)]; exact g1, fun r hr => ?_, fun q a b => by rw [uu3 _ _ _ b]; exact g3 q a b⟩⟩
    by_cases q : r = j
    · subst q; rw [uu1]
    · rw [uu2 _ _ _ q]; exact g2 r (by omega)
  intro s ⟨g1, g2, g3⟩
  refine bX5_clear_32 _ ?_
  rw [if_pos (by decide)]
  have c0 : cP s 28 P0 := ⟨g1, fun r hr => g2 r hr, fun k hk => absurd hk (Nat.not_lt_zero k), fun k hk => absurd hk (Nat.not_lt_zero k), fun k hk => absurd hk (Nat.not_lt_zero k)⟩
  generalize hs1 : tp_u (tp_u (tp_u s 27 4 0) 27 3 (-1)) 27 5 0 = s1
  have f1 : ∀ q, q ≠ 27 → s1 q = s q := fun q a => by rw [← hs1, uu3 _ _ _ a, uu3 _ _ _ a, uu3 _ _ _ a]
  have r1 : rS s1 n 0 := ⟨by rw [← hs1, uu2 _ _ _ (by omega), uu2 _ _ _ (by omega), uu2 _ _ _ (by omega), g3 27 (by omega) (by omega)]; exact h2, by rw [← hs1, uu2 _ _ _ (by omega), uu2 _ _ _ (by omega), uu1], by rw [← hs1, uu2 _ _ _ (by omega), uu1], by rw [← hs1, uu1]; rfl⟩
  have t1 : rT s1 n tx := fun i hi => by rw [f1 36 (by omega), g3 36 (by omega) (by omega)]; exact ht i hi
  refine sC_skip hn hx (Nat.zero_le n) r1.1 r1.2.2.2 t1 (fun s2 e5 k2 f2 => ?_)
  have key : ∀ f j F p s, j + f = 240 → j ≤ p → p ≤ n → rS s n p → okP F → cP s 28 F → (∀ q, ¬ (27 ≤ q ∧ q ≤ 35) → s q = σ q) → prs n tx f F p = R → Wi E TC iX6_readAll (d + 1 + 1 + 1 + 1 + 1) Q 28 [(0, .ref 27), (1, .int (nI j))] [] s := by
    intro f
    induction f with
    | zero =>
      intro j F p s hj hjp hpn hr hF hc fr hG
      refine bX6_readAll_28 _ ?_
      rw [if_pos (le_litp 240 (by omega) (by omega)), uu2 _ _ _ (by omega), hr.2.1]
      rw [← hG] at h
      exact h _ (uu1 _ _ _ _) (by rw [uu2 _ _ _ (by omega)]; exact hr.2.2.1) (hc.fr (fun q a b => uu3 _ _ _ (by omega))) (fun q hq => by rw [uu3 _ _ _ (by omega)]; exact fr q hq)
    | succ f ih =>
      intro j F p s hj hjp hpn hr hF hc fr hG
      refine bX6_readAll_28 _ ?_
      rw [if_neg (nle_lit 240 (by omega) (by decide)), hr.1, hr.2.2.2, uu2 _ _ _ (by omega), hr.2.1]
      unfold prs at hG
      by_cases c : n ≤ p
      · rw [if_pos c] at hG
        rw [if_pos (nI_le c (by omega))]
        rw [← hG] at h
        exact h _ (uu1 _ _ _ _) (by rw [uu2 _ _ _ (by omega)]; exact hr.2.2.1) (hc.fr (fun q a b => uu3 _ _ _ (by omega))) (fun q hq => by rw [uu3 _ _ _ (by omega)]; exact fr q hq)
      · rw [if_neg c] at hG
        rw [if_neg (nI_ge (by omega) (by omega)), if_pos rfl, nI_1]
        have t' : rT s n tx := fun i hi => by rw [fr 36 (by omega)]; exact ht i hi
        refine sC_clause hn hx (by omega) hr t' hF hc ?_
        cases hz : clz n tx F p with
        | inl e =>
          rw [hz] at hG
          rw [← hG] at h
          obtain ⟨z0, z4⟩ := clz_err hz
          intro s3 rf3 f3
          obtain ⟨q2, q4, q3, p3, hp3, q5⟩ := rf3
          refine sC_skip hn hx hp3 q2 q5 (fun i hi => by rw [f3 36 (by omega)]; exact t' i hi) (fun s4 e54 k4 f4 => ?_)
          have hsk : skip n tx p3 ≤ n := (skp_le n tx 240 p3).2 hp3
          have fin : Q (tp_u s4 27 2 0 27 4) (tp_u s4 27 2 0) := by
            rw [uu2 _ _ _ (by omega), k4 4 (by omega), q4]
            exact h _ (uu1 _ _ _ _) (by rw [uu2 _ _ _ (by omega), k4 3 (by omega)]; exact q3) (fun q hq => by rw [uu3 _ _ _ (by omega), f4 q (by omega), f3 q (by omega)]; exact fr q hq)
          refine bX6_readAll_28 _ ?_
          by_cases c1 : 240 ≤ nI (j + 1)
          · rw [if_pos c1]; exact fin
          · rw [if_neg c1]
            by_cases c2 : s4 27 2 ≤ s4 27 5
            · rw [if_pos c2]; exact fin
            · rw [if_neg c2, if_neg (by rw [k4 4 (by omega), q4]; exact nI_nz z0 z4)]
              exact fin
        | inr y =>
          rw [hz] at hG
          obtain ⟨o1, o2, o3⟩ := clz_ok hx (by omega) hF hz
          intro s3 rs3 c3 f3
          have t3 : rT s3 n tx := fun i hi => by rw [f3 36 (by omega) (by omega)]; exact t' i hi
          refine sC_skip hn hx o3 rs3.1 rs3.2.2.2 t3 (fun s4 e54 k4 f4 => ?_)
          have hsk1 : y.2 ≤ skip n tx y.2 := (skp_le n tx 240 y.2).1
          have hsk2 : skip n tx y.2 ≤ n := (skp_le n tx 240 y.2).2 o3
          exact ih (j + 1) y.1 _ s4 (by omega) (by omega) hsk2 ⟨by rw [k4 2 (by omega)]; exact rs3.1, by rw [k4 4 (by omega)]; exact rs3.2.1, by rw [k4 3 (by omega)]; exact rs3.2.2.1, e54⟩ o1 (c3.fr (fun q a b => f4 q (by omega))) (fun q hq => by rw [f4 q (by omega), f3 q (by omega) (by omega)]; exact fr q hq) hG
  exact key 240 0 P0 _ s2 rfl (Nat.zero_le _) ((skp_le n tx 240 0).2 (Nat.zero_le _)) ⟨by rw [k2 2 (by omega)]; exact r1.1, by rw [k2 4 (by omega)]; exact r1.2.1, by rw [k2 3 (by omega)]; exact r1.2.2.1, e5⟩ P0_ok (c0.fr (fun q a b => by rw [f2 q (by omega), f1 q (by omega)])) (fun q hq => by rw [f2 q (by omega), f1 q (by omega), g3 q (by omega) (by omega)]) hR
end RA

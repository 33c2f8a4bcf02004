/-! ===== numbers spelled ===== -/
/-- the i-th of n figures of x over b -/
def dgt (b n x i : Nat) : Nat := x / b ^ (n - 1 - i) % b
theorem pbs (x b e : Nat) : x / b ^ e / b = x / b ^ (e + 1) := by rw [Nat.div_div_eq_div_mul, ← Nat.pow_succ]
section SP
variable {E : tp_E} {d : Nat} {σ : tp_M}
theorem sC_power {Q : Int32 → tp_M → Prop} {b n : Nat} (hn : n ≤ 4) (h : Q (nI (b ^ n)) σ) : Ci E TC yX9_power iX9_power (d + 1) [.int (nI b), .int (nI n)] σ Q := by
  refine eX9_power _ _ ?_
  refine lup (fun j s => Wi E TC iX9_power (d + 1) Q 4 [(0, .int (nI b)), (1, .int (nI n)), (2, .int (nI (b ^ j))), (3, .int (nI j))] [] s) (fun j s => s = σ) n ?_ ?_ 0 σ (Nat.zero_le _) rfl
  · intro s hs
    subst hs
    refine bX9_power_4 _ _ _ _ ?_
    rw [if_pos (nI_le (Nat.le_refl _) (by omega))]
    exact h
  · intro j s hj hs ih
    refine bX9_power_4 _ _ _ _ ?_
    rw [if_neg (nI_ge hj (by omega)), pk_mul, ← Nat.pow_succ, nI_1]
    exact ih s hs
theorem sC_spell {Q : tp_M → Prop} {row b n x : Nat} (hl : row < TC.1) (hg : TC.2.1 row = (11, 4)) (hb : 1 ≤ b) (hb9 : b ≤ 9) (hn : n ≤ 4) (hx : x < 2147483648) (h : ∀ σ', (∀ i, i < n → σ' row i = nI (dgt b n x i)) → (∀ q, q ≠ row → σ' q = σ q) → Q σ') : Cv E TC yX9_spell iX9_spell (d + 1) [.int (nI x), .int (nI b), .ref row, .int (nI n)] σ Q := by
  refine eX9_spell row hl hg _ _ _ ?_
  rw [if_neg (nlt_lit 4 hn (by decide))]
  have key : ∀ m t s, t + m = n → (∀ i, m ≤ i → i < n → s row i = nI (dgt b n x i)) → (∀ q, q ≠ row → s q = σ q) → Wv E TC iX9_spell (d + 1) Q 13 [(1, .int (nI b)), (2, .ref row), (4, .int (nI (x / b ^ t))), (5, .int (nI m - 1))] [] s := by
    intro m
    induction m with
    | zero =>
      intro t s ht g1 g2
      refine bX9_spell_13 row hl hg _ _ _ ?_
      rw [if_pos (show nI 0 - 1 < 0 by decide)]
      exact h s (fun i hi => g1 i (by omega) hi) g2
    | succ m ih =>
      intro t s ht g1 g2
      have hlt : x / b ^ t < 2147483648 := Nat.lt_of_le_of_lt (Nat.div_le_self _ _) hx
      refine bX9_spell_13 row hl hg _ _ _ ?_
      rw [nI_pred, if_neg (nI_pos (by omega)), if_neg (nI_nleL 0 hb (by omega)), pk_rem hlt (by omega) (by omega)]
      refine ⟨by rw [nI_eqL 0 (by omega) (by decide)]; omega, bX9_spell_33 row hl hg _ _ _ _ _ ?_⟩
      rw [if_neg (nI_nleL 0 hb (by omega)), pk_div hlt (by omega) (by omega), pbs, vcl (by omega), show nI m + (-1) = nI m - 1 from by rw [Int32.sub_eq_add_neg]]
      refine ⟨vin (by omega) (by decide), by rw [nI_eqL 0 (by omega) (by decide)]; omega, ih (t + 1) _ (by omega) (fun i a c => ?_) (fun q hq => by rw [uu3 _ _ _ hq]; exact g2 q hq)⟩
      by_cases q : i = m
      · subst q
        rw [uu1]
        unfold dgt
        rw [show n - 1 - i = t by omega]
      · rw [uu2 _ _ _ q]
        exact g1 i (by omega) c
  have := key n 0 σ (by omega) (fun i a c => by omega) (fun q _ => rfl)
  rw [Nat.pow_zero, Nat.div_one] at this
  exact this
end SP
/-! ===== who serves what ===== -/
/-- w reaches the room of order o in time -/
def tim (P : PD) (A : AS) (m o w : Nat) : Bool := match dist P (aAt A w) (pR P o) with
  | some k => decide (m + k ≤ pM P o)
  | none => false
def timS (P : PD) (A : AS) (m o n : Nat) : Int32 := itr (fun w s => if tim P A m o w = true then s ||| bit w else s) n 0
theorem timS_bt (P : PD) (A : AS) (m o : Nat) {k : Nat} (hk : k < 32) : ∀ n, n ≤ 32 → (bt (timS P A m o n) k = true ↔ k < n ∧ tim P A m o k = true)
  | 0, _ => by
    show bt 0 k = true ↔ _
    rw [b_0]
    exact ⟨fun q => (by cases q), fun q => absurd q.1 (Nat.not_lt_zero k)⟩
  | n + 1, hn => by
    have ih := timS_bt P A m o hk n (by omega)
    show bt (if tim P A m o n = true then timS P A m o n ||| bit n else timS P A m o n) k = true ↔ _
    by_cases h : tim P A m o n = true
    · rw [if_pos h, b_or, b_bit n (by omega) hk]
      by_cases e : k = n
      · subst e
        simp [h]
      · rw [decide_eq_false e, Bool.or_false, ih]
        exact ⟨fun q => ⟨by omega, q.2⟩, fun q => ⟨by omega, q.2⟩⟩
    · rw [if_neg h, ih]
      refine ⟨fun q => ⟨by omega, q.2⟩, fun q => ⟨?_, q.2⟩⟩
      by_cases e : k = n
      · subst e; exact absurd q.2 h
      · omega
def tk (P : PD) (A : AS) (m : Nat) (g : Nat → Nat) : Nat → Nat → Int32 → Nat → Int32
  | 0, _, _, c => nI c
  | f + 1, o, s, c => if g o = pw P then tk P A m g f (o + 1) s c else if bt s (g o) = true then -1 else if tim P A m o (g o) = true then tk P A m g f (o + 1) (s ||| bit (g o)) (c + 1) else -1
def srv (P : PD) (A : AS) (m x : Nat) : Int32 := tk P A m (dgt (pw P + 1) (po P) x) (po P) 0 0 0
def bst (P : PD) (A : AS) (m n : Nat) : Int32 × Option (Nat → Nat) := itr (fun x s => if srv P A m x ≤ s.1 then s else (srv P A m x, some (dgt (pw P + 1) (po P) x))) n (-1, none)
theorem bst_none (P : PD) (A : AS) (m : Nat) : ∀ n, (bst P A m n).2 = none → (bst P A m n).1 = -1
  | 0, _ => rfl
  | n + 1, h => by
    have ih := bst_none P A m n
    change (if srv P A m n ≤ (bst P A m n).1 then bst P A m n else (srv P A m n, some (dgt (pw P + 1) (po P) n))).2 = none at h
    change (if srv P A m n ≤ (bst P A m n).1 then bst P A m n else (srv P A m n, some (dgt (pw P + 1) (po P) n))).1 = -1
    by_cases c : srv P A m n ≤ (bst P A m n).1
    · rw [if_pos c] at h ⊢; exact ih h
    · rw [if_neg c] at h; cases h
theorem tk_skip (P : PD) (A : AS) (m : Nat) (g : Nat → Nat) : ∀ f o s c, (∀ i, o ≤ i → i < o + f → g i = pw P) → tk P A m g f o s c = nI c
  | 0, o, s, c, _ => rfl
  | f + 1, o, s, c, h => by
    unfold tk
    rw [if_pos (h o (by omega) (by omega))]
    exact tk_skip P A m g f (o + 1) s c (fun i a b => h i (by omega) (by omega))
theorem last_fig (b n i : Nat) (hb : 1 ≤ b) (hi : i < n) : dgt b n (b ^ n - 1) i = b - 1 := by
  unfold dgt
  have hp : ∀ e, 1 ≤ b ^ e := fun e => Nat.one_le_pow _ _ hb
  have key : ∀ e, e ≤ n → (b ^ n - 1) / b ^ e = b ^ (n - e) - 1 := by
    intro e he
    have e1 : b ^ n = b ^ (n - e) * b ^ e := by rw [← Nat.pow_add, Nat.sub_add_cancel he]
    have h1 := hp (n - e)
    have h2 := hp e
    obtain ⟨u, hu⟩ : ∃ u, b ^ (n - e) = u + 1 := ⟨b ^ (n - e) - 1, by omega⟩
    rw [e1, hu, Nat.add_mul, Nat.one_mul, Nat.add_sub_cancel, show u * b ^ e + b ^ e - 1 = (b ^ e - 1) + u * b ^ e by omega, Nat.add_mul_div_right _ _ (by omega), Nat.div_eq_of_lt (by omega)]
    omega
  rw [key _ (by omega), show n - (n - 1 - i) = i + 1 by omega, Nat.pow_succ]
  have h1 := hp i
  obtain ⟨u, hu⟩ : ∃ u, b ^ i = u + 1 := ⟨b ^ i - 1, by omega⟩
  rw [hu, Nat.add_mul, Nat.one_mul, show u * b + b - 1 = (b - 1) + u * b by omega, Nat.add_mul_mod_self_right]
  exact Nat.mod_eq_of_lt (by omega)
theorem bst_some (P : PD) (A : AS) (m : Nat) : ∃ g, (bst P A m ((pw P + 1) ^ po P)).2 = some g ∧ (∃ x, g = dgt (pw P + 1) (po P) x) := by
  have hp : 1 ≤ (pw P + 1) ^ po P := Nat.one_le_pow _ _ (by omega)
  have hall : ∀ n g, (bst P A m n).2 = some g → ∃ x, g = dgt (pw P + 1) (po P) x := by
    intro n
    induction n with
    | zero => intro g h; cases h
    | succ n ih =>
      intro g h
      change (if srv P A m n ≤ (bst P A m n).1 then bst P A m n else (srv P A m n, some (dgt (pw P + 1) (po P) n))).2 = some g at h
      by_cases c : srv P A m n ≤ (bst P A m n).1
      · rw [if_pos c] at h; exact ih g h
      · rw [if_neg c] at h; cases h; exact ⟨n, rfl⟩
  cases hb : (bst P A m ((pw P + 1) ^ po P)).2 with
  | some g => exact ⟨g, rfl, hall _ g hb⟩
  | none =>
    exfalso
    obtain ⟨N, hN⟩ : ∃ N, (pw P + 1) ^ po P = N + 1 := ⟨(pw P + 1) ^ po P - 1, by omega⟩
    rw [hN] at hb
    change (if srv P A m N ≤ (bst P A m N).1 then bst P A m N else (srv P A m N, some (dgt (pw P + 1) (po P) N))).2 = none at hb
    have e : srv P A m N = nI 0 := tk_skip P A m _ _ _ _ _ (fun i a c => by
      rw [show N = (pw P + 1) ^ po P - 1 by omega, last_fig _ _ _ (by omega) (by omega)]; omega)
    by_cases c : srv P A m N ≤ (bst P A m N).1
    · rw [if_pos c] at hb
      rw [bst_none P A m N hb, e] at c
      exact absurd c (by decide)
    · rw [if_neg c] at hb; cases hb
section SV
variable {E : tp_E} {d : Nat} {σ : tp_M} {P : PD} {A : AS}
theorem sC_taken {Q : Int32 → tp_M → Prop} {m : Nat} {g : Nat → Nat} (hP : okP P) (h13 : σ 1 3 = nI (pw P)) (h15 : σ 1 5 = nI (po P)) (h149 : ∀ o, o < po P → σ 149 o = nI (g o)) (h148 : ∀ o, o < po P → σ 148 o = timS P A m o (pw P)) (hg : ∀ o, o < po P → g o ≤ pw P) (h : Q (tk P A m g (po P) 0 0 0) σ) : Ci E TC yX7_ordersTaken iX7_ordersTaken (d + 1 + 1) [.ref 147] σ Q := by
  have h4 := hP.1.2.2.2.1
  have ho := hP.1.2.2.2.2.2
  refine eX7_ordersTaken ?_
  have key : ∀ f o s c, o + f = po P → c ≤ o → Q (tk P A m g f o s c) σ → Wi E TC iX7_ordersTaken (d + 1 + 1) Q 6 [(0, .ref 147), (1, .int s), (2, .int (nI c)), (3, .int (nI o))] [] σ := by
    intro f
    induction f with
    | zero =>
      intro o s c hf hc hq
      refine bX7_ordersTaken_6 _ _ _ ?_
      rw [h15, if_pos (nI_le (by omega) (by omega))]
      exact hq
    | succ f ih =>
      intro o s c hf hc hq
      have hgo := hg o (by omega)
      refine bX7_ordersTaken_6 _ _ _ ?_
      rw [h15, if_neg (nI_ge (by omega) (by omega)), if_neg (nle_lit 4 (by omega) (by decide)), vcl (by omega), h149 o (by omega), h13, nI_1, nI_1]
      refine ⟨vin (by omega) (by decide), ?_⟩
      unfold tk at hq
      by_cases c1 : g o = pw P
      · rw [if_pos c1] at hq
        rw [if_pos (by rw [c1])]
        exact ih (o + 1) s c (by omega) (by omega) hq
      · rw [if_neg c1] at hq
        rw [if_neg (nne (by omega) (by omega) c1)]
        have tb := timS_bt P A m o (show g o < 32 by omega) (pw P) (by omega)
        refine sc_hasC (by omega) (fun hb => ?_) (fun hb => ?_)
        · rw [if_pos hb] at hq
          rw [if_neg (by decide)]
          exact hq
        · rw [if_neg (by rw [hb]; decide)] at hq
          rw [if_pos rfl]
          refine ⟨vin (by omega) (by decide), ?_⟩
          rw [h148 o (by omega)]
          refine sc_hasC (by omega) (fun hb2 => ?_) (fun hb2 => ?_)
          · rw [if_pos (tb.mp hb2).2] at hq
            rw [if_neg (by decide)]
            exact ih (o + 1) _ (c + 1) (by omega) (by omega) hq
          · rw [if_neg (fun q => by rw [tb.mpr ⟨by omega, q⟩] at hb2; cases hb2)] at hq
            rw [if_pos rfl]
            exact hq
  exact key (po P) 0 0 0 (by omega) (Nat.le_refl 0) h
theorem sC_markInTime {Q : tp_M → Prop} {m : Nat} (hP : okP P) (hc : cP σ 1 P) (hA : okA P A) (hS : cS σ 9 P A) (em : aMi A = nI m) (hm : m ≤ 9060) (h : ∀ σ', (∀ o, o < po P → σ' 148 o = timS P A m o (pw P)) → (∀ q, q ≠ 148 → σ' q = σ q) → Q σ') : Cv E TC yX7_markInTime iX7_markInTime (d + 1 + 1 + 1) [.ref 147] σ Q := by
  have h4 := hP.1.2.2.2.1
  have ho := hP.1.2.2.2.2.2
  have h8 := hP.1.1
  refine eX7_markInTime ?_
  refine lup (fun j s => Wv E TC iX7_markInTime (d + 1 + 1 + 1) Q 2 [(0, .ref 147), (1, .int (nI j))] [] s) (fun j s => (∀ o, o < j → s 148 o = timS P A m o (pw P)) ∧ ∀ q, q ≠ 148 → s q = σ q) (po P) ?_ ?_ 0 σ (Nat.zero_le _) ⟨fun o ho => absurd ho (Nat.not_lt_zero o), fun q _ => rfl⟩
  · intro s ⟨g1, g2⟩
    refine bX7_markInTime_2 _ ?_
    rw [g2 1 (by omega), hc.1.2.2.2.2.2, if_pos (nI_le (Nat.le_refl _) (by omega))]
    exact h s g1 g2
  · intro j s hj ⟨g1, g2⟩ ih
    refine bX7_markInTime_2 _ ?_
    rw [g2 1 (by omega), hc.1.2.2.2.2.2, if_neg (nI_ge hj (by omega)), if_neg (nle_lit 4 (by omega) (by decide)), vcl (by omega)]
    refine ⟨vin (by omega) (by decide), ?_⟩
    refine lup (fun w s => Wv E TC iX7_markInTime (d + 1 + 1 + 1) Q 27 [(0, .ref 147), (1, .int (nI j)), (2, .int (nI w))] [] s) (fun w s => (∀ o, o < j → s 148 o = timS P A m o (pw P)) ∧ s 148 j = timS P A m j w ∧ ∀ q, q ≠ 148 → s q = σ q) (pw P) ?_ ?_ 0 _ (Nat.zero_le _) ⟨fun o ho => by rw [uu2 _ _ _ (by omega)]; exact g1 o ho, by rw [uu1]; rfl, fun q hq => by rw [uu3 _ _ _ hq]; exact g2 q hq⟩
    · intro s1 ⟨k1, k2, k3⟩
      refine bX7_markInTime_27 _ _ ?_
      rw [k3 1 (by omega), hc.1.2.2.2.1, if_pos (nI_le (Nat.le_refl _) (by omega)), nI_1]
      refine ih s1 ⟨fun o ho => ?_, k3⟩
      by_cases q : o = j
      · subst q; exact k2
      · exact k1 o (by omega)
    · intro w s1 hw ⟨k1, k2, k3⟩ ih1
      have hP1 : cP s1 1 P := hc.fr (fun q a b => k3 q (by omega))
      have hS1 : cS s1 9 P A := hS.fr (fun q a b => k3 q (by omega))
      refine bX7_markInTime_27 _ _ ?_
      rw [k3 1 (by omega), hc.1.2.2.2.1, if_neg (nI_ge hw (by omega)), nI_1, vcl (by omega)]
      refine sc_roomOf (by omega) ?_
      have hpr := (hP.2.2.2.2 j hj)
      rw [show s1 10 w = nI (aAt A w) from hS1.2.1 w hw, show s1 7 j = nI (pR P j) from (hP1.2.2.2.2 j hj).1]
      refine ⟨vin (by omega) (by decide), sC_dist hP1 (by omega) ?_⟩
      have e1 : timS P A m j (w + 1) = if tim P A m j w = true then timS P A m j w ||| bit w else timS P A m j w := rfl
      rw [e1] at ih1
      unfold tim at ih1
      cases hd : dist P (aAt A w) (pR P j) with
      | none =>
        rw [hd] at ih1
        rw [if_pos (show oI none (-1) = -1 from rfl)]
        exact ih1 s1 ⟨k1, k2, k3⟩
      | some k =>
        rw [hd] at ih1
        have hk8 := dist_lt hd
        show if nI k = -1 then _ else _
        rw [if_neg (nI_ne_m1 (by omega)), show s1 8 j = nI (pM P j) from (hP1.2.2.2.2 j hj).2, show s1 9 0 = nI m from hS1.1.1.trans em, k2]
        refine ⟨vin (by omega) (by decide), ?_⟩
        show if nI (pM P j) < nI m + nI k then _ else _
        rw [nI_add]
        by_cases hle : m + k ≤ pM P j
        · change ∀ s' : tp_M, ((∀ o, o < j → s' 148 o = timS P A m o (pw P)) ∧ s' 148 j = (if decide (m + k ≤ pM P j) = true then timS P A m j w ||| bit w else timS P A m j w) ∧ ∀ q, q ≠ 148 → s' q = σ q) → _ at ih1
          rw [decide_eq_true hle, if_pos rfl] at ih1
          rw [if_neg (nI_nlt hle (by omega))]
          exact ⟨vin (by omega) (by decide), vin (by omega) (by decide), ih1 _ ⟨fun o ho => by rw [uu2 _ _ _ (by omega)]; exact k1 o ho, uu1 _ _ _ _, fun q hq => by rw [uu3 _ _ _ hq]; exact k3 q hq⟩⟩
        · change ∀ s' : tp_M, ((∀ o, o < j → s' 148 o = timS P A m o (pw P)) ∧ s' 148 j = (if decide (m + k ≤ pM P j) = true then timS P A m j w ||| bit w else timS P A m j w) ∧ ∀ q, q ≠ 148 → s' q = σ q) → _ at ih1
          rw [decide_eq_false hle, if_neg (by decide)] at ih1
          rw [if_pos (nI_lt (by omega) (by omega))]
          exact ih1 s1 ⟨k1, k2, k3⟩
theorem dgt_le (b n x i : Nat) (hb : 1 ≤ b) : dgt b n x i ≤ b - 1 := by
  have := Nat.mod_lt (x / b ^ (n - 1 - i)) hb
  unfold dgt
  omega
theorem pow_small {b n : Nat} (hb : b ≤ 5) (hn : n ≤ 4) : b ^ n ≤ 625 := by
  have h1 : b ^ n ≤ 5 ^ n := Nat.pow_le_pow_left hb n
  have h2 : 5 ^ n ≤ 5 ^ 4 := Nat.pow_le_pow_right (by omega) hn
  omega
theorem sC_seekS {Q : tp_M → Prop} {D : DD} {m : Nat} (h : okD D) (hc : cR σ D) (em : aMi (dA D) = nI m) (hm : m ≤ 9060) (hq : ∀ σ', cR σ' D → σ' 147 5 = (bst (dP D) (dA D) m ((pw (dP D) + 1) ^ po (dP D))).1 → (∀ g, (bst (dP D) (dA D) m ((pw (dP D) + 1) ^ po (dP D))).2 = some g → ∀ o, o < po (dP D) → σ' 150 o = nI (g o)) → Q σ') : Cv E TC yX7_seek iX7_seek (d + 1 + 1 + 1 + 1) [.ref 147] σ Q := by
  have hP := h.1
  have h4 := hP.1.2.2.2.1
  have ho := hP.1.2.2.2.2.2
  refine eX7_seek (sC_markInTime hP hc.1 h.2.1 hc.2.1 em hm (fun σ1 f1 f2 => ?_))
  have frA : ∀ q, q ≠ 148 → q ≠ 147 → tp_u σ1 147 5 (-1) q = σ q := fun q a b => by rw [uu3 _ _ _ b]; exact f2 q a
  have e13 : tp_u σ1 147 5 (-1) 1 3 = nI (pw (dP D)) := by rw [frA 1 (by omega) (by omega)]; exact hc.1.1.2.2.2.1
  have e15 : tp_u σ1 147 5 (-1) 1 5 = nI (po (dP D)) := by rw [frA 1 (by omega) (by omega)]; exact hc.1.1.2.2.2.2.2
  rw [e13, e15, nI_1]
  have h625 := pow_small (b := pw (dP D) + 1) (n := po (dP D)) (by omega) ho
  refine sC_power ho ?_
  refine lup (fun x s => Wv E TC iX7_seek (d + 1 + 1 + 1 + 1) Q 33 [(0, .ref 147), (1, .int (nI (pw (dP D) + 1))), (2, .int (nI ((pw (dP D) + 1) ^ po (dP D)))), (3, .int (nI x))] [] s) (fun x s => (∀ q, ¬ (147 ≤ q ∧ q ≤ 150) → s q = σ q) ∧ (∀ o, o < po (dP D) → s 148 o = timS (dP D) (dA D) m o (pw (dP D))) ∧ s 147 5 = (bst (dP D) (dA D) m x).1 ∧ (∀ g, (bst (dP D) (dA D) m x).2 = some g → ∀ o, o < po (dP D) → s 150 o = nI (g o))) ((pw (dP D) + 1) ^ po (dP D)) ?_ ?_ 0 _ (Nat.zero_le _) ⟨fun q a => frA q (by omega) (by omega), fun o ho => by rw [uu3 _ _ _ (by omega)]; exact f1 o ho, uu1 _ _ _ _, fun g hg => by cases hg⟩
  · intro s ⟨g1, g2, g3, g4⟩
    refine bX7_seek_33 _ _ _ ?_
    rw [if_pos (nI_le (Nat.le_refl _) (by omega))]
    exact hq s (hc.fr (fun q a => g1 q (fun z => a (by unfold cScr; omega)))) g3 g4
  · intro x s hx ⟨g1, g2, g3, g4⟩ ih
    refine bX7_seek_33 _ _ _ ?_
    rw [if_neg (nI_ge hx (by omega)), g1 1 (by omega), hc.1.1.2.2.2.2.2, nI_1]
    refine sC_spell lC_149 gC_149 (by omega) (by omega) ho (by omega) (fun s1 k1 k2 => ?_)
    have b13 : s1 1 3 = nI (pw (dP D)) := by rw [k2 1 (by omega), g1 1 (by omega)]; exact hc.1.1.2.2.2.1
    have b15 : s1 1 5 = nI (po (dP D)) := by rw [k2 1 (by omega), g1 1 (by omega)]; exact hc.1.1.2.2.2.2.2
    refine sC_taken (m := m) (A := dA D) hP b13 b15 k1 (fun o ho => by rw [k2 148 (by omega)]; exact g2 o ho) (fun o ho => by have := dgt_le (pw (dP D) + 1) (po (dP D)) x o (by omega); omega) ?_
    show if srv (dP D) (dA D) m x ≤ s1 147 5 then _ else _
    rw [k2 147 (by omega), g3]
    have e1 : bst (dP D) (dA D) m (x + 1) = if srv (dP D) (dA D) m x ≤ (bst (dP D) (dA D) m x).1 then bst (dP D) (dA D) m x else (srv (dP D) (dA D) m x, some (dgt (pw (dP D) + 1) (po (dP D)) x)) := rfl
    rw [e1] at ih
    by_cases c : srv (dP D) (dA D) m x ≤ (bst (dP D) (dA D) m x).1
    · rw [if_pos c]
      rw [if_pos c] at ih
      exact ih s1 ⟨fun q a => by rw [k2 q (by omega)]; exact g1 q a, fun o ho => by rw [k2 148 (by omega)]; exact g2 o ho, by rw [k2 147 (by omega)]; exact g3, fun g hg o ho => by rw [k2 150 (by omega)]; exact g4 g hg o ho⟩
    · rw [if_neg c, show Int32.toNatClampNeg 0 = 0 from rfl, show Int32.toNatClampNeg 4 = 4 from rfl]
      rw [if_neg c] at ih
      refine ih _ ⟨fun q a => by rw [cp_ne _ (by omega), uu3 _ _ _ (by omega), k2 q (by omega)]; exact g1 q a, fun o ho => by rw [cp_ne _ (by omega), uu3 _ _ _ (by omega), k2 148 (by omega)]; exact g2 o ho, by rw [cp_ne _ (by omega), uu1]; rfl, fun g hg o ho => ?_⟩
      cases hg
      rw [cp_eq _ (by omega), uu3 _ _ _ (by omega)]
      exact k1 o ho
theorem sM_servedBy {Q : Int32 → tp_M → Prop} {D : DD} {m x : Nat} (h : okD D) (hm : mR σ D) (em : aMi (dA D) = nI m) (hm9 : m ≤ 9060) (hx : x < 2147483648) (hq : ∀ σ', (∀ q, q ≠ 19 → σ' q = σ q) → (∀ o, o < po (dP D) → σ' 19 o = nI (dgt (pw (dP D) + 1) (po (dP D)) x o)) → Q (srv (dP D) (dA D) m x) σ') : Ci E TM yX10_servedBy iX10_servedBy (d + 1 + 1) [.ref 0, .int (nI x)] σ Q := by
  have hP := h.1
  have h4 := hP.1.2.2.2.1
  have ho := hP.1.2.2.2.2.2
  have h8 := hP.1.1
  have e7 : σ 0 7 = nI (pw (dP D)) := hm.1.1.2.2.2.1
  have e12 : σ 0 12 = nI (po (dP D)) := hm.1.1.2.2.2.2.2
  refine eX10_servedBy _ ?_
  rw [e12]
  -- the figures
  have key : ∀ k t s, t + k = po (dP D) → (∀ i, k ≤ i → i < po (dP D) → s 19 i = nI (dgt (pw (dP D) + 1) (po (dP D)) x i)) → (∀ q, q ≠ 19 → s q = σ q) → Wi E TM iX10_servedBy (d + 1 + 1) Q 9 [(0, .ref 0), (2, .int (nI (x / (pw (dP D) + 1) ^ t))), (3, .int (nI k - 1))] [] s := by
    intro k
    induction k with
    | zero =>
      intro t s ht g1 g2
      refine bX10_servedBy_9 _ _ ?_
      rw [if_pos (show nI 0 - 1 < 0 by decide)]
      have hq1 := hq s g2 (fun o ho => g1 o (by omega) ho)
      unfold srv at hq1
      have hg : ∀ o, o < po (dP D) → dgt (pw (dP D) + 1) (po (dP D)) x o ≤ pw (dP D) := fun o ho => by have := dgt_le (pw (dP D) + 1) (po (dP D)) x o (by omega); omega
      have g1' : ∀ o, o < po (dP D) → s 19 o = nI (dgt (pw (dP D) + 1) (po (dP D)) x o) := fun o ho => g1 o (by omega) ho
      generalize dgt (pw (dP D) + 1) (po (dP D)) x = g at hq1 hg g1'
      have mp : mP s (dP D) := hm.1.fr (fun k a => by rw [g2 0 (by omega)]) (fun q a b => g2 q (by omega))
      have key2 : ∀ f o u c, o + f = po (dP D) → Q (tk (dP D) (dA D) m g f o u c) s → Wi E TM iX10_servedBy (d + 1 + 1) Q 50 [(0, .ref 0), (3, .int (nI c)), (4, .int u), (5, .int (nI o))] [] s := by
        intro f
        induction f with
        | zero =>
          intro o u c hf hq
          refine bX10_servedBy_50 _ _ _ ?_
          rw [g2 0 (by omega), e12, if_pos (nI_le (by omega) (by omega))]
          exact hq
        | succ f ih =>
          intro o u c hf hq
          have hgo := hg o (by omega)
          have ho1 : o < po (dP D) := by omega
          refine bX10_servedBy_50 _ _ _ ?_
          rw [g2 0 (by omega), e12, if_neg (nI_ge (by omega) (by omega)), vcl (by omega), g1' o ho1, e7, nI_1, nI_1]
          refine ⟨vin (by omega) (by decide), ?_⟩
          unfold tk at hq
          by_cases c1 : g o = pw (dP D)
          · rw [if_pos c1] at hq
            rw [if_pos (nI_le (by omega) (by omega))]
            exact ih (o + 1) u c (by omega) hq
          · rw [if_neg c1] at hq
            rw [if_neg (nI_ge (by omega) (by omega))]
            refine sm_hasC (by omega) (fun hb => ?_) (fun hb => ?_)
            · rw [if_pos hb] at hq
              rw [if_neg (by decide)]
              exact hq
            · rw [if_neg (by rw [hb]; decide)] at hq
              have ea : s 1 (2 + g o) = nI (aAt (dA D) (g o)) := by rw [g2 1 (by omega)]; have := hm.2.1.2.1 (g o) (by omega); rw [Nat.zero_add] at this; exact this
              have e0 : s 1 0 = nI m := by rw [g2 1 (by omega)]; exact hm.2.1.1.1.trans em
              have hpr := hP.2.2.2.2 o ho1
              rw [if_pos rfl, show Int32.toNatClampNeg 0 = 0 from rfl, lit_add 2, vcl (by omega), ea, e0, (mp.2.2.2.2 o ho1).1]
              refine ⟨vin (j := 0) (by decide) (by decide), vin (by omega) (by decide), vin (by omega) (by decide), sM_dist hP mp (by omega) ⟨vin (by omega) (by decide), ?_⟩⟩
              unfold tim at hq
              rw [(mp.2.2.2.2 o ho1).2]
              cases hd : dist (dP D) (aAt (dA D) (g o)) (pR (dP D) o) with
              | none =>
                rw [hd] at hq
                show if nI m + nI 1000000 ≤ _ then _ else _
                rw [nI_add, if_neg (nI_ge (by omega) (by omega))]
                exact hq
              | some k =>
                rw [hd] at hq
                have hk8 := dist_lt hd
                show if nI m + nI k ≤ _ then _ else _
                rw [nI_add]
                change Q (if decide (m + k ≤ pM (dP D) o) = true then tk (dP D) (dA D) m g f (o + 1) (u ||| bit (g o)) (c + 1) else -1) s at hq
                by_cases hle : m + k ≤ pM (dP D) o
                · rw [decide_eq_true hle, if_pos rfl] at hq
                  rw [if_pos (nI_le hle (by omega))]
                  exact ih (o + 1) _ (c + 1) (by omega) hq
                · rw [decide_eq_false hle, if_neg (by decide)] at hq
                  rw [if_neg (nI_ge (by omega) (by omega))]
                  exact hq
      exact key2 (po (dP D)) 0 0 0 (by omega) hq1
    | succ k ih =>
      intro t s ht g1 g2
      have hlt : x / (pw (dP D) + 1) ^ t < 2147483648 := Nat.lt_of_le_of_lt (Nat.div_le_self _ _) hx
      refine bX10_servedBy_9 _ _ ?_
      rw [nI_pred, if_neg (nI_pos (by omega)), uu3 _ _ _ (show 0 ≠ 19 by omega), g2 0 (by omega), e7, nI_1, pk_rem hlt (by omega) (by omega), pk_div hlt (by omega) (by omega), pbs, vcl (by omega), show nI k + (-1) = nI k - 1 from by rw [Int32.sub_eq_add_neg]]
      refine ⟨by rw [nI_eqL 0 (by omega) (by decide)]; omega, vin (by omega) (by decide), by rw [nI_eqL 0 (by omega) (by decide)]; omega, ih (t + 1) _ (by omega) (fun i a c => ?_) (fun q hq => by rw [uu3 _ _ _ hq]; exact g2 q hq)⟩
      by_cases q : i = k
      · subst q
        rw [uu1]
        unfold dgt
        rw [show po (dP D) - 1 - i = t by omega]
      · rw [uu2 _ _ _ q]
        exact g1 i (by omega) c
  have := key (po (dP D)) 0 σ (by omega) (fun i a c => by omega) (fun q _ => rfl)
  rw [Nat.pow_zero, Nat.div_one] at this
  exact this
/-- the reference's search; fin: what it answers -/
theorem sM_seekS {Q : Int32 → tp_M → Prop} {D : DD} {m : Nat} {x1 : Int32} (h : okD D) (hm : mR σ D) (em : aMi (dA D) = nI m) (hm9 : m ≤ 9060) (hq : ∀ σ', mR σ' D → (∀ g, (bst (dP D) (dA D) m ((pw (dP D) + 1) ^ po (dP D))).2 = some g → ∀ o, o < po (dP D) → σ' 20 o = nI (g o)) → (if x1 = -1 then Q (bst (dP D) (dA D) m ((pw (dP D) + 1) ^ po (dP D))).1 σ' else vp_in x1 4 ∧ (if σ' 20 x1.toNatClampNeg = σ' 0 7 then Q (-1) σ' else vp_in x1 4 ∧ Q (σ' 20 x1.toNatClampNeg) σ'))) : Wi E TM iX10_served (d + 1 + 1 + 1) Q 28 [(0, .ref 0), (1, .int x1), (2, .int 1), (3, .int 0)] [] σ := by
  have hP := h.1
  have h4 := hP.1.2.2.2.1
  have ho := hP.1.2.2.2.2.2
  have e7 : σ 0 7 = nI (pw (dP D)) := hm.1.1.2.2.2.1
  have e12 : σ 0 12 = nI (po (dP D)) := hm.1.1.2.2.2.2.2
  have h625 := pow_small (b := pw (dP D) + 1) (n := po (dP D)) (by omega) ho
  refine lup (fun j s => Wi E TM iX10_served (d + 1 + 1 + 1) Q 28 [(0, .ref 0), (1, .int x1), (2, .int (nI ((pw (dP D) + 1) ^ j))), (3, .int (nI j))] [] s) (fun j s => s = σ) (po (dP D)) ?_ ?_ 0 σ (Nat.zero_le _) rfl
  rotate_left
  · intro j s hj hs ih
    subst hs
    refine bX10_served_28 _ _ _ ?_
    rw [e12, if_neg (nI_ge hj (by omega)), e7, nI_1, pk_mul, ← Nat.pow_succ, nI_1]
    exact ih s rfl
  intro s hs
  subst hs
  refine bX10_served_28 _ _ _ ?_
  rw [e12, if_pos (nI_le (Nat.le_refl _) (by omega))]
  refine lup (fun x s' => Wi E TM iX10_served (d + 1 + 1 + 1) Q 56 [(0, .ref 0), (1, .int x1), (2, .int (nI ((pw (dP D) + 1) ^ po (dP D)))), (3, .int (bst (dP D) (dA D) m x).1), (4, .int (nI x))] [] s') (fun x s' => (∀ q, q ≠ 19 → q ≠ 20 → s' q = s q) ∧ (∀ g, (bst (dP D) (dA D) m x).2 = some g → ∀ o, o < po (dP D) → s' 20 o = nI (g o))) ((pw (dP D) + 1) ^ po (dP D)) ?_ ?_ 0 s (Nat.zero_le _) ⟨fun q _ _ => rfl, fun g hg => by cases hg⟩
  · intro s1 ⟨g1, g2⟩
    refine bX10_served_56 _ _ _ _ ?_
    rw [if_pos (nI_le (Nat.le_refl _) (by omega))]
    exact hq s1 (hm.fr h (fun k _ _ => by rw [g1 0 (by omega) (by omega)]) (fun i _ _ => by rw [g1 1 (by omega) (by omega)]) (fun q a b => g1 q (by omega) (by omega))) g2
  · intro x s1 hx ⟨g1, g2⟩ ih
    have hm1 : mR s1 D := hm.fr h (fun k _ _ => by rw [g1 0 (by omega) (by omega)]) (fun i _ _ => by rw [g1 1 (by omega) (by omega)]) (fun q a b => g1 q (by omega) (by omega))
    refine bX10_served_56 _ _ _ _ ?_
    rw [if_neg (nI_ge hx (by omega)), nI_1]
    refine sM_servedBy h hm1 em hm9 (by omega) (fun s2 k1 k2 => ?_)
    have e1 : bst (dP D) (dA D) m (x + 1) = if srv (dP D) (dA D) m x ≤ (bst (dP D) (dA D) m x).1 then bst (dP D) (dA D) m x else (srv (dP D) (dA D) m x, some (dgt (pw (dP D) + 1) (po (dP D)) x)) := rfl
    rw [e1] at ih
    by_cases c : srv (dP D) (dA D) m x ≤ (bst (dP D) (dA D) m x).1
    · rw [if_pos c]
      rw [if_pos c] at ih
      exact ih s2 ⟨fun q a b => by rw [k1 q a]; exact g1 q a b, fun g hg o ho => by rw [k1 20 (by omega)]; exact g2 g hg o ho⟩
    · rw [if_neg c]
      rw [if_neg c] at ih
      refine lup (fun o s' => Wi E TM iX10_served (d + 1 + 1 + 1) Q 82 [(0, .ref 0), (1, .int x1), (2, .int (nI ((pw (dP D) + 1) ^ po (dP D)))), (3, .int (srv (dP D) (dA D) m x)), (4, .int (nI x)), (6, .int (nI o))] [] s') (fun o s' => (∀ q, q ≠ 20 → s' q = s2 q) ∧ ∀ i, i < o → s' 20 i = nI (dgt (pw (dP D) + 1) (po (dP D)) x i)) (po (dP D)) ?_ ?_ 0 s2 (Nat.zero_le _) ⟨fun q _ => rfl, fun i hi => absurd hi (Nat.not_lt_zero i)⟩
      · intro s3 ⟨l1, l2⟩
        refine bX10_served_82 _ _ _ _ _ ?_
        rw [l1 0 (by omega), k1 0 (by omega), g1 0 (by omega) (by omega), e12, if_pos (nI_le (Nat.le_refl _) (by omega)), nI_1]
        refine ih s3 ⟨fun q a b => by rw [l1 q b, k1 q a]; exact g1 q a b, fun g hg o ho => ?_⟩
        cases hg
        exact l2 o ho
      · intro o s3 ho1 ⟨l1, l2⟩ ih2
        refine bX10_served_82 _ _ _ _ _ ?_
        rw [l1 0 (by omega), k1 0 (by omega), g1 0 (by omega) (by omega), e12, if_neg (nI_ge ho1 (by omega)), nI_1, vcl (by omega), l1 19 (by omega), k2 o ho1]
        refine ⟨vin (by omega) (by decide), vin (by omega) (by decide), ih2 _ ⟨fun q a => by rw [uu3 _ _ _ a]; exact l1 q a, fun i hi => ?_⟩⟩
        by_cases q : i = o
        · subst q; rw [uu1]
        · rw [uu2 _ _ _ q]; exact l2 i (by omega)
end SV
theorem op_served {D : DD} (h : okD D) (x : Int32) : op_Q yX9_served iX9_served yX10_served iX10_served [.int x] D := by
  obtain ⟨m, hm, em⟩ := h.2.1.1
  have h4 := h.1.1.2.2.2.1
  have ho := h.1.1.2.2.2.2.2
  by_cases h1 : x = -1
  · subst h1
    refine ⟨(bst (dP D) (dA D) m ((pw (dP D) + 1) ^ po (dP D))).1, D, h, fun E σ Q hc hq => eX9_served _ ?_, fun E σ Q hmr hq => eX10_served _ ?_⟩
    · rw [if_pos rfl]
      refine sC_seekS h hc em hm (fun σ1 hc1 e1 e2 => eX7_answer _ ?_)
      rw [if_pos rfl, e1]
      exact hq σ1 hc1
    · rw [if_pos rfl]
      refine sM_seekS h hmr em hm (fun σ1 hm1 e2 => ?_)
      rw [if_pos rfl]
      exact hq σ1 hm1
  · rcases vrng x (po (dP D)) (by omega) with ⟨o, ho1, rfl⟩ | hx
    · obtain ⟨g, hg, y, hy⟩ := bst_some (dP D) (dA D) m
      have hgo : g o ≤ pw (dP D) := by have := dgt_le (pw (dP D) + 1) (po (dP D)) y o (by omega); rw [hy]; omega
      refine ⟨if g o = pw (dP D) then -1 else nI (g o), D, h, fun E σ Q hc hq => eX9_served _ ?_, fun E σ Q hmr hq => eX10_served _ ?_⟩
      · rw [if_neg h1]
        refine sc_hasOrder_t hc.1.1.2.2.2.2.2 ho ho1 ?_
        rw [if_neg (by decide)]
        refine sC_seekS h hc em hm (fun σ1 hc1 e1 e2 => eX7_answer _ ?_)
        rw [if_neg h1]
        refine sc_hasOrder_t hc1.1.1.2.2.2.2.2 ho ho1 ?_
        rw [if_neg (by decide), vcl (by omega), e2 g hg o ho1]
        refine ⟨vin (by omega) (by decide), ?_⟩
        by_cases c : g o = pw (dP D)
        · refine sc_hasWaiter_f hc1.1.1.2.2.2.1 h4 (fun q => ?_) ?_
          · obtain ⟨j, hj, e⟩ := vp_in_of q (by omega)
            rw [nI_eq (by omega) (by omega)] at e
            omega
          · rw [if_pos rfl]
            have := hq σ1 hc1
            rw [if_pos c] at this
            exact this
        · refine sc_hasWaiter_t hc1.1.1.2.2.2.1 h4 (by omega) ?_
          rw [if_neg (by decide), e2 g hg o ho1]
          have := hq σ1 hc1
          rw [if_neg c] at this
          exact ⟨vin (by omega) (by decide), this⟩
      · rw [if_neg h1]
        refine sm_in_t (in_t hmr.1.1.2.2.2.2.2 ho1 (by omega)).1 (in_t hmr.1.1.2.2.2.2.2 ho1 (by omega)).2 ?_
        rw [if_neg (by decide)]
        refine sM_seekS h hmr em hm (fun σ1 hm1 e2 => ?_)
        rw [if_neg h1, vcl (by omega), e2 g hg o ho1, hm1.1.1.2.2.2.1]
        refine ⟨vin (by omega) (by decide), ?_⟩
        have := hq σ1 hm1
        by_cases c : g o = pw (dP D)
        · rw [if_pos c] at this
          rw [if_pos (by rw [c])]
          exact this
        · rw [if_neg c] at this
          rw [if_neg (nne (by omega) (by omega) c)]
          exact ⟨vin (by omega) (by decide), this⟩
    · refine op_Q.ask (-1000000001) h (fun E σ Q hc hq => eX9_served _ ?_) (fun E σ Q hmr hq => eX10_served _ ?_)
      · rw [if_neg h1]
        refine sc_hasOrder_f hc.1.1.2.2.2.2.2 ho hx ?_
        rw [if_pos rfl]; exact hq
      · rw [if_neg h1]
        refine sm_in_f (in_f hmr.1.1.2.2.2.2.2 (by omega) hx) ?_
        rw [if_pos rfl]; exact hq

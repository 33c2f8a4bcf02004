/-! ===== reading: text of n letters ===== -/
/-- behind the blanks -/
def skp (n : Nat) (tx : Nat → Nat) : Nat → Nat → Nat
  | 0, p => p
  | f + 1, p => if p < n ∧ tx p = 32 then skp n tx f (p + 1) else p
def chr (n : Nat) (tx : Nat → Nat) (p : Nat) : Int32 := if p < n then nI (tx p) else -1
theorem skp_le (n : Nat) (tx : Nat → Nat) : ∀ f p, p ≤ skp n tx f p ∧ (p ≤ n → skp n tx f p ≤ n)
  | 0, p => ⟨Nat.le_refl p, fun h => h⟩
  | f + 1, p => by
    unfold skp
    by_cases c : p < n ∧ tx p = 32
    · rw [if_pos c]
      have := skp_le n tx f (p + 1)
      exact ⟨by omega, fun h => this.2 (by omega)⟩
    · rw [if_neg c]; exact ⟨Nat.le_refl p, fun h => h⟩
theorem skp_end (n : Nat) (tx : Nat → Nat) : ∀ f p, n ≤ p + f → ¬ (skp n tx f p < n ∧ tx (skp n tx f p) = 32)
  | 0, p, h => fun q => by have : p < n := q.1; omega
  | f + 1, p, h => by
    unfold skp
    by_cases c : p < n ∧ tx p = 32
    · rw [if_pos c]; exact skp_end n tx f (p + 1) (by omega)
    · rw [if_neg c]; exact c
abbrev skip (n : Nat) (tx : Nat → Nat) (p : Nat) : Nat := skp n tx 240 p
theorem skp_stop {n : Nat} {tx : Nat → Nat} {p : Nat} (h : ¬ (p < n ∧ tx p = 32)) : ∀ f, skp n tx f p = p
  | 0 => rfl
  | f + 1 => by unfold skp; rw [if_neg h]
/-- the figures -/
abbrev isF (n : Nat) (tx : Nat → Nat) (p : Nat) : Prop := p < n ∧ 48 ≤ tx p ∧ tx p ≤ 57
def num (n : Nat) (tx : Nat → Nat) : Nat → Nat → Nat → Nat → Nat × Nat
  | 0, _, c, v => (c, v)
  | f + 1, p, c, v => if isF n tx p then num n tx f (p + 1) (c + 1) (if c < 3 then v * 10 + (tx p - 48) else v) else (c, v)
theorem num_c (n : Nat) (tx : Nat → Nat) : ∀ f p c v, c ≤ (num n tx f p c v).1 ∧ (p ≤ n → p + (num n tx f p c v).1 ≤ n + c)
  | 0, p, c, v => ⟨Nat.le_refl c, fun h => by show p + c ≤ n + c; omega⟩
  | f + 1, p, c, v => by
    unfold num
    by_cases q : isF n tx p
    · rw [if_pos q]
      have := num_c n tx f (p + 1) (c + 1) (if c < 3 then v * 10 + (tx p - 48) else v)
      have hp := q.1
      exact ⟨by omega, fun h => by have := this.2 (by omega); omega⟩
    · rw [if_neg q]; exact ⟨Nat.le_refl c, fun h => by show p + c ≤ n + c; omega⟩
/-- a number between lo and hi: what is wrong and where, or the number, behind it, where it began -/
def nmb (n : Nat) (tx : Nat → Nat) (lo hi p : Nat) : (Nat × Nat) ⊕ (Nat × Nat × Nat) :=
  if (num n tx 240 (skip n tx p) 0 0).1 = 0 then .inl (1, skip n tx p)
  else if 3 < (num n tx 240 (skip n tx p) 0 0).1 then .inl (2, skip n tx p)
  else if lo ≤ (num n tx 240 (skip n tx p) 0 0).2 ∧ (num n tx 240 (skip n tx p) 0 0).2 ≤ hi then .inr ((num n tx 240 (skip n tx p) 0 0).2, skip n tx p + (num n tx 240 (skip n tx p) 0 0).1, skip n tx p)
  else .inl (2, skip n tx p)
/-- the class's reader: what stands in its cell -/
def rS (σ : tp_M) (n p : Nat) : Prop := σ 27 2 = nI n ∧ σ 27 4 = 0 ∧ σ 27 3 = -1 ∧ σ 27 5 = nI p
def rF (σ : tp_M) (n c a : Nat) : Prop := σ 27 2 = nI n ∧ σ 27 4 = nI c ∧ σ 27 3 = nI a ∧ ∃ p, p ≤ n ∧ σ 27 5 = nI p
abbrev rT (σ : tp_M) (n : Nat) (tx : Nat → Nat) : Prop := ∀ i, i < n → σ 36 i = nI (tx i)
section RC
variable {E : tp_E} {d : Nat} {σ : tp_M} {n : Nat} {tx : Nat → Nat}
theorem sC_letter {Q : Int32 → tp_M → Prop} {p : Nat} (hn : n ≤ 240) (h2 : σ 27 2 = nI n) (ht : rT σ n tx) (hp : p < 2147483648) (h : Q (chr n tx p) σ) : Ci E TC yX6_letterAt iX6_letterAt d [.ref 27, .int (nI p)] σ Q := by
  refine eX6_letterAt _ ?_
  rw [if_neg (nI_pos hp), h2]
  unfold chr at h
  by_cases c : p < n
  · rw [if_pos c] at h
    rw [if_neg (nI_ge c (by omega)), if_neg (nle_lit 240 (by omega) (by decide)), vcl hp, ht p c]
    exact ⟨vin (by omega) (by decide), h⟩
  · rw [if_neg c] at h
    rw [if_pos (nI_le (by omega) hp)]
    exact h
theorem chr_32 {p : Nat} (hx : ∀ i, i < n → tx i ≤ 255) {L : Nat} (hL : L ≤ 255) : chr n tx p = nI L ↔ p < n ∧ tx p = L := by
  unfold chr
  by_cases c : p < n
  · have := hx p c
    rw [if_pos c, nI_eq (by omega) (by omega)]
    exact ⟨fun q => ⟨c, q⟩, fun q => q.2⟩
  · rw [if_neg c]
    exact ⟨fun q => absurd q.symm (nI_ne_m1 (by omega)), fun q => absurd q.1 c⟩
theorem sC_skip {Q : tp_M → Prop} {p : Nat} (hn : n ≤ 240) (hx : ∀ i, i < n → tx i ≤ 255) (hp : p ≤ n) (h2 : σ 27 2 = nI n) (h5 : σ 27 5 = nI p) (ht : rT σ n tx) (h : ∀ σ', σ' 27 5 = nI (skip n tx p) → (∀ k, k ≠ 5 → σ' 27 k = σ 27 k) → (∀ q, q ≠ 27 → σ' q = σ q) → Q σ') : Cv E TC yX6_skipBlanks iX6_skipBlanks (d + 1) [.ref 27] σ Q := by
  refine eX6_skipBlanks ?_
  have key : ∀ f j p s, j + f = 240 → p ≤ n → (∀ k, k ≠ 5 → s 27 k = σ 27 k) → (∀ q, q ≠ 27 → s q = σ q) → s 27 5 = nI p → (∀ σ', σ' 27 5 = nI (skp n tx f p) → (∀ k, k ≠ 5 → σ' 27 k = σ 27 k) → (∀ q, q ≠ 27 → σ' q = σ q) → Q σ') → Wv E TC iX6_skipBlanks (d + 1) Q 2 [(0, .ref 27), (1, .int (nI j))] [] s := by
    intro f
    induction f with
    | zero =>
      intro j p s hj hp g1 g2 g3 hq
      refine bX6_skipBlanks_2 _ ?_
      rw [if_pos (le_litp 240 (by omega) (by omega))]
      exact hq s g3 g1 g2
    | succ f ih =>
      intro j p s hj hp g1 g2 g3 hq
      refine bX6_skipBlanks_2 _ ?_
      rw [if_neg (nle_lit 240 (by omega) (by decide)), g3, nI_1]
      refine sC_letter hn (by rw [g1 2 (by omega)]; exact h2) (fun i hi => by rw [g2 36 (by omega)]; exact ht i hi) (by omega) ?_
      unfold skp at hq
      by_cases c : p < n ∧ tx p = 32
      · rw [if_pos c] at hq
        rw [if_pos (show chr n tx p = 32 from (chr_32 hx (L := 32) (by omega)).mpr c), g3, nI_1]
        exact ih (j + 1) (p + 1) _ (by omega) (by omega) (fun k hk => by rw [uu2 _ _ _ hk]; exact g1 k hk) (fun q hq => by rw [uu3 _ _ _ hq]; exact g2 q hq) (uu1 _ _ _ _) hq
      · rw [if_neg c] at hq
        rw [if_neg (show ¬ chr n tx p = 32 from fun q => c ((chr_32 hx (L := 32) (by omega)).mp q))]
        exact hq s g3 g1 g2
  exact key 240 0 p σ rfl hp (fun k _ => rfl) (fun q _ => rfl) h5 h
theorem chr_fig {p : Nat} (hx : ∀ i, i < n → tx i ≤ 255) : isF n tx p ↔ (¬ chr n tx p < 48 ∧ ¬ 57 < chr n tx p) := by
  unfold chr
  by_cases c : p < n
  · have := hx p c
    rw [if_pos c]
    constructor
    · intro q
      exact ⟨nI_nltL 48 q.2.1 (by omega), nlt_lit 57 q.2.2 (by decide)⟩
    · intro q
      refine ⟨c, ?_, ?_⟩
      · rcases Nat.lt_or_ge (tx p) 48 with z | z
        · exact absurd (nI_ltL 48 z (by decide)) q.1
        · exact z
      · rcases Nat.lt_or_ge 57 (tx p) with z | z
        · exact absurd (lt_litp 57 z (by omega)) q.2
        · exact z
  · rw [if_neg c]
    exact ⟨fun q => absurd q.1 c, fun q => absurd (show (-1 : Int32) < 48 by decide) q.1⟩
theorem num_v (hx : ∀ i, i < n → tx i ≤ 255) : ∀ f p c v, v < 10 ^ (min c 3) → (num n tx f p c v).2 < 1000
  | 0, p, c, v, h => by
    show v < 1000
    have : 10 ^ (min c 3) ≤ 10 ^ 3 := Nat.pow_le_pow_right (by omega) (by omega)
    omega
  | f + 1, p, c, v, h => by
    unfold num
    by_cases q : isF n tx p
    · rw [if_pos q]
      refine num_v hx f (p + 1) (c + 1) _ ?_
      have h1 := q.2.1
      have h2 := q.2.2
      by_cases c3 : c < 3
      · rw [if_pos c3, show min (c + 1) 3 = min c 3 + 1 by omega, Nat.pow_succ]
        omega
      · rw [if_neg c3, show min (c + 1) 3 = min c 3 by omega]
        exact h
    · rw [if_neg q]
      show v < 1000
      have : 10 ^ (min c 3) ≤ 10 ^ 3 := Nat.pow_le_pow_right (by omega) (by omega)
      omega
theorem sC_number {Q : Int32 → tp_M → Prop} {p lo hi : Nat} (hn : n ≤ 240) (hx : ∀ i, i < n → tx i ≤ 255) (hp : p ≤ n) (hr : rS σ n p) (ht : rT σ n tx) (hlo : lo < 2147483648) (hhi : hi < 2147483648) (h : match nmb n tx lo hi p with
    | .inl x => ∀ v σ', rF σ' n x.1 x.2 → (∀ q, q ≠ 27 → σ' q = σ q) → Q v σ'
    | .inr x => ∀ σ', rS σ' n x.2.1 → σ' 27 6 = nI x.2.2 → (∀ q, q ≠ 27 → σ' q = σ q) → Q (nI x.1) σ') : Ci E TC yX6_readNumber iX6_readNumber (d + 1 + 1) [.ref 27, .int (nI lo), .int (nI hi)] σ Q := by
  obtain ⟨r2, r4, r3, r5⟩ := hr
  refine eX6_readNumber _ _ (sC_skip hn hx hp r2 r5 ht (fun σ1 e5 e1 e2 => ?_))
  have hs1 : p ≤ skip n tx p := (skp_le n tx 240 p).1
  have hs2 : skip n tx p ≤ n := (skp_le n tx 240 p).2 hp
  rw [e5]
  unfold nmb at h
  generalize skip n tx p = s at e5 h hs1 hs2
  have key : ∀ f p c v s', c + f = 240 → p ≤ n → p = s + c → v < 10 ^ (min c 3) → s' 27 2 = nI n → s' 27 4 = 0 → s' 27 3 = -1 → s' 27 5 = nI p → s' 27 6 = nI s → (∀ q, q ≠ 27 → s' q = σ q) → num n tx f p c v = num n tx 240 s 0 0 → Wi E TC iX6_readNumber (d + 1 + 1) Q 17 [(0, .ref 27), (1, .int (nI lo)), (2, .int (nI hi)), (3, .int (nI v)), (4, .int (nI c))] [] s' := by
    intro f
    have fin : ∀ p c v s', p ≤ n → p = s + c → v < 10 ^ (min c 3) → s' 27 2 = nI n → s' 27 4 = 0 → s' 27 3 = -1 → s' 27 5 = nI p → s' 27 6 = nI s → (∀ q, q ≠ 27 → s' q = σ q) → (c, v) = num n tx 240 s 0 0 → Wi E TC iX6_readNumber (d + 1 + 1) Q 82 [(0, .ref 27), (1, .int (nI lo)), (2, .int (nI hi)), (3, .int (nI v))] [] s' := by
      intro p c v s' hp hpc hv g2 g4 g3 g5 g6 g7 hN
      rw [← hN] at h
      change (match (if c = 0 then Sum.inl (1, s) else if 3 < c then Sum.inl (2, s) else if lo ≤ v ∧ v ≤ hi then Sum.inr (v, s + c, s) else Sum.inl (2, s) : (Nat × Nat) ⊕ (Nat × Nat × Nat)) with
        | .inl x => ∀ v σ', rF σ' n x.1 x.2 → (∀ q, q ≠ 27 → σ' q = σ q) → Q v σ'
        | .inr x => ∀ σ', rS σ' n x.2.1 → σ' 27 6 = nI x.2.2 → (∀ q, q ≠ 27 → σ' q = σ q) → Q (nI x.1) σ') at h
      have hv9 : v < 1000 := by
        have : 10 ^ (min c 3) ≤ 10 ^ 3 := Nat.pow_le_pow_right (by omega) (by omega)
        omega
      have bl : ∀ x a : Nat, rF (tp_u (tp_u s' 27 4 (nI x)) 27 3 (nI a)) n x a ∧ ∀ q, q ≠ 27 → tp_u (tp_u s' 27 4 (nI x)) 27 3 (nI a) q = σ q := fun x a => ⟨⟨by rw [uu2 _ _ _ (by omega), uu2 _ _ _ (by omega)]; exact g2, by rw [uu2 _ _ _ (by omega), uu1], by rw [uu1], p, hp, by rw [uu2 _ _ _ (by omega), uu2 _ _ _ (by omega)]; exact g5⟩, fun q hq => by rw [uu3 _ _ _ hq, uu3 _ _ _ hq]; exact g7 q hq⟩
      refine bX6_readNumber_82 _ _ _ ?_
      rw [g5, g6]
      by_cases c0 : c = 0
      · rw [if_pos c0] at h
        rw [if_pos (by rw [hpc, c0, Nat.add_zero])]
        refine eX6_blame _ _ ?_
        rw [hpc, c0, Nat.add_zero]
        exact h _ _ (bl 1 s).1 (bl 1 s).2
      · rw [if_neg c0] at h
        rw [if_neg (by rw [nI_eq (by omega) (by omega)]; omega), pk_sub (by omega), show p - s = c by omega]
        by_cases c3 : 3 < c
        · rw [if_pos c3] at h
          rw [if_pos (lt_litp 3 c3 (by omega))]
          exact eX6_blame _ _ (h _ _ (bl 2 s).1 (bl 2 s).2)
        · rw [if_neg c3] at h
          rw [if_neg (nlt_lit 3 (by omega) (by decide))]
          by_cases cl : v < lo
          · rw [if_neg (by omega)] at h
            rw [if_pos (nI_lt cl hlo)]
            exact eX6_blame _ _ (h _ _ (bl 2 s).1 (bl 2 s).2)
          · rw [if_neg (nI_nlt (by omega) (by omega))]
            by_cases ch : v ≤ hi
            · rw [if_pos ⟨by omega, ch⟩] at h
              rw [if_pos (nI_le ch hhi)]
              exact h s' ⟨g2, g4, g3, by rw [g5, hpc]⟩ g6 g7
            · rw [if_neg (by omega)] at h
              rw [if_neg (nI_ge (by omega) (by omega))]
              exact eX6_blame _ _ (h _ _ (bl 2 s).1 (bl 2 s).2)
    induction f with
    | zero =>
      intro p c v s' hc hp hpc hv g2 g4 g3 g5 g6 g7 hN
      refine bX6_readNumber_17 _ _ _ _ ?_
      rw [if_pos (le_litp 240 (by omega) (by omega))]
      exact fin p c v s' hp hpc hv g2 g4 g3 g5 g6 g7 hN
    | succ f ih =>
      intro p c v s' hc hp hpc hv g2 g4 g3 g5 g6 g7 hN
      refine bX6_readNumber_17 _ _ _ _ ?_
      rw [if_neg (nle_lit 240 (by omega) (by decide)), g5, nI_1]
      have t' : rT s' n tx := fun i hi => by rw [g7 36 (by omega)]; exact ht i hi
      refine sC_letter hn g2 t' (by omega) (eX6_isFigure _ ?_)
      have cf := chr_fig (n := n) (tx := tx) (p := p) hx
      unfold num at hN
      by_cases c1 : isF n tx p
      · rw [if_pos c1] at hN
        obtain ⟨d1, d2, d3⟩ := c1
        rw [if_neg (cf.mp ⟨d1, d2, d3⟩).1, if_neg (cf.mp ⟨d1, d2, d3⟩).2, if_neg (by decide)]
        have nxt : ∀ w : Nat, w < 10 ^ (min (c + 1) 3) → num n tx f (p + 1) (c + 1) w = num n tx 240 s 0 0 → Wi E TC iX6_readNumber (d + 1 + 1) Q 17 [(0, .ref 27), (1, .int (nI lo)), (2, .int (nI hi)), (3, .int (nI w)), (4, .int (nI (c + 1)))] [] (tp_u s' 27 5 (nI (p + 1))) := fun w hw hN => ih (p + 1) (c + 1) w _ (by omega) (by omega) (by omega) hw (by rw [uu2 _ _ _ (by omega)]; exact g2) (by rw [uu2 _ _ _ (by omega)]; exact g4) (by rw [uu2 _ _ _ (by omega)]; exact g3) (uu1 _ _ _ _) (by rw [uu2 _ _ _ (by omega)]; exact g6) (fun q hq => by rw [uu3 _ _ _ hq]; exact g7 q hq) hN
        by_cases c3 : c < 3
        · rw [if_pos c3] at hN
          rw [if_neg (nle_lit 3 c3 (by decide)), g5]
          refine sC_letter hn g2 t' (by omega) ?_
          rw [g5, nI_1, show chr n tx p = nI (tx p) from if_pos d1, show nI v * 10 = nI (v * 10) from by rw [show (10 : Int32) = nI 10 from rfl, pk_mul], nI_add, show nI (v * 10 + tx p) - 48 = nI (v * 10 + tx p - 48) from pk_sub (b := 48) (by omega), show v * 10 + tx p - 48 = v * 10 + (tx p - 48) by omega]
          exact nxt _ (by rw [show min (c + 1) 3 = min c 3 + 1 by omega, Nat.pow_succ]; omega) hN
        · rw [if_neg c3] at hN
          rw [if_pos (le_litp 3 (by omega) (by omega)), g5, nI_1]
          exact nxt v (by rw [show min (c + 1) 3 = min c 3 by omega]; exact hv) hN
      · rw [if_neg c1] at hN
        have := fun q => c1 (cf.mpr q)
        by_cases k1 : chr n tx p < 48
        · rw [if_pos k1, if_pos rfl]
          exact fin p c v s' hp hpc hv g2 g4 g3 g5 g6 g7 hN
        · rw [if_neg k1, if_pos (by
            by_cases k2 : 57 < chr n tx p
            · exact k2
            · exact absurd ⟨k1, k2⟩ this), if_pos rfl]
          exact fin p c v s' hp hpc hv g2 g4 g3 g5 g6 g7 hN
  exact key 240 s 0 0 _ rfl hs2 rfl (by decide) (by rw [uu2 _ _ _ (by omega), e1 2 (by omega)]; exact r2) (by rw [uu2 _ _ _ (by omega), e1 4 (by omega)]; exact r4) (by rw [uu2 _ _ _ (by omega), e1 3 (by omega)]; exact r3) (by rw [uu2 _ _ _ (by omega)]; exact e5) (uu1 _ _ _ _) (fun q hq => by rw [uu3 _ _ _ hq]; exact e2 q hq) rfl
end RC

/-! ===== the abstract plan and state ===== -/
abbrev PD : Type := (Nat × Nat × Nat × Nat × Nat × Nat) × (Nat → Int32) × (Nat → Nat) × (Nat → Nat) × (Nat → Nat) × (Nat → Nat) × (Nat → Nat) × (Nat → Nat)
abbrev pn (P : PD) : Nat := P.1.1
abbrev pe (P : PD) : Nat := P.1.2.1
abbrev pp (P : PD) : Nat := P.1.2.2.1
abbrev pw (P : PD) : Nat := P.1.2.2.2.1
abbrev pt (P : PD) : Nat := P.1.2.2.2.2.1
abbrev po (P : PD) : Nat := P.1.2.2.2.2.2
abbrev pJ (P : PD) : Nat → Int32 := P.2.1
abbrev pS (P : PD) : Nat → Nat := P.2.2.1
abbrev pC (P : PD) : Nat → Nat := P.2.2.2.1
abbrev pG (P : PD) : Nat → Nat := P.2.2.2.2.1
abbrev pV (P : PD) : Nat → Nat := P.2.2.2.2.2.1
abbrev pR (P : PD) : Nat → Nat := P.2.2.2.2.2.2.1
abbrev pM (P : PD) : Nat → Nat := P.2.2.2.2.2.2.2
/-- the class's plan at cell b, the reference's -/
def cP (σ : tp_M) (b : Nat) (P : PD) : Prop := (σ b 0 = nI (pn P) ∧ σ b 1 = nI (pe P) ∧ σ b 2 = nI (pp P) ∧ σ b 3 = nI (pw P) ∧ σ b 4 = nI (pt P) ∧ σ b 5 = nI (po P)) ∧ (∀ r, r < 8 → σ (b + 1) r = pJ P r) ∧ (∀ k, k < pw P → σ (b + 2) k = nI (pS P k) ∧ σ (b + 3) k = nI (pC P k)) ∧ (∀ t, t < pt P → σ (b + 4) t = nI (pG P t) ∧ σ (b + 5) t = nI (pV P t)) ∧ (∀ o, o < po P → σ (b + 6) o = nI (pR P o) ∧ σ (b + 7) o = nI (pM P o))
def mP (σ : tp_M) (P : PD) : Prop := (σ 0 3 = nI (pn P) ∧ σ 0 4 = nI (pe P) ∧ σ 0 5 = nI (pp P) ∧ σ 0 7 = nI (pw P) ∧ σ 0 9 = nI (pt P) ∧ σ 0 12 = nI (po P)) ∧ (∀ r, r < 8 → σ 3 r = pJ P r) ∧ (∀ k, k < pw P → σ 4 k = nI (pC P k)) ∧ (∀ t, t < pt P → σ 5 t = nI (pG P t) ∧ σ 6 t = nI (pV P t)) ∧ (∀ o, o < po P → σ 7 o = nI (pR P o) ∧ σ 8 o = nI (pM P o))
def okP (P : PD) : Prop := (pn P ≤ 8 ∧ pe P ≤ 99 ∧ pp P ≤ 12 ∧ pw P ≤ 4 ∧ pt P ≤ 8 ∧ po P ≤ 4) ∧ (∀ r j, r < 8 → j < 32 → bt (pJ P r) j = true → j < pn P ∧ j ≠ r ∧ r < pn P) ∧ (∀ k, k < pw P → pS P k < pn P ∧ 1 ≤ pC P k ∧ pC P k ≤ 999) ∧ (∀ t, t < pt P → 1 ≤ pG P t ∧ pG P t ≤ 99 ∧ pV P t ≤ 99) ∧ (∀ o, o < po P → pR P o < pn P ∧ pM P o ≤ 99)
/-- minutes, meetings, rooms, routes (the next room's figure last), treaties, places -/
abbrev AS : Type := Int32 × Int32 × (Nat → Nat) × (Nat → Nat) × (Nat → Int32) × (Nat → Int32)
abbrev aMi (A : AS) : Int32 := A.1
abbrev aMe (A : AS) : Int32 := A.2.1
abbrev aAt (A : AS) : Nat → Nat := A.2.2.1
abbrev aRt (A : AS) : Nat → Nat := A.2.2.2.1
abbrev aTr (A : AS) : Nat → Int32 := A.2.2.2.2.1
abbrev aPl (A : AS) : Nat → Int32 := A.2.2.2.2.2
/-- how many figures, the e-th room of a route -/
def ndf : Nat → Nat → Nat
  | 0, _ => 0
  | f + 1, r => if r = 0 then 0 else ndf f (r / 10) + 1
def nd (r : Nat) : Nat := ndf 9 r
def dg (r e : Nat) : Nat := r / 10 ^ e % 10 - 1
/-- a route that can be gone from a room: at most f rooms -/
def chn (P : PD) : Nat → Nat → Nat → Prop
  | 0, _, r => r = 0
  | f + 1, c, r => r = 0 ∨ (1 ≤ r % 10 ∧ r % 10 ≤ pn P ∧ bt (pJ P c) (r % 10 - 1) = true ∧ chn P f (r % 10 - 1) (r / 10))
def cS (σ : tp_M) (o : Nat) (P : PD) (A : AS) : Prop := (σ o 0 = aMi A ∧ σ o 1 = aMe A) ∧ (∀ k, k < pw P → σ (o + 1) k = nI (aAt A k)) ∧ (∀ k, k < 4 → σ (o + 2) k = nI (aRt A k)) ∧ (∀ k, k < pw P → σ (o + 3) k = aTr A k) ∧ (∀ t, t < 8 → σ (o + 4) t = aPl A t)
def mS (σ : tp_M) (b : Nat) (P : PD) (A : AS) : Prop := (σ 1 b = aMi A ∧ σ 1 (b + 1) = aMe A) ∧ (∀ k, k < pw P → σ 1 (b + 2 + k) = nI (aAt A k)) ∧ (∀ k, k < pw P → σ 1 (b + 6 + k) = nI (nd (aRt A k)) ∧ ∀ e, e < nd (aRt A k) → σ 1 (b + 10 + 9 * k + e) = nI (dg (aRt A k) e)) ∧ (∀ k, k < pw P → σ 1 (b + 46 + k) = aTr A k) ∧ (∀ t, t < pt P → σ 1 (b + 50 + t) = aPl A t)
def okA (P : PD) (A : AS) : Prop := (∃ m, m ≤ 9060 ∧ aMi A = nI m) ∧ (∀ k, k < pw P → aAt A k < pn P ∧ chn P 9 (aAt A k) (aRt A k)) ∧ (∀ k, pw P ≤ k → aRt A k = 0) ∧ (∀ t, pt P ≤ t → aPl A t = -3) ∧ (∀ t, t < pt P → aPl A t = -1 ∨ aPl A t = -2 ∨ ∃ k, k < 2 * pw P ∧ aPl A t = nI k)
/-! ===== sets of things, sums ===== -/
def tset (p : Nat → Int32) (v : Int32) (n : Nat) : Int32 := itr (fun t s => if p t = v then s ||| ((1 : Int32) <<< (nI t &&& 31)) else s) n 0
theorem tset_bt (p : Nat → Int32) (v : Int32) (n : Nat) (hn : n ≤ 32) {k : Nat} (hk : k < 32) : bt (tset p v n) k = decide (k < n ∧ p k = v) := by
  have key : ∀ m, m ≤ 32 → bt (tset p v m) k = decide (k < m ∧ p k = v) := by
    intro m
    induction m with
    | zero => intro _; simp [tset, itr, b_0]
    | succ m ih =>
      intro hm
      show bt (if p m = v then tset p v m ||| ((1 : Int32) <<< (nI m &&& 31)) else tset p v m) k = _
      by_cases hp : p m = v
      · rw [if_pos hp, b_or, ih (by omega), b_bit m (by omega) hk]
        by_cases hkm : k = m
        · subst hkm; simp [hp]
        · simp only [hkm, decide_false, Bool.or_false]
          congr 1
          exact propext ⟨fun h => ⟨by omega, h.2⟩, fun h => ⟨by omega, h.2⟩⟩
      · rw [if_neg hp, ih (by omega)]
        congr 1
        refine propext ⟨fun h => ⟨by omega, h.2⟩, fun h => ⟨?_, h.2⟩⟩
        by_cases hkm : k = m
        · subst hkm; exact absurd h.2 hp
        · omega
  exact key n hn
theorem tset_cut {p : Nat → Int32} {v : Int32} {m n : Nat} (h : m ≤ n) (hp : ∀ t, m ≤ t → t < n → p t ≠ v) : tset p v n = tset p v m := itr_cut n h (fun k h1 h2 x => if_neg (hp k h1 h2))
theorem tset_congr {p q : Nat → Int32} {v : Int32} {n : Nat} (h : ∀ t, t < n → p t = q t) : tset p v n = tset q v n := itr_congr n (fun k hk x => by rw [h k hk])
def wsum (g : Nat → Int32) (s : Int32) (n : Nat) : Int32 := itr (fun t a => if bt s t = true then a + g t else a) n 0
theorem wsum_cut {g : Nat → Int32} {s : Int32} {m n : Nat} (h : m ≤ n) (hp : ∀ t, m ≤ t → t < n → bt s t = false) : wsum g s n = wsum g s m := itr_cut n h (fun k h1 h2 x => if_neg (by rw [hp k h1 h2]; decide))
theorem wsum_congr {g g' : Nat → Int32} {s : Int32} {n : Nat} (h : ∀ t, t < n → g t = g' t) : wsum g s n = wsum g' s n := itr_congr n (fun k hk x => by rw [h k hk])
def nsum (g : Nat → Nat) (s : Int32) (n : Nat) : Nat := itr (fun t a => if bt s t = true then a + g t else a) n 0
theorem wsum_nsum {g : Nat → Int32} {h : Nat → Nat} {s : Int32} : ∀ {n : Nat}, (∀ t, t < n → g t = nI (h t)) → wsum g s n = nI (nsum h s n)
  | 0, _ => nI_0.symm
  | n + 1, hg => by
    show (if bt s n = true then wsum g s n + g n else wsum g s n) = nI (if bt s n = true then nsum h s n + h n else nsum h s n)
    rw [wsum_nsum (n := n) (fun t ht => hg t (by omega)), hg n (by omega)]
    by_cases hb : bt s n = true
    · rw [if_pos hb, if_pos hb, nI_add]
    · rw [if_neg hb, if_neg hb]
theorem nsum_le {h : Nat → Nat} {s : Int32} {c : Nat} : ∀ {n : Nat}, (∀ t, t < n → h t ≤ c) → nsum h s n ≤ n * c
  | 0, _ => by simp [nsum, itr]
  | n + 1, hg => by
    have ih := nsum_le (s := s) (n := n) (fun t ht => hg t (by omega))
    have h1 := hg n (by omega)
    show (if bt s n = true then nsum h s n + h n else nsum h s n) ≤ _
    rw [Nat.add_mul, Nat.one_mul]
    by_cases hb : bt s n = true
    · rw [if_pos hb]; omega
    · rw [if_neg hb]; omega
theorem b_nI_small {j k : Nat} (hj : j < 2 ^ k) (h : k ≤ 31) {i : Nat} (hi : k ≤ i) : bt (nI j) i = false := by
  unfold bt
  show (BitVec.ofNat 32 j).getLsbD i = false
  rw [BitVec.getLsbD_ofNat]
  have : j < 2 ^ i := Nat.lt_of_lt_of_le hj (Nat.pow_le_pow_right (by omega) hi)
  rw [Nat.testBit_lt_two_pow this, Bool.and_false]

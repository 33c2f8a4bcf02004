/-! ===== delays ===== -/
def mt2 (A : AS) (i e j g m : Nat) : Bool := met (trn_at A i e (m - 1)) (trn_at A i e m) (trn_at A j g (m - 1)) (trn_at A j g m)
theorem fmt_iff (A : AS) (i e j g : Nat) : ∀ f m, 1 ≤ m → m + f < 100 → (fmt A i e j g f m = -1 ↔ ∀ t, m ≤ t → t < m + f → mt2 A i e j g t = false)
  | 0, m, _, _ => ⟨fun _ t a b => by omega, fun _ => rfl⟩
  | f + 1, m, h1, h2 => by
    have ih := fmt_iff A i e j g f (m + 1) (by omega) (by omega)
    unfold fmt
    cases hm : met (trn_at A i e (m - 1)) (trn_at A i e m) (trn_at A j g (m - 1)) (trn_at A j g m) with
    | true =>
      rw [if_pos rfl]
      refine ⟨fun q => absurd q (nI_ne_m1 (by omega)), fun q => ?_⟩
      have := q m (by omega) (by omega)
      unfold mt2 at this
      rw [hm] at this
      cases this
    | false =>
      rw [if_neg (by decide), ih]
      refine ⟨fun q t a b => ?_, fun q t a b => q t (by omega) (by omega)⟩
      by_cases e : t = m
      · subst e; exact hm
      · exact q t (by omega) (by omega)
theorem posn_2 (c r : Nat) : ∀ n, (posn c r n).2 = r / 10 ^ n
  | 0 => by rw [Nat.pow_zero, Nat.div_one]; rfl
  | n + 1 => by
    show (posn c r n).2 / 10 = _
    rw [posn_2 c r n, p10s]
theorem posn_st {c r n : Nat} (hr : r < 1000000000) (hn : 9 ≤ n) : (posn c r (n + 1)).1 = (posn c r n).1 := by
  show (if (posn c r n).2 = 0 then (posn c r n).1 else (posn c r n).2 % 10 - 1) = _
  rw [posn_2, if_pos]
  refine Nat.div_eq_of_lt (Nat.lt_of_lt_of_le hr ?_)
  exact Nat.le_trans (by decide : 1000000000 ≤ 10 ^ 9) (Nat.pow_le_pow_right (by omega) hn)
theorem trn_st {A : AS} {k e m : Nat} (hr : aRt A k < 1000000000) (hm : e + 9 < m) : trn_at A k e m = trn_at A k e (m - 1) := by
  unfold trn_at
  rw [show m - e = m - 1 - e + 1 by omega]
  exact posn_st hr (by omega)
theorem trn_0 {A : AS} {k e m : Nat} (hm : m ≤ e) : trn_at A k e m = trn_at A k e (m - 1) := by
  unfold trn_at
  rw [show m - e = 0 by omega, show m - 1 - e = 0 by omega]
theorem mt2_no {A : AS} {i e j g m : Nat} (h1 : trn_at A i e m = trn_at A i e (m - 1)) (h2 : trn_at A j g m = trn_at A j g (m - 1)) : mt2 A i e j g m = false := by
  unfold mt2 met
  rw [h1, h2]
  exact decide_eq_false (fun q => q.1 ⟨rfl, rfl⟩)
/-- who both wait longer, meet later -/
theorem fmt_shift {A : AS} {i j e g c : Nat} (hi : aRt A i < 1000000000) (hj : aRt A j < 1000000000) (he : e + c ≤ 4) (hg : g + c ≤ 4) : fmt A i (e + c) j (g + c) 20 1 = -1 ↔ fmt A i e j g 20 1 = -1 := by
  rw [fmt_iff _ _ _ _ _ _ _ (by omega) (by omega), fmt_iff _ _ _ _ _ _ _ (by omega) (by omega)]
  have sh : ∀ k u m, trn_at A k (u + c) (m + c) = trn_at A k u m := fun k u m => by unfold trn_at; rw [Nat.add_sub_add_right]
  have shm : ∀ m, 1 ≤ m → mt2 A i (e + c) j (g + c) (m + c) = mt2 A i e j g m := fun m hm => by
    unfold mt2
    rw [show m + c - 1 = (m - 1) + c by omega, sh, sh, sh, sh]
  constructor
  · intro h t a b
    by_cases ht : t + c < 21
    · rw [← shm t a]; exact h (t + c) (by omega) (by omega)
    · exact mt2_no (trn_st hi (by omega)) (trn_st hj (by omega))
  · intro h t a b
    by_cases ht : t ≤ c
    · exact mt2_no (trn_0 (by omega)) (trn_0 (by omega))
    · have := h (t - c) (by omega) (by omega)
      rw [← shm (t - c) (by omega), show t - c + c = t by omega] at this
      exact this
theorem fmt_diff {A : AS} {i j e g : Nat} (hi : aRt A i < 1000000000) (hj : aRt A j < 1000000000) (he : e ≤ 4) (hg : g ≤ 4) : fmt A i (e - g) j (g - e) 20 1 = -1 ↔ fmt A i e j g 20 1 = -1 := by
  have := fmt_shift (e := e - g) (g := g - e) (c := min e g) hi hj (by omega) (by omega)
  rw [show e - g + min e g = e by omega, show g - e + min e g = g by omega] at this
  exact this.symm
def cls (A : AS) (i j n : Nat) : Int32 := itr (fun t s => if fmt A i (t - 4) j (4 - t) 20 1 = -1 then s else s ||| bit (t + 1)) n 0
theorem cls_bt (A : AS) (i j : Nat) {k : Nat} (hk : k < 31) : ∀ n, n ≤ 9 → (bt (cls A i j n) (k + 1) = true ↔ k < n ∧ ¬ fmt A i (k - 4) j (4 - k) 20 1 = -1)
  | 0, _ => by
    show bt 0 (k + 1) = true ↔ _
    rw [b_0]
    exact ⟨fun q => (by cases q), fun q => absurd q.1 (Nat.not_lt_zero k)⟩
  | n + 1, hn => by
    have ih := cls_bt A i j hk n (by omega)
    show bt (if fmt A i (n - 4) j (4 - n) 20 1 = -1 then cls A i j n else cls A i j n ||| bit (n + 1)) (k + 1) = true ↔ _
    by_cases h : fmt A i (n - 4) j (4 - n) 20 1 = -1
    · rw [if_pos h, ih]
      refine ⟨fun q => ⟨by omega, q.2⟩, fun q => ⟨?_, q.2⟩⟩
      by_cases e : k = n
      · subst e; exact absurd h q.2
      · omega
    · rw [if_neg h, b_or, b_bit (n + 1) (by omega) (by omega)]
      by_cases e : k = n
      · subst e
        simp [h]
      · rw [decide_eq_false (by omega), Bool.or_false, ih]
        exact ⟨fun q => ⟨by omega, q.2⟩, fun q => ⟨by omega, q.2⟩⟩
/-- no two meet with these delays -/
def aprB (P : PD) (A : AS) (g : Nat → Nat) : Bool := decide (∀ i, i < pw P → ∀ j, j < pw P → (i < j → fmt A i (g i) j (g j) 20 1 = -1))
def evl (A : AS) (g : Nat → Nat) (k : Nat) : Nat := if aRt A k = 0 then 0 else g k + nd (aRt A k)
def enda (P : PD) (A : AS) (g : Nat → Nat) (n : Nat) : Nat := itr (fun k s => max s (evl A g k)) n 0
/-- from the last one down -/
def endd (P : PD) (A : AS) (g : Nat → Nat) : Nat → Nat
  | 0 => 0
  | n + 1 => max (endd P A g n) (evl A g (pw P - (n + 1)))
theorem end_eq (P : PD) (A : AS) (g : Nat → Nat) : endd P A g (pw P) = enda P A g (pw P) := by
  have key : ∀ k, k ≤ pw P → max (enda P A g k) (endd P A g (pw P - k)) = endd P A g (pw P) := by
    intro k
    induction k with
    | zero => intro _; rw [Nat.sub_zero]; exact Nat.max_eq_right (Nat.zero_le _)
    | succ k ih =>
      intro hk
      rw [← ih (by omega), show pw P - k = pw P - (k + 1) + 1 by omega]
      show max (max (enda P A g k) (evl A g k)) _ = max _ (max _ (evl A g (pw P - (pw P - (k + 1) + 1))))
      rw [show pw P - (pw P - (k + 1) + 1) = k by omega]
      omega
  have := key (pw P) (Nat.le_refl _)
  rw [Nat.sub_self] at this
  rw [← this]
  exact Nat.max_eq_left (Nat.zero_le _)
theorem evl_le {A : AS} {g : Nat → Nat} {k : Nat} (hg : g k ≤ 4) : evl A g k ≤ 13 := by
  have := nd_le (aRt A k)
  unfold evl
  by_cases h : aRt A k = 0
  · rw [if_pos h]; omega
  · rw [if_neg h]; omega
theorem enda_le {P : PD} {A : AS} {g : Nat → Nat} (hg : ∀ k, g k ≤ 4) : ∀ n, enda P A g n ≤ 13
  | 0 => by show 0 ≤ 13; omega
  | n + 1 => by
    have h1 := enda_le (P := P) (A := A) hg n
    have h2 := evl_le (A := A) (hg n)
    show max (enda P A g n) (evl A g n) ≤ 13
    omega
theorem endd_le {P : PD} {A : AS} {g : Nat → Nat} (hg : ∀ k, g k ≤ 4) : ∀ n, endd P A g n ≤ 13
  | 0 => by show 0 ≤ 13; omega
  | n + 1 => by
    have h1 := endd_le (P := P) (A := A) hg n
    have h2 := evl_le (A := A) (hg (pw P - (n + 1)))
    show max (endd P A g n) (evl A g (pw P - (n + 1))) ≤ 13
    omega
abbrev dg5 (P : PD) (x : Nat) : Nat → Nat := dgt 5 (pw P) x
theorem dg5_le (P : PD) (x k : Nat) : dg5 P x k ≤ 4 := by
  have := dgt_le 5 (pw P) x k (by omega)
  omega
def dbw (b : Option (Nat × (Nat → Nat))) (v : Nat) : Bool := match b with
  | none => true
  | some c => decide (v < c.1)
def dbst (P : PD) (A : AS) (x : Nat) (s : Option (Nat × (Nat → Nat))) : Option (Nat × (Nat → Nat)) := if dbw s (enda P A (dg5 P x) (pw P)) = true ∧ aprB P A (dg5 P x) = true then some (enda P A (dg5 P x) (pw P), dg5 P x) else s
def dbs (P : PD) (A : AS) (n : Nat) : Option (Nat × (Nat → Nat)) := itr (fun x s => dbst P A x s) n none
theorem dbs_le (P : PD) (A : AS) : ∀ n b, dbs P A n = some b → b.1 ≤ 13 ∧ ∀ k, b.2 k ≤ 4
  | 0, b, h => by cases h
  | n + 1, b, h => by
    have ih := dbs_le P A n b
    change dbst P A n (dbs P A n) = some b at h
    unfold dbst at h
    by_cases c : dbw (dbs P A n) (enda P A (dg5 P n) (pw P)) = true ∧ aprB P A (dg5 P n) = true
    · rw [if_pos c] at h
      cases h
      exact ⟨enda_le (P := P) (fun k => dg5_le P n k) _, fun k => dg5_le P n k⟩
    · rw [if_neg c] at h; exact ih h
def dbI (b : Option (Nat × (Nat → Nat))) (z : Int32) : Int32 := match b with
  | none => z
  | some c => nI c.1
section CD
variable {E : tp_E} {d : Nat} {σ : tp_M} {P : PD} {A : AS}
theorem sC_setClashes {Q : tp_M → Prop} {i j : Nat} (hP : okP P) (hA : okA P A) (h13 : σ 1 3 = nI (pw P)) (ht : trk σ P A) (hi : i < pw P) (hj : j < pw P) (hij : i ≠ j) (h : Q (tp_u σ 144 (i * 4 + j) (cls A i j 9))) : Cv E TC yX1_setClashes iX1_setClashes (d + 1 + 1 + 1) [.ref 141, .int (nI i), .int (nI j)] σ Q := by
  have h4 := hP.1.2.2.2.1
  refine eX1_setClashes _ _ ?_
  have key : ∀ m t, t + m = 9 → Wv E TC iX1_setClashes (d + 1 + 1 + 1) Q 6 [(0, .ref 141), (1, .int (nI i)), (2, .int (nI j)), (3, .int (cls A i j t)), (4, .int (nI t - 4))] [] σ := by
    intro m
    induction m with
    | zero =>
      intro t ht9
      rw [Nat.add_zero] at ht9
      subst ht9
      refine bX1_setClashes_6 _ _ _ _ ?_
      rw [if_pos (by decide)]
      refine sc_two_t h13 h4 hi hj hij ?_
      rw [if_neg (by decide), show nI i * 4 = nI (i * 4) from by rw [show (4 : Int32) = nI 4 from rfl, pk_mul], nI_add, vcl (by omega)]
      exact ⟨vin (by omega) (by decide), h⟩
    | succ m ih =>
      intro t ht9
      have ih1 := ih (t + 1) (by omega)
      refine bX1_setClashes_6 _ _ _ _ ?_
      have small : ∀ t, t < 9 → ¬ (5 ≤ nI t - 4) ∧ (if nI t - 4 < 0 then 0 else nI t - 4) = nI (t - 4) ∧ (if (0 - (nI t - 4)) < 0 then 0 else (0 - (nI t - 4))) = nI (4 - t) ∧ nI t - 4 + 1 = nI (t + 1) - 4 ∧ nI t - 4 + 5 = nI (t + 1) := by decide
      obtain ⟨s1, s2, s3, s4, s5⟩ := small t (by omega)
      rw [if_neg s1, s2, s3, s4, s5]
      refine sC_meetingOf hP hA h13 ht hi hj (by omega) (by omega) ?_
      have e1 : cls A i j (t + 1) = if fmt A i (t - 4) j (4 - t) 20 1 = -1 then cls A i j t else cls A i j t ||| bit (t + 1) := rfl
      rw [e1] at ih1
      by_cases c : fmt A i (t - 4) j (4 - t) 20 1 = -1
      · rw [if_pos c] at ih1 ⊢; exact ih1
      · rw [if_neg c] at ih1 ⊢; exact ih1
  exact key 9 0 rfl
theorem sC_markClashes {Q : tp_M → Prop} (hP : okP P) (hA : okA P A) (h13 : σ 1 3 = nI (pw P)) (ht : trk σ P A) (h : ∀ σ', (∀ i j, i < j → j < pw P → σ' 144 (i * 4 + j) = cls A i j 9) → (∀ q, q ≠ 144 → σ' q = σ q) → Q σ') : Cv E TC yX1_markClashes iX1_markClashes (d + 1 + 1 + 1 + 1) [.ref 141] σ Q := by
  have h4 := hP.1.2.2.2.1
  refine eX1_markClashes ?_
  refine lup (fun i s => Wv E TC iX1_markClashes (d + 1 + 1 + 1 + 1) Q 2 [(0, .ref 141), (1, .int (nI i))] [] s) (fun i s => (∀ a b, a < i → a < b → b < pw P → s 144 (a * 4 + b) = cls A a b 9) ∧ ∀ q, q ≠ 144 → s q = σ q) (pw P) ?_ ?_ 0 σ (Nat.zero_le _) ⟨fun a b ha => absurd ha (Nat.not_lt_zero a), fun q _ => rfl⟩
  · intro s ⟨g1, g2⟩
    refine bX1_markClashes_2 _ ?_
    rw [g2 1 (by omega), h13, if_pos (nI_le (Nat.le_refl _) (by omega))]
    exact h s (fun i j a b => g1 i j (by omega) a b) g2
  · intro i s hi ⟨g1, g2⟩ ih
    refine bX1_markClashes_2 _ ?_
    rw [g2 1 (by omega), h13, if_neg (nI_ge hi (by omega)), nI_1]
    refine lup (fun t s => Wv E TC iX1_markClashes (d + 1 + 1 + 1 + 1) Q 17 [(0, .ref 141), (1, .int (nI i)), (2, .int (nI (i + 1 + t)))] [] s) (fun t s => (∀ a b, a < i → a < b → b < pw P → s 144 (a * 4 + b) = cls A a b 9) ∧ (∀ b, i < b → b < i + 1 + t → s 144 (i * 4 + b) = cls A i b 9) ∧ ∀ q, q ≠ 144 → s q = σ q) (pw P - (i + 1)) ?_ ?_ 0 s (Nat.zero_le _) ⟨g1, fun b a c => by omega, g2⟩
    · intro s1 ⟨k1, k2, k3⟩
      refine bX1_markClashes_17 _ _ ?_
      rw [k3 1 (by omega), h13, if_pos (nI_le (by omega) (by omega)), nI_1]
      refine ih s1 ⟨fun a b c e f => ?_, k3⟩
      by_cases q : a = i
      · subst q; exact k2 b e (by omega)
      · exact k1 a b (by omega) e f
    · intro t s1 ht1 ⟨k1, k2, k3⟩ ih1
      refine bX1_markClashes_17 _ _ ?_
      rw [k3 1 (by omega), h13, if_neg (nI_ge (by omega) (by omega)), nI_1]
      refine sC_setClashes hP hA (by rw [k3 1 (by omega)]; exact h13) ⟨fun k hk => by rw [k3 143 (by omega)]; exact ht.1 k hk, fun k m hk hm => by rw [k3 142 (by omega)]; exact ht.2 k m hk hm⟩ hi (show i + 1 + t < pw P by omega) (by omega) (ih1 _ ⟨fun a b c e f => by rw [uu2 _ _ _ (by omega)]; exact k1 a b c e f, fun b a c => ?_, fun q hq => by rw [uu3 _ _ _ hq]; exact k3 q hq⟩)
      by_cases q : b = i + 1 + t
      · subst q; rw [uu1]
      · rw [uu2 _ _ _ (by omega)]; exact k2 b a (by omega)
theorem sC_endOfAll {Q : Int32 → tp_M → Prop} {g : Nat → Nat} (hP : okP P) (hA : okA P A) (h13 : σ 1 3 = nI (pw P)) (ht : trk σ P A) (h145 : ∀ k, k < pw P → σ 145 k = nI (g k)) (hg : ∀ k, g k ≤ 4) (h : Q (nI (enda P A g (pw P))) σ) : Ci E TC yX1_endOfAll iX1_endOfAll (d + 1) [.ref 141] σ Q := by
  have h4 := hP.1.2.2.2.1
  refine eX1_endOfAll ?_
  refine lup (fun k s => Wi E TC iX1_endOfAll (d + 1) Q 4 [(0, .ref 141), (1, .int (nI (enda P A g k))), (2, .int (nI k))] [] s) (fun k s => s = σ) (pw P) ?_ ?_ 0 σ (Nat.zero_le _) rfl
  · intro s hs
    subst hs
    refine bX1_endOfAll_4 _ _ ?_
    rw [h13, if_pos (nI_le (Nat.le_refl _) (by omega))]
    exact h
  · intro k s hk hs ih
    subst hs
    have ih1 := ih s rfl
    have hl := nd_le (aRt A k)
    have hgk := hg k
    have hen := enda_le (P := P) (A := A) hg k
    have hr := okA_rt hA k
    refine bX1_endOfAll_4 _ _ ?_
    rw [h13, if_neg (nI_ge hk (by omega)), if_neg (nle_lit 4 (by omega) (by decide)), vcl (by omega), ht.1 k hk, h145 k hk, nI_1, nI_add]
    refine ⟨vin (by omega) (by decide), ?_⟩
    have e1 : enda P A g (k + 1) = max (enda P A g k) (evl A g k) := rfl
    rw [e1] at ih1
    unfold evl at ih1
    by_cases c : aRt A k = 0
    · rw [if_pos c, Nat.max_eq_left (Nat.zero_le _)] at ih1
      rw [if_pos (by rw [c]; decide)]
      exact ih1
    · rw [if_neg c] at ih1
      have hnd : nd (aRt A k) ≠ 0 := fun q => c ((nd_0 hr).mp q)
      rw [if_neg (nI_nleL 0 (Nat.pos_of_ne_zero hnd) (by omega))]
      refine ⟨vin (by omega) (by decide), vin (by omega) (by decide), ?_⟩
      by_cases c2 : enda P A g k < g k + nd (aRt A k)
      · rw [Nat.max_eq_right (by omega)] at ih1
        rw [if_pos (nI_lt c2 (by omega))]
        exact ih1
      · rw [Nat.max_eq_left (by omega)] at ih1
        rw [if_neg (nI_nlt (by omega) (by omega))]
        exact ih1
theorem sC_haveClash {Q : Int32 → tp_M → Prop} {g : Nat → Nat} (hP : okP P) (hA : okA P A) (h13 : σ 1 3 = nI (pw P)) (h144 : ∀ i j, i < j → j < pw P → σ 144 (i * 4 + j) = cls A i j 9) (h145 : ∀ k, k < pw P → σ 145 k = nI (g k)) (hg : ∀ k, g k ≤ 4) (h0 : aprB P A g = true → Q 0 σ) (h1 : aprB P A g = false → Q 1 σ) : Ci E TC yX1_haveClash iX1_haveClash (d + 1 + 1) [.ref 141] σ Q := by
  have h4 := hP.1.2.2.2.1
  refine eX1_haveClash ?_
  refine lup (fun i s => Wi E TC iX1_haveClash (d + 1 + 1) Q 2 [(0, .ref 141), (1, .int (nI i))] [] s) (fun i s => s = σ ∧ ∀ a b, a < i → a < b → b < pw P → fmt A a (g a) b (g b) 20 1 = -1) (pw P) ?_ ?_ 0 σ (Nat.zero_le _) ⟨rfl, fun a b ha => absurd ha (Nat.not_lt_zero a)⟩
  · intro s ⟨hs, k1⟩
    subst hs
    refine bX1_haveClash_2 _ ?_
    rw [h13, if_pos (nI_le (Nat.le_refl _) (by omega))]
    exact h0 (decide_eq_true (fun i hi j hj hij => k1 i j hi hij hj))
  · intro i s hi ⟨hs, k1⟩ ih
    subst hs
    refine bX1_haveClash_2 _ ?_
    rw [h13, if_neg (nI_ge hi (by omega)), nI_1]
    refine lup (fun t s' => Wi E TC iX1_haveClash (d + 1 + 1) Q 17 [(0, .ref 141), (1, .int (nI i)), (2, .int (nI (i + 1 + t)))] [] s') (fun t s' => s' = s ∧ ∀ b, i < b → b < i + 1 + t → fmt A i (g i) b (g b) 20 1 = -1) (pw P - (i + 1)) ?_ ?_ 0 s (Nat.zero_le _) ⟨rfl, fun b a c => by omega⟩
    · intro s1 ⟨hs1, k2⟩
      subst hs1
      refine bX1_haveClash_17 _ _ ?_
      rw [h13, if_pos (nI_le (by omega) (by omega)), nI_1]
      refine ih s1 ⟨rfl, fun a b c e f => ?_⟩
      by_cases q : a = i
      · subst q; exact k2 b e (by omega)
      · exact k1 a b (by omega) e f
    · intro t s1 ht1 ⟨hs1, k2⟩ ih1
      subst hs1
      have hj : i + 1 + t < pw P := by omega
      have gi := hg i
      have gj := hg (i + 1 + t)
      refine bX1_haveClash_17 _ _ ?_
      rw [h13, if_neg (nI_ge (by omega) (by omega)), if_neg (nle_lit 4 (by omega) (by decide)), nI_1, show nI i * 4 = nI (i * 4) from by rw [show (4 : Int32) = nI 4 from rfl, pk_mul], nI_add, vcl (by omega), vcl (by omega), vcl (by omega), h144 i _ (by omega) hj, h145 i hi, h145 _ hj]
      have es : nI (g i) - nI (g (i + 1 + t)) + 5 = nI ((g i + 4 - g (i + 1 + t)) + 1) := by
        have small : ∀ a, a ≤ 4 → ∀ b, b ≤ 4 → nI a - nI b + 5 = nI ((a + 4 - b) + 1) := by decide
        exact small _ gi _ gj
      rw [es]
      refine ⟨vin (by omega) (by decide), vin (by omega) (by decide), vin (by omega) (by decide), ?_⟩
      have cb := cls_bt A i (i + 1 + t) (show g i + 4 - g (i + 1 + t) < 31 by omega) 9 (by omega)
      have fd := fmt_diff (A := A) (i := i) (j := i + 1 + t) (e := g i) (g := g (i + 1 + t)) (okA_rt hA i) (okA_rt hA _) gi gj
      rw [show g i + 4 - g (i + 1 + t) - 4 = g i - g (i + 1 + t) by omega, show 4 - (g i + 4 - g (i + 1 + t)) = g (i + 1 + t) - g i by omega, fd] at cb
      refine sc_hasC (by omega) (fun hb => ?_) (fun hb => ?_)
      · rw [if_neg (by decide)]
        refine h1 (decide_eq_false (fun q => (cb.mp hb).2 (q i hi _ hj (by omega))))
      · rw [if_pos rfl]
        refine ih1 s1 ⟨rfl, fun b a c => ?_⟩
        by_cases q : b = i + 1 + t
        · subst q
          by_cases z : fmt A i (g i) (i + 1 + t) (g (i + 1 + t)) 20 1 = -1
          · exact z
          · rw [cb.mpr ⟨by omega, z⟩] at hb; cases hb
        · exact k2 b a (by omega)
theorem sC_seekD {Q : tp_M → Prop} {D : DD} (h : okD D) (hc : cR σ D) (hq : ∀ σ', cR σ' D → σ' 141 7 = dbI (dbs (dP D) (dA D) (5 ^ pw (dP D))) (-1) → (∀ b, dbs (dP D) (dA D) (5 ^ pw (dP D)) = some b → ∀ k, k < pw (dP D) → σ' 146 k = nI (b.2 k)) → Q σ') : Cv E TC yX1_seek iX1_seek (d + 1 + 1 + 1 + 1 + 1) [.ref 141] σ Q := by
  have hP := h.1
  have hA := h.2.1
  have h4 := hP.1.2.2.2.1
  have h625 := pow_small (b := 5) (n := pw (dP D)) (by omega) h4
  refine eX1_seek (sC_layTracks hP hA hc.2.1 (fun σ1 t1 f1 => sC_markClashes hP hA (by rw [f1 1 (by omega) (by omega)]; exact hc.1.1.2.2.2.1) t1 (fun σ2 c2 f2 => ?_)))
  have e13 : tp_u σ2 141 7 (-1) 1 3 = nI (pw (dP D)) := by rw [uu3 _ _ _ (by omega), f2 1 (by omega), f1 1 (by omega) (by omega)]; exact hc.1.1.2.2.2.1
  rw [e13]
  refine sC_power h4 ?_
  refine lup (fun x s => Wv E TC iX1_seek (d + 1 + 1 + 1 + 1 + 1) Q 27 [(0, .ref 141), (1, .int (nI (5 ^ pw (dP D)))), (2, .int (nI x))] [] s) (fun x s => (∀ q, ¬ (141 ≤ q ∧ q ≤ 146) → s q = σ q) ∧ trk s (dP D) (dA D) ∧ (∀ i j, i < j → j < pw (dP D) → s 144 (i * 4 + j) = cls (dA D) i j 9) ∧ s 141 7 = dbI (dbs (dP D) (dA D) x) (-1) ∧ (∀ b, dbs (dP D) (dA D) x = some b → ∀ k, k < pw (dP D) → s 146 k = nI (b.2 k))) (5 ^ pw (dP D)) ?_ ?_ 0 _ (Nat.zero_le _) ⟨fun q a => by rw [uu3 _ _ _ (by omega), f2 q (by omega), f1 q (by omega) (by omega)], ⟨fun k hk => by rw [uu3 _ _ _ (by omega), f2 143 (by omega)]; exact t1.1 k hk, fun k m hk hm => by rw [uu3 _ _ _ (by omega), f2 142 (by omega)]; exact t1.2 k m hk hm⟩, fun i j a b => by rw [uu3 _ _ _ (by omega)]; exact c2 i j a b, uu1 _ _ _ _, fun b hb => by cases hb⟩
  · intro s ⟨g1, g2, g3, g4, g5⟩
    refine bX1_seek_27 _ _ ?_
    rw [if_pos (nI_le (Nat.le_refl _) (by omega))]
    exact hq s (hc.fr (fun q a => g1 q (fun z => a (by unfold cScr; omega)))) g4 g5
  · intro x s hx ⟨g1, g2, g3, g4, g5⟩ ih
    have s13 : s 1 3 = nI (pw (dP D)) := by rw [g1 1 (by omega)]; exact hc.1.1.2.2.2.1
    refine bX1_seek_27 _ _ ?_
    rw [if_neg (nI_ge hx (by omega)), s13, nI_1]
    refine sC_spell (b := 5) lC_145 gC_145 (by omega) (by omega) h4 (by omega) (fun s1 k1 k2 => ?_)
    have b13 : s1 1 3 = nI (pw (dP D)) := by rw [k2 1 (by omega)]; exact s13
    have t2 : trk s1 (dP D) (dA D) := ⟨fun k hk => by rw [k2 143 (by omega)]; exact g2.1 k hk, fun k m hk hm => by rw [k2 142 (by omega)]; exact g2.2 k m hk hm⟩
    have c3 : ∀ i j, i < j → j < pw (dP D) → s1 144 (i * 4 + j) = cls (dA D) i j 9 := fun i j a b => by rw [k2 144 (by omega)]; exact g3 i j a b
    have fr1 : ∀ q, ¬ (141 ≤ q ∧ q ≤ 146) → s1 q = σ q := fun q a => by rw [k2 q (by omega)]; exact g1 q a
    have m5 : ∀ b, dbs (dP D) (dA D) x = some b → ∀ k, k < pw (dP D) → s1 146 k = nI (b.2 k) := fun b hb k hk => by rw [k2 146 (by omega)]; exact g5 b hb k hk
    have m4 : s1 141 7 = dbI (dbs (dP D) (dA D) x) (-1) := by rw [k2 141 (by omega)]; exact g4
    refine sC_endOfAll (g := dg5 (dP D) x) hP hA b13 t2 k1 (dg5_le _ _) ?_
    have e1 : dbs (dP D) (dA D) (x + 1) = dbst (dP D) (dA D) x (dbs (dP D) (dA D) x) := rfl
    rw [e1] at ih
    have hbl := dbs_le (dP D) (dA D) x
    have hen := enda_le (P := dP D) (A := dA D) (dg5_le (dP D) x) (pw (dP D))
    rw [m4]
    have go : dbw (dbs (dP D) (dA D) x) (enda (dP D) (dA D) (dg5 (dP D) x) (pw (dP D))) = true → Wv E TC iX1_seek (d + 1 + 1 + 1 + 1 + 1) Q 69 [(0, .ref 141), (1, .int (nI (5 ^ pw (dP D)))), (2, .int (nI x)), (3, .int (nI (enda (dP D) (dA D) (dg5 (dP D) x) (pw (dP D)))))] [] s1 := by
      intro hw
      refine bX1_seek_69 _ _ _ (sC_haveClash (A := dA D) (g := dg5 (dP D) x) hP hA b13 c3 k1 (dg5_le _ _) (fun ha => ?_) (fun ha => ?_))
      · unfold dbst at ih
        rw [if_pos ⟨hw, ha⟩] at ih
        rw [if_pos rfl, nI_1, show Int32.toNatClampNeg 0 = 0 from rfl, show Int32.toNatClampNeg 4 = 4 from rfl]
        refine ih _ ⟨fun q a => by rw [cp_ne _ (by omega), uu3 _ _ _ (by omega)]; exact fr1 q a, ⟨fun k hk => by rw [cp_ne _ (by omega), uu3 _ _ _ (by omega)]; exact t2.1 k hk, fun k m hk hm => by rw [cp_ne _ (by omega), uu3 _ _ _ (by omega)]; exact t2.2 k m hk hm⟩, fun i j a b => by rw [cp_ne _ (by omega), uu3 _ _ _ (by omega)]; exact c3 i j a b, by rw [cp_ne _ (by omega), uu1]; rfl, fun b hb k hk => ?_⟩
        cases hb
        rw [cp_eq _ (by omega), uu3 _ _ _ (by omega)]
        exact k1 k hk
      · unfold dbst at ih
        rw [if_neg (fun q => by rw [ha] at q; cases q.2)] at ih
        rw [if_neg (by decide), nI_1]
        exact ih s1 ⟨fr1, t2, c3, m4, m5⟩
    cases hb : dbs (dP D) (dA D) x with
    | none =>
      rw [hb] at go
      rw [if_pos (show dbI none (-1) = -1 from rfl)]
      exact go rfl
    | some b =>
      have hb1 := (hbl b hb).1
      rw [hb] at go
      show if nI b.1 = -1 then _ else if nI b.1 ≤ nI _ then _ else _
      rw [if_neg (nI_ne_m1 (by omega))]
      by_cases c : b.1 ≤ enda (dP D) (dA D) (dg5 (dP D) x) (pw (dP D))
      · rw [if_pos (nI_le c (by omega))]
        unfold dbst at ih
        rw [hb, if_neg (fun q => by have := of_decide_eq_true q.1; omega)] at ih
        refine ih s1 ⟨fr1, t2, c3, by rw [m4, hb], fun b' hb' => m5 b' (by rw [hb]; exact hb')⟩
      · rw [if_neg (nI_ge (by omega) (by omega))]
        exact go (decide_eq_true (by omega))
end CD

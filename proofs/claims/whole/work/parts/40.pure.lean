/-! ===== Int32 by its bits: bt x i ===== -/
def bt (x : Int32) (i : Nat) : Bool := x.toBitVec.getLsbD i
theorem b_ext {x y : Int32} (h : ∀ i, i < 32 → bt x i = bt y i) : x = y := Int32.toBitVec_inj.mp (BitVec.eq_of_getLsbD_eq (fun i hi => h i hi))
theorem b_or (x y : Int32) (i : Nat) : bt (x ||| y) i = (bt x i || bt y i) := by unfold bt; rw [Int32.toBitVec_or, BitVec.getLsbD_or]
theorem b_and (x y : Int32) (i : Nat) : bt (x &&& y) i = (bt x i && bt y i) := by unfold bt; rw [Int32.toBitVec_and, BitVec.getLsbD_and]
theorem b_xor (x y : Int32) (i : Nat) : bt (x ^^^ y) i = (bt x i ^^ bt y i) := by unfold bt; rw [Int32.toBitVec_xor, BitVec.getLsbD_xor]
theorem b_big {x : Int32} {i : Nat} (h : 32 ≤ i) : bt x i = false := BitVec.getLsbD_of_ge _ _ h
theorem b_255 (i : Nat) : bt 255 i = decide (i < 8) := by
  rcases Nat.lt_or_ge i 32 with h | h
  · exact (by decide +kernel : ∀ i, i < 32 → bt 255 i = decide (i < 8)) i h
  · rw [b_big h, decide_eq_false (by omega)]
theorem b_65535 (i : Nat) : bt 65535 i = decide (i < 16) := by
  rcases Nat.lt_or_ge i 32 with h | h
  · exact (by decide +kernel : ∀ i, i < 32 → bt 65535 i = decide (i < 16)) i h
  · rw [b_big h, decide_eq_false (by omega)]
theorem b_m1 : ∀ i, i < 32 → bt (-1) i = true := by decide +kernel
theorem b_0 (i : Nat) : bt 0 i = false := BitVec.getLsbD_zero
theorem s_l : ∀ n, n < 32 → ((nI n &&& 31).toBitVec.smod 32).toNat = n := by decide +kernel
theorem s_u : ∀ n, n < 32 → (((nI n).toUInt32 &&& Int32.toUInt32 31).toBitVec % 32).toNat = n := by decide +kernel
theorem b_shl (n : Nat) (hn : n < 32) (x : Int32) {i : Nat} (hi : i < 32) : bt (x <<< (nI n &&& 31)) i = (decide (n ≤ i) && bt x (i - n)) := by
  unfold bt
  rw [Int32.toBitVec_shiftLeft]
  show (x.toBitVec <<< ((nI n &&& 31).toBitVec.smod 32).toNat).getLsbD i = _
  rw [s_l n hn, BitVec.getLsbD_shiftLeft]
  rcases Nat.lt_or_ge i n with h | h
  · simp [h, Nat.not_le.mpr h]
  · simp [hi, h, Nat.not_lt.mpr h]
theorem b_ushr (n : Nat) (hn : n < 32) (x : Int32) (i : Nat) : bt ((x.toUInt32 >>> ((nI n).toUInt32 &&& Int32.toUInt32 31)).toInt32) i = bt x (n + i) := by
  show (x.toUInt32 >>> ((nI n).toUInt32 &&& Int32.toUInt32 31)).toBitVec.getLsbD i = x.toUInt32.toBitVec.getLsbD (n + i)
  rw [UInt32.toBitVec_shiftRight]
  show (x.toUInt32.toBitVec >>> (((nI n).toUInt32 &&& Int32.toUInt32 31).toBitVec % 32).toNat).getLsbD i = _
  rw [s_u n hn, BitVec.getLsbD_ushiftRight]
theorem b_sshr (n : Nat) (hn : n < 32) (x : Int32) {i : Nat} (hi : i < 32) : bt (x >>> (nI n &&& 31)) i = if n + i < 32 then bt x (n + i) else bt x 31 := by
  unfold bt
  rw [Int32.toBitVec_shiftRight]
  show (x.toBitVec.sshiftRight ((nI n &&& 31).toBitVec.smod 32).toNat).getLsbD i = _
  rw [s_l n hn, BitVec.getLsbD_sshiftRight, BitVec.msb_eq_getLsbD_last]
  simp [hi]
theorem b_1 : ∀ i, i < 32 → bt 1 i = decide (i = 0) := by decide +kernel
theorem b_bit (k : Nat) (hk : k < 32) {j : Nat} (hj : j < 32) : bt ((1 : Int32) <<< (nI k &&& 31)) j = decide (j = k) := by
  rw [b_shl k hk 1 hj]
  by_cases h : k ≤ j
  · rw [b_1 (j - k) (by omega)]
    by_cases h2 : j = k
    · subst h2; simp
    · simp [h, h2, show ¬ j - k = 0 by omega]
  · simp [h, show ¬ j = k by omega]
theorem b_not (x : Int32) {i : Nat} (hi : i < 32) : bt (x ^^^ (-1)) i = !bt x i := by rw [b_xor, b_m1 i hi]; cases bt x i <;> rfl
theorem hb_bt (s : Int32) {k : Nat} (hk : k < 32) : (((s >>> (nI k &&& 31)) &&& 1) = 1) ↔ bt s k = true := by
  constructor
  · intro h
    have h2 : bt ((s >>> (nI k &&& 31)) &&& 1) 0 = true := by rw [h]; decide
    rw [b_and, b_sshr k hk s (by omega), Nat.add_zero, if_pos hk] at h2
    cases hs : bt s k
    · rw [hs] at h2; simp at h2
    · rfl
  · intro h
    apply b_ext
    intro i hi
    rw [b_and, b_sshr k hk s hi, b_1 i hi]
    by_cases h0 : i = 0
    · subst h0; simp [hk, h]
    · simp [h0]
theorem hb_0 (s : Int32) {k : Nat} (hk : k < 32) (h : bt s k = false) : ((s >>> (nI k &&& 31)) &&& 1) = 0 := by
  apply b_ext
  intro i hi
  rw [b_and, b_sshr k hk s hi, b_1 i hi, b_0]
  by_cases h0 : i = 0
  · subst h0; simp [hk, h]
  · simp [h0]
theorem or_0 (x : Int32) : x ||| 0 = x := by
  apply b_ext
  intro i hi
  rw [b_or, b_0, Bool.or_false]
/-- (s has nothing outside t) by bits -/
theorem sub_bt (s t : Int32) : (s &&& (t ^^^ (-1))) = 0 ↔ ∀ i, i < 32 → bt s i = true → bt t i = true := by
  constructor
  · intro h i hi hs
    have h2 : bt (s &&& (t ^^^ (-1))) i = false := by rw [h, b_0]
    rw [b_and, b_not t hi, hs] at h2
    cases ht : bt t i
    · rw [ht] at h2; simp at h2
    · rfl
  · intro h
    apply b_ext
    intro i hi
    rw [b_and, b_not t hi, b_0]
    cases hs : bt s i
    · simp
    · simp [h i hi hs]
/-! ===== loops ===== -/
def itr {α : Type} (f : Nat → α → α) : Nat → α → α
  | 0, s => s
  | n + 1, s => f n (itr f n s)
theorem itr_congr {α : Type} {f g : Nat → α → α} {s : α} : ∀ (n : Nat), (∀ k, k < n → ∀ x, f k x = g k x) → itr f n s = itr g n s
  | 0, _ => rfl
  | n + 1, h => by
    show f n (itr f n s) = g n (itr g n s)
    rw [itr_congr n (fun k hk => h k (by omega)), h n (by omega)]
theorem itr_inv {α : Type} {f : Nat → α → α} {s : α} (I : Nat → α → Prop) : ∀ (n : Nat), I 0 s → (∀ k x, k < n → I k x → I (k + 1) (f k x)) → I n (itr f n s)
  | 0, h, _ => h
  | n + 1, h, hs => hs n _ (by omega) (itr_inv I n h (fun k x hk => hs k x (by omega)))
theorem itr_cut {α : Type} {f : Nat → α → α} {s : α} {m : Nat} : ∀ (n : Nat), m ≤ n → (∀ k, m ≤ k → k < n → ∀ x, f k x = x) → itr f n s = itr f m s
  | 0, h, _ => by rw [show m = 0 by omega]
  | n + 1, h, hs => by
    by_cases hm : m = n + 1
    · rw [hm]
    · show f n (itr f n s) = _
      rw [hs n (by omega) (by omega)]
      exact itr_cut n (by omega) (fun k h1 h2 => hs k h1 (by omega))
theorem wl_up {α : Type} (W : Int32 → α → Prop) (I : Nat → α → Prop) (N : Nat) (hx : ∀ s, I N s → W (nI N) s) (hs : ∀ j s, j < N → I j s → (∀ s', I (j + 1) s' → W (nI j + 1) s') → W (nI j) s) : ∀ (i : Nat) (s : α), i ≤ N → I i s → W (nI i) s := by
  have key : ∀ m i s, i + m = N → I i s → W (nI i) s := by
    intro m
    induction m with
    | zero => intro i s h hi; rw [Nat.add_zero] at h; subst h; exact hx s hi
    | succ m ih => intro i s h hi; exact hs i s (by omega) hi (fun s' h' => by rw [nI_1]; exact ih (i + 1) s' (by omega) h')
  intro i s h hi
  exact key (N - i) i s (by omega) hi
theorem wl_fold {α : Type} (W : Int32 → α → Prop) (f : Nat → α → α) (N : Nat) (s0 : α) (hx : W (nI N) (itr f N s0)) (hs : ∀ j, j < N → W (nI j + 1) (f j (itr f j s0)) → W (nI j) (itr f j s0)) : W (nI 0) s0 :=
  wl_up W (fun j s => s = itr f j s0) N (fun s h => by rw [h]; exact hx) (fun j s hj h k => by rw [h]; exact hs j hj (k _ rfl)) 0 s0 (Nat.zero_le N) rfl
/-- downwards: from N - 1 to 0, the end at -1 -/
theorem wl_down {α : Type} (W : Int32 → α → Prop) (I : Nat → α → Prop) (hx : ∀ s, I 0 s → W (nI 0 - 1) s) (hs : ∀ j s, I (j + 1) s → (∀ s', I j s' → W (nI j + (-1)) s') → W (nI j) s) : ∀ (n : Nat) (s : α), I n s → W (nI n - 1) s
  | 0, s, h => hx s h
  | n + 1, s, h => by
    rw [nI_pred]
    refine hs n s h (fun s' h' => ?_)
    have := wl_down W I hx hs n s' h'
    rwa [show nI n - 1 = nI n + (-1) from by rw [Int32.sub_eq_add_neg]] at this
/-! ===== numbers ===== -/
theorem vin {j n : Nat} (h : j < n) (hn : n < 2147483648) : vp_in (nI j) n := vp_in_nI h hn
theorem vcl {j : Nat} (h : j < 2147483648) : (nI j).toNatClampNeg = j := nI_clamp h
theorem vin_not {x : Int32} {n : Nat} (h : ¬ vp_in x n) : x < 0 ∨ nI n ≤ x ∨ 2147483648 ≤ n := by
  by_cases h0 : x < 0
  · exact Or.inl h0
  · by_cases hn : n < 2147483648
    · refine Or.inr (Or.inl ?_)
      rw [Int32.le_iff_toInt_le, nI_toInt hn]
      have h1 : ¬ (0 ≤ x.toInt ∧ x.toInt < n) := fun q => h (vp_in_iff.mpr q)
      have h2 : 0 ≤ x.toInt := by
        have := Int32.not_lt.mp h0
        simpa using Int32.le_iff_toInt_le.mp this
      omega
    · exact Or.inr (Or.inr (by omega))
theorem fa_lt (a b : Int32) : a < b ↔ a.toInt < b.toInt := Int32.lt_iff_toInt_lt
theorem fa_le (a b : Int32) : a ≤ b ↔ a.toInt ≤ b.toInt := Int32.le_iff_toInt_le
theorem fa_eq (a b : Int32) : a = b ↔ a.toInt = b.toInt := Int32.toInt_inj.symm
theorem cmp_lt (x y : Int64) : lg_cmp x y < 0 ↔ x < y := by
  unfold lg_cmp
  by_cases h1 : x > y
  · rw [if_pos h1]
    constructor
    · intro h; exact absurd h (by decide)
    · intro h; exact absurd h1 (by rw [gt_iff_lt, Int64.lt_iff_toInt_lt]; rw [Int64.lt_iff_toInt_lt] at h; omega)
  · rw [if_neg h1]
    by_cases h2 : x = y
    · rw [if_pos h2]
      constructor
      · intro h; exact absurd h (by decide)
      · intro h; rw [h2, Int64.lt_iff_toInt_lt] at h; omega
    · rw [if_neg h2]
      constructor
      · intro _
        rw [gt_iff_lt, Int64.lt_iff_toInt_lt] at h1
        rw [Int64.lt_iff_toInt_lt]
        have : x.toInt ≠ y.toInt := fun h => h2 (Int64.toInt_inj.mp h)
        omega
      · intro _; decide
theorem cmp_gt (x y : Int64) : 0 < lg_cmp x y ↔ y < x := by
  unfold lg_cmp
  by_cases h1 : x > y
  · rw [if_pos h1]
    exact ⟨fun _ => h1, fun _ => by decide⟩
  · rw [if_neg h1]
    by_cases h2 : x = y
    · rw [if_pos h2]
      exact ⟨fun h => absurd h (by decide), fun h => absurd h h1⟩
    · rw [if_neg h2]
      exact ⟨fun h => absurd h (by decide), fun h => absurd h h1⟩
theorem wide_lt (a b : Int32) : a.toInt64 < b.toInt64 ↔ a < b := by
  rw [Int64.lt_iff_toInt_lt, Int32.lt_iff_toInt_lt]
  simp

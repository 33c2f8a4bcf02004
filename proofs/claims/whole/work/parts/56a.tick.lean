/-! ===== a minute passes: who met, what is spilled ===== -/
abbrev bit (k : Nat) : Int32 := (1 : Int32) <<< (nI k &&& 31)
def jst (A B : AS) (i j : Nat) (s : Int32 × Int32) : Int32 × Int32 := if met (aAt A i) (aAt B i) (aAt A j) (aAt B j) = true then (s.1 + 1, if bt (aTr A i) j = true then s.2 else s.2 ||| (bit i ||| bit j)) else s
def jrow (A B : AS) (i m : Nat) (s : Int32 × Int32) : Int32 × Int32 := itr (fun t s => jst A B i (i + 1 + t) s) m s
def jall (P : PD) (A B : AS) (n : Nat) : Int32 × Int32 := itr (fun i s => jrow A B i (pw P - (i + 1)) s) n (aMe A, 0)
/-- the heaviest of a set, the first of them -/
def hst (P : PD) (s : Int32) (t : Nat) (b : Option Nat) : Option Nat := if bt s t = true then (match b with | none => some t | some u => if pG P t ≤ pG P u then some u else some t) else b
def hv (P : PD) (s : Int32) : Option Nat := itr (fun t b => hst P s t b) (pt P) none
theorem hv_in (P : PD) (s : Int32) : ∀ n, ∀ u, itr (fun t b => hst P s t b) n none = some u → u < n ∧ bt s u = true
  | 0, u, h => by cases h
  | n + 1, u, h => by
    have ih := hv_in P s n
    change hst P s n (itr (fun t b => hst P s t b) n none) = some u at h
    generalize itr (fun t b => hst P s t b) n none = x at h ih
    unfold hst at h
    by_cases hb : bt s n = true
    · rw [if_pos hb] at h
      cases x with
      | none => cases h; exact ⟨by omega, hb⟩
      | some v =>
        change (if pG P n ≤ pG P v then some v else some n) = some u at h
        by_cases hg : pG P n ≤ pG P v
        · rw [if_pos hg] at h; have e := ih u h; exact ⟨by omega, e.2⟩
        · rw [if_neg hg] at h; cases h; exact ⟨by omega, hb⟩
    · rw [if_neg hb] at h
      have := ih u h
      exact ⟨by omega, this.2⟩
def spl (P : PD) (A : AS) (k : Nat) (pl : Nat → Int32) : Nat → Int32 := match hv P (tray P A k) with
  | none => pl
  | some u => va_up pl u (-2)
def sst (P : PD) (A : AS) (jl : Int32) (k : Nat) (pl : Nat → Int32) : Nat → Int32 := if bt jl k = true ∧ ¬ slnt P A k ≤ nI (pe P) then spl P A k pl else pl
def sall (P : PD) (A : AS) (jl : Int32) (n : Nat) : Nat → Int32 := itr (fun k pl => sst P A jl k pl) n (aPl A)
def aPls (A : AS) (m : Int32) (pl : Nat → Int32) : AS := (A.1, m, A.2.2.1, A.2.2.2.1, A.2.2.2.2.1, pl)
def tick (P : PD) (A : AS) : AS := (aMi A + 1, (jall P A (wlk A) (pw P)).1, aAt (wlk A), aRt (wlk A), aTr A, sall P A (jall P A (wlk A) (pw P)).2 (pw P))
theorem tset_iff {p q : Nat → Int32} {v : Int32} {n : Nat} (h : ∀ t, t < n → (p t = v ↔ q t = v)) : tset p v n = tset q v n := itr_congr n (fun k hk x => by
  by_cases c : p k = v
  · rw [if_pos c, if_pos ((h k hk).mp c)]
  · rw [if_neg c, if_neg (fun z => c ((h k hk).mpr z))])
/-- what spilling leaves of the places -/
theorem sall_pt {P : PD} (hP : okP P) (A : AS) (jl : Int32) : ∀ n, n ≤ pw P → ∀ t, sall P A jl n t = aPl A t ∨ (sall P A jl n t = -2 ∧ t < pt P ∧ ∃ k s, k < n ∧ s ≤ 1 ∧ aPl A t = nI (2 * k + s))
  | 0, _, t => Or.inl rfl
  | n + 1, hn, t => by
    have ih := sall_pt hP A jl n (by omega) t
    have up : (sall P A jl n t = aPl A t ∨ (sall P A jl n t = -2 ∧ t < pt P ∧ ∃ k s, k < n ∧ s ≤ 1 ∧ aPl A t = nI (2 * k + s))) → (sall P A jl n t = aPl A t ∨ (sall P A jl n t = -2 ∧ t < pt P ∧ ∃ k s, k < n + 1 ∧ s ≤ 1 ∧ aPl A t = nI (2 * k + s))) := fun h => by
      rcases h with h | ⟨h1, h2, k, s, h3, h4, h5⟩
      · exact Or.inl h
      · exact Or.inr ⟨h1, h2, k, s, by omega, h4, h5⟩
    change sst P A jl n (sall P A jl n) t = aPl A t ∨ (sst P A jl n (sall P A jl n) t = -2 ∧ t < pt P ∧ ∃ k s, k < n + 1 ∧ s ≤ 1 ∧ aPl A t = nI (2 * k + s))
    unfold sst
    by_cases hc : bt jl n = true ∧ ¬ slnt P A n ≤ nI (pe P)
    · rw [if_pos hc]
      unfold spl
      cases hu : hv P (tray P A n) with
      | none => exact up ih
      | some u =>
        show va_up (sall P A jl n) u (-2) t = _ ∨ (va_up (sall P A jl n) u (-2) t = _ ∧ _)
        by_cases htu : t = u
        · subst htu
          rw [va_up_self]
          obtain ⟨b1, b2⟩ := hv_in P (tray P A n) (pt P) t hu
          have h8 := hP.1.2.2.2.2.1
          refine Or.inr ⟨rfl, b1, n, ?_⟩
          unfold tray trayL trayR tA at b2
          rw [b_or, tset_bt _ _ _ (by omega) (by omega), tset_bt _ _ _ (by omega) (by omega)] at b2
          by_cases e : aPl A t = nI (2 * n)
          · exact ⟨0, by omega, by omega, e⟩
          · refine ⟨1, by omega, by omega, ?_⟩
            rw [decide_eq_false (fun q => e q.2), Bool.false_or] at b2
            exact (of_decide_eq_true b2).2
        · rw [va_up_ne _ _ htu]
          exact up ih
    · rw [if_neg hc]
      exact up ih
theorem sall_tA {P : PD} (hP : okP P) {A C : AS} {jl : Int32} {n k s : Nat} (hC : aPl C = sall P A jl n) (hn : n ≤ k) (hk : k < pw P) (hs : s ≤ 1) : tA P C (nI (2 * k + s)) = tA P A (nI (2 * k + s)) := by
  have h4 := hP.1.2.2.2.1
  unfold tA
  rw [hC]
  refine tset_iff (fun t ht => ?_)
  rcases sall_pt hP A jl n (by omega) t with h | ⟨h1, h2, k', s', h3, h5, h6⟩
  · rw [h]
  · rw [h1, h6]
    constructor
    · intro q
      have := (fa_eq _ _).mp q
      rw [nI_toInt (by omega)] at this
      have e : (-2 : Int32).toInt = -2 := by decide
      omega
    · intro q
      rw [nI_eq (by omega) (by omega)] at q
      omega
theorem sall_tray {P : PD} (hP : okP P) {A C : AS} {jl : Int32} {n k : Nat} (hC : aPl C = sall P A jl n) (hn : n ≤ k) (hk : k < pw P) : tray P C k = tray P A k ∧ slnt P C k = slnt P A k := by
  have a0 := sall_tA (s := 0) hP hC hn hk (by omega)
  have a1 := sall_tA (s := 1) hP hC hn hk (by omega)
  rw [Nat.add_zero] at a0
  unfold slnt tray trayL trayR
  rw [a0, a1]
  exact ⟨rfl, rfl⟩
theorem okA_pls {P : PD} {A : AS} (hP : okP P) (h : okA P A) (m : Int32) (jl : Int32) {n : Nat} (hn : n ≤ pw P) : okA P (aPls (wlk A) m (sall P A jl n)) := by
  have hw := okA_wlk h
  obtain ⟨h1, h2, h3, h4, h5⟩ := hw
  have h4 : ∀ t, pt P ≤ t → aPl A t = -3 := h4
  have h5 : ∀ t, t < pt P → aPl A t = -1 ∨ aPl A t = -2 ∨ ∃ k, k < 2 * pw P ∧ aPl A t = nI k := h5
  refine ⟨h1, h2, h3, fun t ht => ?_, fun t ht => ?_⟩
  · show sall P A jl n t = -3
    rcases sall_pt hP A jl n hn t with q | ⟨q1, q2, _⟩
    · rw [q]; exact h4 t ht
    · omega
  · show sall P A jl n t = -1 ∨ sall P A jl n t = -2 ∨ ∃ k, k < 2 * pw P ∧ sall P A jl n t = nI k
    rcases sall_pt hP A jl n hn t with q | ⟨q1, q2, _⟩
    · rw [q]; exact h5 t ht
    · exact Or.inr (Or.inl q1)
theorem okA_tick {P : PD} {A : AS} (hP : okP P) (h : okA P A) {m : Nat} (hm : m < 9060) (e : aMi A = nI m) : okA P (tick P A) := by
  obtain ⟨h1, h2, h3, h4, h5⟩ := okA_pls hP h (jall P A (wlk A) (pw P)).1 (jall P A (wlk A) (pw P)).2 (Nat.le_refl (pw P))
  exact ⟨⟨m + 1, by omega, by show aMi A + 1 = _; rw [e, nI_1]⟩, h2, h3, h4, h5⟩
/-! ===== both with room for what is tried ===== -/
theorem cR.setA2 {σ σ' : tp_M} {D : DD} {A' : AS} (hc : cR σ D) (hs : cS σ' 9 (dP D) A') (fr : ∀ q, (q < 9 ∨ 13 < q) → ¬ cScr q → σ' q = σ q) : cR σ' (dSetA D A') := by
  have g : ∀ q, (q < 9 ∨ 13 < q) → ¬ (28 ≤ q ∧ q ≤ 35) → ¬ (140 ≤ q ∧ q ≤ 150) → σ' q = σ q := fun q a b c => fr q a (fun z => by unfold cScr at z; omega)
  obtain ⟨h1, h2, h3, h4, h5, h6, h7⟩ := hc
  exact ⟨h1.fr (fun q a b => g q (by omega) (by omega) (by omega)), hs, by rw [g 139 (by omega) (by omega) (by omega)]; exact h3, h4.fr (fun q a b => g q (by omega) (by omega) (by omega)), ⟨h5.1.fr (fun q a b => g q (by omega) (by omega) (by omega)), h5.2.fr (fun q a b => g q (by omega) (by omega) (by omega))⟩, h6.fr (congrFun (g 27 (by omega) (by omega) (by omega)) 2) (congrFun (g 27 (by omega) (by omega) (by omega)) 3) (g 36 (by omega) (by omega) (by omega)), h7.fr (fun q a b => g q (by omega) (by omega) (by omega))⟩
theorem mR.setA2 {σ σ' : tp_M} {D : DD} {A' : AS} (hok : okD D) (hm : mR σ D) (hs : mS σ' 0 (dP D) A') (f1 : ∀ i, 58 ≤ i → i < 1416 → ¬ (59 ≤ i ∧ i < 118) → σ' 1 i = σ 1 i) (fr : ∀ q, q ≠ 1 → ¬ (10 ≤ q ∧ q ≤ 20) → σ' q = σ q) : mR σ' (dSetA D A') := by
  have hw : pw (dP D) ≤ 4 := hok.1.1.2.2.2.1
  have ht : pt (dP D) ≤ 8 := hok.1.1.2.2.2.2.1
  obtain ⟨g1, g2, g3, g4, g5, g6, g7⟩ := hm
  exact ⟨g1.fr (fun k a => by rw [fr 0 (by omega) (by omega)]) (fun q a b => fr q (by omega) (by omega)), hs, by rw [f1 58 (by omega) (by omega) (by omega)]; exact g3, g4.fr hw ht hok.2.2.2.1.1 (by rw [fr 0 (by omega) (by omega)]) (fun i a b => f1 i (by omega) (by omega) (by omega)), ⟨g5.1.fr hw ht (by rw [fr 2 (by omega) (by omega)]) (fun q a b => f1 q (by omega) (by omega) (by omega)), g5.2.fr hw ht (by rw [fr 2 (by omega) (by omega)]) (fun q a b => f1 q (by omega) (by omega) (by omega))⟩, g6.fr (by rw [fr 0 (by omega) (by omega)]) (by rw [fr 0 (by omega) (by omega)]) (fr 9 (by omega) (by omega)), g7.fr (by rw [fr 0 (by omega) (by omega)]) (by rw [fr 0 (by omega) (by omega)]) (fun q a b => fr q (by omega) (by omega))⟩
/-- repeated: lists of numbers that run up to a bound -/
theorem lup (W : Nat → tp_M → Prop) (I : Nat → tp_M → Prop) (N : Nat) (hx : ∀ s, I N s → W N s) (hs : ∀ j s, j < N → I j s → (∀ s', I (j + 1) s' → W (j + 1) s') → W j s) : ∀ (i : Nat) (s : tp_M), i ≤ N → I i s → W i s := by
  have key : ∀ m i s, i + m = N → I i s → W i s := by
    intro m
    induction m with
    | zero => intro i s h hi; rw [Nat.add_zero] at h; subst h; exact hx s hi
    | succ m ih => intro i s h hi; exact hs i s (by omega) hi (fun s' h' => ih (i + 1) s' (by omega) h')
  intro i s h hi
  exact key (N - i) i s (by omega) hi

/-! ===== the whole abstract state, how each side holds it ===== -/
abbrev DD : Type := PD × AS × Int32 × (Nat × (Nat → AS)) × (Nat → Option (AS × Int32)) × (Nat × (Nat → Nat) × Int32) × (Nat × (Nat → Nat × Nat × Bool)) × (Nat × (Nat → Nat × Nat))
abbrev dP (D : DD) : PD := D.1
abbrev dA (D : DD) : AS := D.2.1
abbrev dZ (D : DD) : Int32 := D.2.2.1
abbrev dU (D : DD) : Nat × (Nat → AS) := D.2.2.2.1
abbrev dI (D : DD) : Nat → Option (AS × Int32) := D.2.2.2.2.1
abbrev dT (D : DD) : Nat × (Nat → Nat) × Int32 := D.2.2.2.2.2.1
abbrev dN (D : DD) : Nat × (Nat → Nat × Nat × Bool) := D.2.2.2.2.2.2.1
abbrev dB (D : DD) : Nat × (Nat → Nat × Nat) := D.2.2.2.2.2.2.2
def bI (b : Bool) : Int32 := if b = true then 1 else 0
def cU (σ : tp_M) (P : PD) (U : Nat × (Nat → AS)) : Prop := ∃ nx, nx < 20 ∧ σ 37 1 = nI nx ∧ σ 37 2 = nI U.1 ∧ ∀ j, j < U.1 → cS σ (39 + 5 * ((nx + 20 - U.1 + j) % 20)) P (U.2 j)
def mU (σ : tp_M) (P : PD) (U : Nat × (Nat → AS)) : Prop := σ 0 2 = nI U.1 ∧ ∀ j, j < U.1 → mS σ (236 + 59 * j) P (U.2 j)
def cI1 (σ : tp_M) (P : PD) (i : Nat) (x : Option (AS × Int32)) : Prop := match x with
  | none => σ (15 + 6 * i) 2 = 0
  | some a => σ (15 + 6 * i) 2 = 1 ∧ σ (15 + 6 * i) 1 = a.2 ∧ cS σ (15 + 6 * i + 1) P a.1
def mI1 (σ : tp_M) (P : PD) (i : Nat) (x : Option (AS × Int32)) : Prop := match x with
  | none => σ 2 i = 0
  | some a => σ 2 i = 1 ∧ σ 1 (118 + 59 * i + 58) = a.2 ∧ mS σ (118 + 59 * i) P a.1
def cT (σ : tp_M) (T : Nat × (Nat → Nat) × Int32) : Prop := σ 27 2 = nI T.1 ∧ (∀ i, i < T.1 → σ 36 i = nI (T.2.1 i)) ∧ σ 27 3 = T.2.2
def mT (σ : tp_M) (T : Nat × (Nat → Nat) × Int32) : Prop := σ 0 16 = nI T.1 ∧ (∀ i, i < T.1 → σ 9 i = nI (T.2.1 i)) ∧ σ 0 21 = T.2.2
def cN (σ : tp_M) (N : Nat × (Nat → Nat × Nat × Bool)) (B : Nat × (Nat → Nat × Nat)) : Prop := (σ 151 7 = nI N.1 ∧ σ 151 8 = nI B.1) ∧ (∀ i, i < N.1 → σ 152 i = nI (N.2 i).1 ∧ σ 153 i = nI (N.2 i).2.1 ∧ σ 154 i = bI (N.2 i).2.2) ∧ (∀ i, i < B.1 → σ 155 i = nI (B.2 i).1 ∧ σ 156 i = nI (B.2 i).2)
def mN (σ : tp_M) (N : Nat × (Nat → Nat × Nat × Bool)) (B : Nat × (Nat → Nat × Nat)) : Prop := (σ 0 39 = nI N.1 ∧ σ 0 43 = nI B.1) ∧ (∀ i, i < N.1 → σ 21 i = nI (N.2 i).1 ∧ σ 22 i = nI (N.2 i).2.1 ∧ σ 23 i = bI (N.2 i).2.2) ∧ (∀ i, i < B.1 → σ 24 i = nI (B.2 i).1 ∧ σ 25 i = nI (B.2 i).2)
def cR (σ : tp_M) (D : DD) : Prop := cP σ 1 (dP D) ∧ cS σ 9 (dP D) (dA D) ∧ σ 139 3 = dZ D ∧ cU σ (dP D) (dU D) ∧ (cI1 σ (dP D) 0 (dI D 0) ∧ cI1 σ (dP D) 1 (dI D 1)) ∧ cT σ (dT D) ∧ cN σ (dN D) (dB D)
def mR (σ : tp_M) (D : DD) : Prop := mP σ (dP D) ∧ mS σ 0 (dP D) (dA D) ∧ σ 1 58 = dZ D ∧ mU σ (dP D) (dU D) ∧ (mI1 σ (dP D) 0 (dI D 0) ∧ mI1 σ (dP D) 1 (dI D 1)) ∧ mT σ (dT D) ∧ mN σ (dN D) (dB D)
def okI (P : PD) (x : Option (AS × Int32)) : Prop := ∀ a, x = some a → okA P a.1 ∧ 0 ≤ a.2
def okD (D : DD) : Prop := okP (dP D) ∧ okA (dP D) (dA D) ∧ 0 ≤ dZ D ∧ ((dU D).1 ≤ 20 ∧ ∀ j, j < (dU D).1 → okA (dP D) ((dU D).2 j)) ∧ (okI (dP D) (dI D 0) ∧ okI (dP D) (dI D 1)) ∧ ((dT D).1 ≤ 240 ∧ ∀ i, i < (dT D).1 → (dT D).2.1 i ≤ 255) ∧ ((dN D).1 ≤ 6 ∧ ∀ i, i < (dN D).1 → ((dN D).2 i).1 < pn (dP D) ∧ 1 ≤ ((dN D).2 i).2.1 ∧ ((dN D).2 i).2.1 ≤ 20) ∧ ((dB D).1 ≤ 15 ∧ ∀ i, i < (dB D).1 → ((dB D).2 i).1 < pw (dP D) ∧ ((dB D).2 i).2 < pn (dP D))
/-- one call on both sides: the same answer, and both hold the same again -/
def op_Q (yc : MethodName) (ic : tp_I) (ym : MethodName) (im : tp_I) (av : List Value) (D : DD) : Prop := ∃ (v : Int32) (D' : DD), okD D' ∧ (∀ (E : tp_E) (σ : tp_M) (Q : Int32 → tp_M → Prop), cR σ D → (∀ σ', cR σ' D' → Q v σ') → Ci E TC yc ic 8 (.ref 0 :: av) σ Q) ∧ (∀ (E : tp_E) (σ : tp_M) (Q : Int32 → tp_M → Prop), mR σ D → (∀ σ', mR σ' D' → Q v σ') → Ci E TM ym im 8 (.ref 0 :: av) σ Q)
/-- a question: nothing changes -/
theorem op_Q.ask {yc : MethodName} {ic : tp_I} {ym : MethodName} {im : tp_I} {av : List Value} {D : DD} (v : Int32) (hok : okD D) (h1 : ∀ (E : tp_E) (σ : tp_M) (Q : Int32 → tp_M → Prop), cR σ D → Q v σ → Ci E TC yc ic 8 (.ref 0 :: av) σ Q) (h2 : ∀ (E : tp_E) (σ : tp_M) (Q : Int32 → tp_M → Prop), mR σ D → Q v σ → Ci E TM ym im 8 (.ref 0 :: av) σ Q) : op_Q yc ic ym im av D :=
  ⟨v, D, hok, fun E σ Q hc hq => h1 E σ Q hc (hq σ hc), fun E σ Q hm hq => h2 E σ Q hm (hq σ hm)⟩
/-! ===== sets and sums over the abstract state ===== -/
def tA (P : PD) (A : AS) (v : Int32) : Int32 := tset (aPl A) v (pt P)
def gS (P : PD) (s : Int32) : Nat := nsum (pG P) s (pt P)
def vS (P : PD) (s : Int32) : Nat := nsum (pV P) s (pt P)
def sml (P : PD) (s : Int32) : Prop := ∀ t, pt P ≤ t → t < 32 → bt s t = false
theorem tA_sml {P : PD} (hP : okP P) (A : AS) (v : Int32) : sml P (tA P A v) := fun t h1 h2 => by
  unfold tA
  rw [tset_bt _ _ _ (by have := hP.1.2.2.2.2.1; omega) h2]
  simp
  omega
theorem sml_or {P : PD} {s t : Int32} (h1 : sml P s) (h2 : sml P t) : sml P (s ||| t) := fun k a b => by rw [b_or, h1 k a b, h2 k a b]; rfl
theorem sml_sub {P : PD} {s t : Int32} (h1 : sml P s) (h : ∀ i, i < 32 → bt t i = true → bt s i = true) : sml P t := fun k a b => by
  cases hb : bt t k
  · rfl
  · have := h k b hb
    rw [h1 k a b] at this
    cases this
section AB
variable {σ : tp_M} {P : PD} {A : AS}
theorem c_tset (hP : okP P) (hA : okA P A) (hS : cS σ 9 P A) {v : Int32} (hv : v ≠ -3) : tset (σ 13) v 8 = tA P A v := by
  have h1 : tset (σ 13) v 8 = tset (aPl A) v 8 := tset_congr (fun t ht => hS.2.2.2.2 t ht)
  rw [h1]
  exact tset_cut hP.1.2.2.2.2.1 (fun t h1 h2 => by rw [hA.2.2.2.1 t h1]; exact Ne.symm hv)
theorem m_tset {b : Nat} (hS : mS σ b P A) (v : Int32) : tset (fun t => σ 1 (b + 50 + t)) v (pt P) = tA P A v := tset_congr (fun t ht => hS.2.2.2.2 t ht)
theorem c_gS (hP : okP P) (hc : cP σ 1 P) {s : Int32} (hs : sml P s) : wsum (σ 5) s 8 = nI (gS P s) := by
  have h5 := hP.1.2.2.2.2.1
  rw [wsum_cut h5 (fun t h1 h2 => hs t h1 (by omega))]
  exact wsum_nsum (fun t ht => (hc.2.2.2.1 t ht).1)
theorem c_vS (hP : okP P) (hc : cP σ 1 P) {s : Int32} (hs : sml P s) : wsum (σ 6) s 8 = nI (vS P s) := by
  have h5 := hP.1.2.2.2.2.1
  rw [wsum_cut h5 (fun t h1 h2 => hs t h1 (by omega))]
  exact wsum_nsum (fun t ht => (hc.2.2.2.1 t ht).2)
theorem m_gS (hm : mP σ P) (s : Int32) : wsum (σ 5) s (pt P) = nI (gS P s) := wsum_nsum (fun t ht => (hm.2.2.2.1 t ht).1)
theorem m_vS (hm : mP σ P) (s : Int32) : wsum (σ 6) s (pt P) = nI (vS P s) := wsum_nsum (fun t ht => (hm.2.2.2.1 t ht).2)
theorem gS_le (hP : okP P) (s : Int32) : gS P s ≤ 792 := by
  have h1 := nsum_le (h := pG P) (s := s) (c := 99) (n := pt P) (fun t ht => (hP.2.2.2.1 t ht).2.1)
  have h2 := hP.1.2.2.2.2.1
  unfold gS
  omega
theorem vS_le (hP : okP P) (s : Int32) : vS P s ≤ 792 := by
  have h1 := nsum_le (h := pV P) (s := s) (c := 99) (n := pt P) (fun t ht => (hP.2.2.2.1 t ht).2.2)
  have h2 := hP.1.2.2.2.2.1
  unfold vS
  omega
theorem J_out (hP : okP P) {r : Nat} (h1 : pn P ≤ r) (h2 : r < 8) : pJ P r = 0 := by
  apply b_ext
  intro i hi
  rw [b_0]
  cases hb : bt (pJ P r) i
  · rfl
  · have := (hP.2.1 r i h2 hi hb).2.2
    omega
end AB
theorem ne_m3 (k : Nat) (hk : k < 2147483648) : nI k ≠ -3 := fun h => by
  have := (fa_eq _ _).mp h
  rw [nI_toInt hk] at this
  have e : (-3 : Int32).toInt = -3 := by decide
  omega
/-- a waiter's tray; both sides of it; by how much they differ -/
def trayL (P : PD) (A : AS) (k : Nat) : Int32 := tA P A (nI (2 * k))
def trayR (P : PD) (A : AS) (k : Nat) : Int32 := tA P A (nI (2 * k + 1))
def tray (P : PD) (A : AS) (k : Nat) : Int32 := trayL P A k ||| trayR P A k
def slnt (P : PD) (A : AS) (k : Nat) : Int32 := jabs (nI (gS P (trayL P A k)) - nI (gS P (trayR P A k)))
theorem tray_sml {P : PD} (hP : okP P) (A : AS) (k : Nat) : sml P (tray P A k) := sml_or (tA_sml hP A _) (tA_sml hP A _)
theorem right_of {P : PD} (hP : okP P) (A : AS) {k : Nat} (hk : k < 4) : (tray P A k &&& (trayL P A k ^^^ (-1))) = trayR P A k := by
  apply b_ext
  intro i hi
  have h5 := hP.1.2.2.2.2.1
  unfold tray trayL trayR tA
  rw [b_and, b_not _ hi, b_or, tset_bt _ _ _ (by omega) hi, tset_bt _ _ _ (by omega) hi]
  by_cases h1 : i < pt P ∧ aPl A i = nI (2 * k)
  · have h2 : ¬ (i < pt P ∧ aPl A i = nI (2 * k + 1)) := fun q => by
      have := h1.2.symm.trans q.2
      rw [nI_eq (by omega) (by omega)] at this
      omega
    simp [h1, h2]
    intro q
    have := q
    rw [nI_eq (by omega) (by omega)] at this
    omega
  · simp only [h1, decide_false, Bool.false_or, Bool.not_false, Bool.and_true]
section SPEC
variable {E : tp_E} {d : Nat} {σ : tp_M} {Q : Int32 → tp_M → Prop} {P : PD} {A : AS}
theorem sC_tray (hP : okP P) (hA : okA P A) (hS : cS σ 9 P A) {k : Nat} (hk : k < 4) (h : Q (tray P A k) σ) : Ci E TC yX8_thingsOf iX8_thingsOf (d + 1) [.ref 9, .int (nI k)] σ Q := by
  refine sc_thingsOf ?_
  rw [c_tset hP hA hS (ne_m3 _ (by omega)), c_tset hP hA hS (ne_m3 _ (by omega))]
  exact h
theorem sC_at (hP : okP P) (hA : okA P A) (hS : cS σ 9 P A) {v : Int32} (hv : v ≠ -3) (h : Q (tA P A v) σ) : Ci E TC yX8_thingsAt iX8_thingsAt d [.ref 9, .int v] σ Q := by
  refine sc_thingsAt _ ?_
  rw [c_tset hP hA hS hv]
  exact h
theorem sC_weight (hP : okP P) (hc : cP σ 1 P) {s : Int32} (hs : sml P s) (h : Q (nI (gS P s)) σ) : Ci E TC yX5_weightOf iX5_weightOf (d + 1 + 1) [.ref 1, .int s] σ Q := by
  refine sc_weightOf _ ?_
  rw [c_gS hP hc hs]
  exact h
theorem sC_worth (hP : okP P) (hc : cP σ 1 P) {s : Int32} (hs : sml P s) (h : Q (nI (vS P s)) σ) : Ci E TC yX5_worthOf iX5_worthOf (d + 1 + 1) [.ref 1, .int s] σ Q := by
  refine sc_worthOf _ ?_
  rw [c_vS hP hc hs]
  exact h
theorem sC_slant (hP : okP P) (hc : cP σ 1 P) (hA : okA P A) (hS : cS σ 9 P A) {k : Nat} (hk : k < 4) (h : Q (slnt P A k) σ) : Ci E TC yX0_slant iX0_slant (d + 1 + 1 + 1 + 1) [.ref 139, .int (nI k)] σ Q := by
  refine sc_slant ?_
  have hl := tA_sml hP A (nI (2 * k))
  have hr := tA_sml hP A (nI (2 * k + 1))
  have e := right_of hP A hk
  unfold tray trayL trayR at e
  rw [c_tset hP hA hS (ne_m3 _ (by omega)), c_tset hP hA hS (ne_m3 _ (by omega)), e, c_gS hP hc hl, c_gS hP hc hr]
  exact h
theorem sM_at (hP : okP P) (hm : mP σ P) {b : Nat} (hb : b + 59 ≤ 1416) (hS : mS σ b P A) (v : Int32) (h : Q (tA P A v) σ) : Ci E TM yX10_thingsAt iX10_thingsAt d [.ref 0, .int (nI b), .int v] σ Q := by
  refine sm_thingsAt hm.1.2.2.2.2.1 hP.1.2.2.2.2.1 hb v ?_
  rw [m_tset hS]
  exact h
theorem sM_tray (hP : okP P) (hm : mP σ P) {b : Nat} (hb : b + 59 ≤ 1416) (hS : mS σ b P A) {k : Nat} (h : Q (tray P A k) σ) : Ci E TM yX10_onTray iX10_onTray (d + 1) [.ref 0, .int (nI b), .int (nI k)] σ Q := by
  refine sm_onTray hm.1.2.2.2.2.1 hP.1.2.2.2.2.1 hb ?_
  rw [m_tset hS, m_tset hS]
  exact h
theorem sM_weight (hP : okP P) (hm : mP σ P) (s : Int32) (h : Q (nI (gS P s)) σ) : Ci E TM yX10_weightOf iX10_weightOf (d + 1) [.ref 0, .int s] σ Q := by
  refine sm_weightOf hm.1.2.2.2.2.1 hP.1.2.2.2.2.1 s ?_
  rw [m_gS hm]
  exact h
theorem sM_worth (hP : okP P) (hm : mP σ P) (s : Int32) (h : Q (nI (vS P s)) σ) : Ci E TM yX10_worthOf iX10_worthOf (d + 1) [.ref 0, .int s] σ Q := by
  refine sm_worthOf hm.1.2.2.2.2.1 hP.1.2.2.2.2.1 s ?_
  rw [m_vS hm]
  exact h
theorem sM_slant (hP : okP P) (hm : mP σ P) {b : Nat} (hb : b + 59 ≤ 1416) (hS : mS σ b P A) {k : Nat} (h : Q (slnt P A k) σ) : Ci E TM yX10_differs iX10_differs (d + 1 + 1) [.ref 0, .int (nI b), .int (nI k)] σ Q := by
  refine sm_differs hm.1.2.2.2.2.1 hP.1.2.2.2.2.1 hb ?_
  rw [m_tset hS, m_tset hS, m_gS hm, m_gS hm]
  exact h
end SPEC

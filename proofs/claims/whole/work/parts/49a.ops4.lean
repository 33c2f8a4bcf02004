/-! ===== how a tray is laid, what is packed ===== -/
def df (P : PD) (t l : Int32) : Int32 := jabs (nI (gS P l) - nI (gS P (t &&& (l ^^^ (-1)))))
def evs (P : PD) (t : Int32) (j : Nat) (s : Int32 × Int32) : Int32 × Int32 := if (nI j &&& (t ^^^ (-1))) = 0 then (if s.2 ≤ df P t (nI j) then s else (nI j, df P t (nI j))) else s
def evn (P : PD) (t : Int32) (n : Nat) : Int32 × Int32 := itr (fun i s => evs P t (i + 1) s) n (0, nI (gS P t))
theorem gS_0 (P : PD) : gS P 0 = 0 := by
  unfold gS nsum
  exact itr_inv (fun _ x => x = 0) (pt P) rfl (fun k x hk h => by rw [b_0, if_neg (by decide)]; exact h)
theorem and_not0 (t : Int32) : t &&& ((0 : Int32) ^^^ (-1)) = t := by
  apply b_ext
  intro i hi
  rw [b_and, b_not _ hi, b_0]
  simp
theorem df_0 {P : PD} (hP : okP P) (t : Int32) : df P t 0 = nI (gS P t) := by
  unfold df
  rw [and_not0, gS_0]
  have hG := gS_le hP t
  generalize gS P t = g at hG ⊢
  unfold jabs
  have e : (nI 0 - nI g).toInt = -(g : Int) := by
    have := pk_sub_toInt (a := 0) (b := g) (by decide) (by omega)
    omega
  by_cases h0 : 0 ≤ nI 0 - nI g
  · rw [if_pos h0]
    rw [fa_le, e] at h0
    have e0 : (0 : Int32).toInt = 0 := by decide
    have hg : g = 0 := by omega
    subst hg
    rfl
  · rw [if_neg h0]
    rw [nI_0]
    simp
theorem sub_sml {P : PD} {t l : Int32} (ht : sml P t) (h : (l &&& (t ^^^ (-1))) = 0) : sml P l := sml_sub ht ((sub_bt l t).mp h)
theorem rest_sml {P : PD} {t : Int32} (ht : sml P t) (l : Int32) : sml P (t &&& (l ^^^ (-1))) := sml_sub ht (fun i hi h => by rw [b_and] at h; cases hb : bt t i <;> simp_all)
section EVN
variable {E : tp_E} {d : Nat} {σ : tp_M} {Q : Int32 → tp_M → Prop} {P : PD}
theorem sC_diff (hP : okP P) (hc : cP σ 1 P) {t l : Int32} (ht : sml P t) (hl : sml P l) (h : Q (df P t l) σ) : Ci E TC yX5_difference iX5_difference (d + 1 + 1 + 1) [.ref 1, .int t, .int l] σ Q := by
  refine sc_difference _ _ ?_
  rw [c_gS hP hc hl, c_gS hP hc (rest_sml ht l)]
  exact h
theorem sC_evenest (hP : okP P) (hc : cP σ 1 P) {t : Int32} (ht : sml P t) (h : Q (evn P t 255).1 σ) : Ci E TC yX5_evenestLeft iX5_evenestLeft (d + 1 + 1 + 1 + 1) [.ref 1, .int t] σ Q := by
  refine eX5_evenestLeft _ (sC_weight hP hc ht ?_)
  refine wl_up (fun i (s : Int32 × Int32) => Wi E TC iX5_evenestLeft (d + 1 + 1 + 1 + 1) Q 11 [(0, .ref 1), (1, .int t), (2, .int s.1), (3, .int s.2), (4, .int i)] [] σ) (fun j s => 1 ≤ j ∧ s = evn P t (j - 1)) 256 ?_ ?_ 1 (0, nI (gS P t)) (by omega) ⟨by omega, rfl⟩
  · intro s hs
    refine bX5_evenestLeft_11 _ _ _ _ ?_
    rw [if_pos (by decide), hs.2]
    exact h
  · intro j s hj hs ih
    refine bX5_evenestLeft_11 _ _ _ _ ?_
    rw [if_neg (nle_lit 256 hj (by decide))]
    have e : evs P t j s = evn P t (j + 1 - 1) := by
      rw [hs.2, Nat.add_sub_cancel]
      obtain ⟨i, rfl⟩ : ∃ i, j = i + 1 := ⟨j - 1, by omega⟩
      rfl
    have ih2 := ih (evs P t j s) ⟨by omega, e⟩
    unfold evs at ih2
    by_cases h1 : (nI j &&& (t ^^^ (-1))) = 0
    · rw [if_pos h1] at ih2 ⊢
      refine sC_diff hP hc ht (sub_sml ht h1) ?_
      by_cases h2 : s.2 ≤ df P t (nI j)
      · rw [if_pos h2] at ih2 ⊢; exact ih2
      · rw [if_neg h2] at ih2 ⊢; exact ih2
    · rw [if_neg h1] at ih2 ⊢
      rw [if_pos (Int32.le_refl _)]
      exact ih2
theorem evn_inv (hP : okP P) (t : Int32) : ∀ n, n ≤ 255 → ((evn P t n).2 = df P t (evn P t n).1 ∧ ((evn P t n).1 &&& (t ^^^ (-1))) = 0) := by
  intro n hn
  unfold evn
  refine itr_inv (fun (k : Nat) (s : Int32 × Int32) => s.2 = df P t s.1 ∧ (s.1 &&& (t ^^^ (-1))) = 0) n ⟨(df_0 hP t).symm, ?_⟩ (fun k s hk hs => ?_)
  · apply b_ext
    intro i hi
    rw [b_and, b_0]
    rfl
  · unfold evs
    by_cases h1 : (nI (k + 1) &&& (t ^^^ (-1))) = 0
    · rw [if_pos h1]
      by_cases h2 : s.2 ≤ df P t (nI (k + 1))
      · rw [if_pos h2]; exact hs
      · rw [if_neg h2]; exact ⟨rfl, h1⟩
    · rw [if_neg h1]; exact hs
theorem sM_evened (hP : okP P) (hm : mP σ P) {t x : Int32} (h : Q (if x = 0 then (evn P t 255).1 else (evn P t 255).2) σ) : Wi E TM iX10_evened (d + 1 + 1) Q 42 [(0, .ref 0), (2, .int x), (3, .int t), (4, .int 0), (5, .int 1000000), (6, .int 0)] [] σ := by
  have step : ∀ (j : Nat) (b l : Int32), j < 256 → Wi E TM iX10_evened (d + 1 + 1) Q 42 [(0, .ref 0), (2, .int x), (3, .int t), (4, .int (evs P t j (b, l)).1), (5, .int (evs P t j (b, l)).2), (6, .int (nI j + 1))] [] σ → Wi E TM iX10_evened (d + 1 + 1) Q 42 [(0, .ref 0), (2, .int x), (3, .int t), (4, .int b), (5, .int l), (6, .int (nI j))] [] σ := by
    intro j b l hj ih
    refine bX10_evened_42 _ _ _ _ _ ?_
    rw [if_neg (nle_lit 256 hj (by decide))]
    unfold evs at ih
    by_cases h1 : (nI j &&& (t ^^^ (-1))) = 0
    · rw [if_pos h1] at ih ⊢
      refine sM_weight hP hm _ (sM_weight hP hm _ ?_)
      have key : ∀ z : Int32, z = df P t (nI j) → (if l ≤ z then Wi E TM iX10_evened (d + 1 + 1) Q 107 [(0, .ref 0), (2, .int x), (3, .int t), (5, .int l), (6, .int (nI j)), (7, .int z)] [.int b] σ else Wi E TM iX10_evened (d + 1 + 1) Q 107 [(0, .ref 0), (2, .int x), (3, .int t), (5, .int l), (6, .int (nI j)), (7, .int z)] [.int (nI j)] σ) := by
        intro z hz
        rw [← hz] at ih
        by_cases h2 : l ≤ z
        · rw [if_pos h2] at ih ⊢
          refine bX10_evened_107 _ _ _ _ _ _ ?_
          rw [if_pos h2]
          exact ih
        · rw [if_neg h2] at ih ⊢
          refine bX10_evened_107 _ _ _ _ _ _ ?_
          rw [if_neg h2]
          exact ih
      by_cases h0 : 0 ≤ nI (gS P (nI j)) - nI (gS P (t &&& (nI j ^^^ (-1))))
      · rw [if_pos h0]
        exact key _ (by unfold df jabs; rw [if_pos h0])
      · rw [if_neg h0]
        exact key _ (by unfold df jabs; rw [if_neg h0])
    · rw [if_neg h1] at ih ⊢
      exact ih
  refine step 0 0 1000000 (by omega) ?_
  have e0 : evs P t 0 (0, 1000000) = evn P t 0 := by
    unfold evs
    rw [if_pos (by apply b_ext; intro i hi; rw [b_and, show nI 0 = 0 from rfl, b_0]; rfl)]
    have e1 : df P t (nI 0) = nI (gS P t) := df_0 hP t
    have hG := gS_le hP t
    rw [e1, if_neg]
    · rfl
    · intro q
      have q2 : nI 1000000 ≤ nI (gS P t) := q
      rw [nI_leI (by decide) (by omega)] at q2
      omega
  rw [e0, nI_1]
  refine wl_up (fun i (s : Int32 × Int32) => Wi E TM iX10_evened (d + 1 + 1) Q 42 [(0, .ref 0), (2, .int x), (3, .int t), (4, .int s.1), (5, .int s.2), (6, .int i)] [] σ) (fun j s => 1 ≤ j ∧ s = evn P t (j - 1)) 256 ?_ ?_ 1 (evn P t 0) (by omega) ⟨by omega, rfl⟩
  · intro s hs
    refine bX10_evened_42 _ _ _ _ _ ?_
    rw [if_pos (by decide), hs.2]
    by_cases hx : x = 0
    · rw [if_pos hx] at h ⊢; exact h
    · rw [if_neg hx] at h ⊢; exact h
  · intro j s hj hs ih
    refine step j s.1 s.2 hj ?_
    refine ih (evs P t j s) ⟨by omega, ?_⟩
    rw [hs.2, Nat.add_sub_cancel]
    obtain ⟨i, rfl⟩ : ∃ i, j = i + 1 := ⟨j - 1, by omega⟩
    rfl
end EVN

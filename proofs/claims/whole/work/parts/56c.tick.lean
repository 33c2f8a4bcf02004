/-! ===== the reference: a minute ===== -/
def slS (P : PD) (A : AS) (n : Nat) : Int32 := itr (fun k s => if slnt P A k ≤ nI (pe P) then s else s ||| bit k) n 0
theorem slS_bt (P : PD) (A : AS) {k : Nat} (hk : k < 32) : ∀ n, n ≤ 32 → (bt (slS P A n) k = true ↔ k < n ∧ ¬ slnt P A k ≤ nI (pe P))
  | 0, _ => by
    show bt 0 k = true ↔ _
    rw [b_0]
    exact ⟨fun q => (by cases q), fun q => absurd q.1 (Nat.not_lt_zero k)⟩
  | n + 1, hn => by
    have ih := slS_bt P A hk n (by omega)
    show bt (if slnt P A n ≤ nI (pe P) then slS P A n else slS P A n ||| bit n) k = true ↔ _
    by_cases h : slnt P A n ≤ nI (pe P)
    · rw [if_pos h, ih]
      refine ⟨fun q => ⟨by omega, q.2⟩, fun q => ⟨?_, q.2⟩⟩
      by_cases e : k = n
      · subst e; exact absurd h q.2
      · omega
    · rw [if_neg h, b_or, b_bit n (by omega) hk]
      by_cases e : k = n
      · subst e
        simp [h]
      · rw [decide_eq_false e, Bool.or_false, ih]
        exact ⟨fun q => ⟨by omega, q.2⟩, fun q => ⟨by omega, q.2⟩⟩
section MTK
variable {E : tp_E} {d : Nat} {σ : tp_M} {P : PD} {A : AS}
theorem sM_spills {Q : tp_M → Prop} {C : AS} {k : Nat} (hP : okP P) (hm : mP σ P) (hS : mS σ 0 P C) (hk : k < 4) (h : match hv P (tray P C k) with | none => Q σ | some u => Q (tp_u σ 1 (50 + u) (-2))) : Cv E TM yX10_spills iX10_spills (d + 1 + 1) [.ref 0, .int 0, .int (nI k)] σ Q := by
  have h8 := hP.1.2.2.2.2.1
  refine eX10_spills _ _ (sM_tray (b := 0) hP hm (by decide) hS ?_)
  have hsm := tray_sml hP C k
  generalize tray P C k = s at h hsm
  have key : ∀ m j, j + m = pt P → ∀ b, b = itr (fun t b => hst P s t b) j none → Wv E TM iX10_spills (d + 1 + 1) Q 13 [(0, .ref 0), (1, .int 0), (3, .int s), (4, .int (oI b (-1))), (5, .int (nI j))] [] σ := by
    intro m
    induction m with
    | zero =>
      intro j hj b hb
      rw [Nat.add_zero] at hj
      subst hj
      refine bX10_spills_13 _ _ _ _ ?_
      rw [hm.1.2.2.2.2.1, if_pos (nI_le (Nat.le_refl _) (by omega))]
      have hb : b = hv P s := hb
      rw [← hb] at h
      cases b with
      | none => rw [if_pos (show oI none (-1) = -1 from rfl)]; exact h
      | some u =>
        have hu := (hv_in P s _ u hb.symm).1
        show if nI u = -1 then _ else _
        rw [if_neg (nI_ne_m1 (by omega)), show (0 : Int32) + 50 = nI 50 from rfl]
        show vp_in (nI 50 + nI u) 1416 ∧ Q (tp_u σ 1 (nI 50 + nI u).toNatClampNeg (-2))
        rw [nI_add, vcl (by omega)]
        exact ⟨vin (by omega) (by decide), h⟩
    | succ m ih =>
      intro j hj b hb
      have hi := hv_in P s j
      rw [← hb] at hi
      have ih1 := ih (j + 1) (by omega) _ rfl
      change Wv E TM iX10_spills (d + 1 + 1) Q 13 [(0, .ref 0), (1, .int 0), (3, .int s), (4, .int (oI (hst P s j (itr (fun t b => hst P s t b) j none)) (-1))), (5, .int (nI (j + 1)))] [] σ at ih1
      rw [← hb] at ih1
      refine bX10_spills_13 _ _ _ _ ?_
      rw [hm.1.2.2.2.2.1, if_neg (nI_ge (by omega) (by omega)), nI_1]
      unfold hst at ih1
      refine sm_hasC (by omega) (fun hbt => ?_) (fun hbt => ?_)
      · have hg := hP.2.2.2.1 j (by omega)
        rw [if_neg (by decide)]
        rw [if_pos hbt] at ih1
        cases b with
        | none => rw [if_pos (show oI none (-1) = -1 from rfl)]; exact ih1
        | some u =>
          have hut := (hi u rfl).1
          have hu := hP.2.2.2.1 u (by omega)
          change Wv E TM iX10_spills (d + 1 + 1) Q 13 [(0, .ref 0), (1, .int 0), (3, .int s), (4, .int (oI (if pG P j ≤ pG P u then some u else some j) (-1))), (5, .int (nI (j + 1)))] [] σ at ih1
          rw [if_neg (show ¬ oI (some u) (-1) = -1 from nI_ne_m1 (by omega))]
          show vp_in (nI j) 8 ∧ vp_in (nI u) 8 ∧ if σ 5 (nI j).toNatClampNeg ≤ σ 5 (nI u).toNatClampNeg then _ else _
          rw [vcl (by omega), vcl (by omega), (hm.2.2.2.1 j (by omega)).1, (hm.2.2.2.1 u (by omega)).1]
          refine ⟨vin (by omega) (by decide), vin (by omega) (by decide), ?_⟩
          by_cases hle : pG P j ≤ pG P u
          · rw [if_pos (nI_le hle (by omega))]
            rw [if_pos hle] at ih1
            exact ih1
          · rw [if_neg (nI_ge (by omega) (by omega))]
            rw [if_neg hle] at ih1
            exact ih1
      · rw [if_pos rfl]
        rw [if_neg (by rw [hbt]; decide)] at ih1
        exact ih1
  exact key (pt P) 0 (by omega) none rfl
theorem sM_passes {Q : tp_M → Prop} {D : DD} (hk : okD D) (hm : mR σ D) (h : ∀ σ', mR σ' (dSetA D (tick (dP D) (dA D))) → Q σ') : Cv E TM yX10_passes iX10_passes (d + 1 + 1 + 1) [.ref 0, .int 0] σ Q := by
  have hP := hk.1
  have hA := hk.2.1
  have h4 := hP.1.2.2.2.1
  have h8 := hP.1.1
  have ht8 := hP.1.2.2.2.2.1
  have hB := okA_wlk hA
  have c1 := hm.1
  have c2 := hm.2.1
  have e7 : σ 0 7 = nI (pw (dP D)) := c1.1.2.2.2.1
  refine eX10_passes _ ?_
  -- whose trays slant
  refine lup (fun j s => Wv E TM iX10_passes (d + 1 + 1 + 1) Q 4 [(0, .ref 0), (1, .int 0), (2, .int (slS (dP D) (dA D) j)), (3, .int (nI j))] [] s) (fun j s => s = σ) (pw (dP D)) ?_ ?_ 0 σ (Nat.zero_le _) rfl
  rotate_left
  · intro j s hj hs ih
    subst hs
    refine bX10_passes_4 _ _ _ ?_
    rw [e7, if_neg (nI_ge hj (by omega)), nI_1]
    refine sM_slant (b := 0) hP c1 (by decide) c2 ?_
    rw [c1.1.2.1, or_0]
    have ih := ih s rfl
    change Wv E TM iX10_passes (d + 1 + 1 + 1) Q 4 [(0, .ref 0), (1, .int 0), (2, .int (if slnt (dP D) (dA D) j ≤ nI (pe (dP D)) then slS (dP D) (dA D) j else slS (dP D) (dA D) j ||| bit j)), (3, .int (nI (j + 1)))] [] s at ih
    by_cases hsl : slnt (dP D) (dA D) j ≤ nI (pe (dP D))
    · rw [if_pos hsl] at ih ⊢; exact ih
    · rw [if_neg hsl] at ih ⊢; exact ih
  intro s hs
  subst hs
  refine bX10_passes_4 _ _ _ ?_
  rw [e7, if_pos (nI_le (Nat.le_refl _) (by omega))]
  -- they walk
  refine lup (fun j s' => Wv E TM iX10_passes (d + 1 + 1 + 1) Q 43 [(0, .ref 0), (1, .int 0), (2, .int (slS (dP D) (dA D) (pw (dP D)))), (3, .int (nI j))] [] s') (fun j s' => (∀ q, q ≠ 1 → q ≠ 14 → q ≠ 15 → s' q = s q) ∧ mS s' 0 (dP D) (wn (dA D) j) ∧ (∀ i, 58 ≤ i → s' 1 i = s 1 i) ∧ (∀ k, k < j → s' 14 k = nI (aAt (dA D) k) ∧ s' 15 k = bI (decide (aRt (dA D) k ≠ 0)))) (pw (dP D)) ?_ ?_ 0 s (Nat.zero_le _) ⟨fun q _ _ _ => rfl, c2, fun i _ => rfl, fun k hk => absurd hk (Nat.not_lt_zero k)⟩
  rotate_left
  · intro j s1 hj ⟨g1, g2, g3, g4⟩ ih
    refine bX10_passes_43 _ _ _ ?_
    rw [g1 0 (by omega) (by omega) (by omega), e7, if_neg (nI_ge hj (by omega)), nI_1]
    have hat := wn_at (dA D) j j
    rw [if_neg (Nat.lt_irrefl j), if_neg (Nat.lt_irrefl j)] at hat
    refine sM_walks (b := 0) hP (by omega) hj (by rw [hat.2]; exact okA_rt hA j) g2 (fun s2 k1 k2 k3 k4 k5 k6 => ih s2 ⟨fun q a b c => by rw [k4 q a b c]; exact g1 q a b c, k1, fun i a => by rw [k5 i (by omega)]; exact g3 i a, fun k hk => ?_⟩)
    by_cases q : k = j
    · subst q
      rw [k2, k3, hat.1, hat.2]
      exact ⟨rfl, rfl⟩
    · rw [(k6 k q).1, (k6 k q).2]
      exact g4 k (by omega)
  intro s1 ⟨g1, g2, g3, g4⟩
  refine bX10_passes_43 _ _ _ ?_
  rw [g1 0 (by omega) (by omega) (by omega), e7, if_pos (nI_le (Nat.le_refl _) (by omega))]
  have g2 : mS s1 0 (dP D) (wlk (dA D)) := g2.cg (wn_rest (dA D) _).1.symm (wn_rest (dA D) _).2.1.symm (fun k hk => by rw [(wn_at (dA D) _ k).1, if_pos hk]; rfl) (fun k hk => by rw [(wn_at (dA D) _ k).2, if_pos hk]; rfl) (fun k hk => by rw [(wn_rest (dA D) _).2.2.1]; rfl) (fun k hk => by rw [(wn_rest (dA D) _).2.2.2]; rfl)
  have m2 : ∀ k, k < pw (dP D) → s1 1 (0 + 2 + k) = nI (aAt (wlk (dA D)) k) := fun k hk => g2.2.1 k hk
  have m46 : ∀ k, k < pw (dP D) → s1 1 (46 + k) = aTr (dA D) k := fun k hk => by have := g2.2.2.2.1 k hk; rw [Nat.zero_add] at this; exact this
  have m1 : s1 1 1 = aMe (dA D) := by have := g2.1.2; rw [Nat.zero_add] at this; exact this
  have m15 : ∀ k, k < pw (dP D) → s1 15 k = bI (decide (aAt (wlk (dA D)) k ≠ aAt (dA D) k)) := fun k hk => by rw [(g4 k hk).2, went hP hA hk]
  -- who met
  have key : ∀ s2, (∀ q, q ≠ 1 → s2 q = s1 q) → (∀ i, i ≠ 1 → s2 1 i = s1 1 i) → s2 1 1 = (jall (dP D) (dA D) (wlk (dA D)) (pw (dP D))).1 → Wv E TM iX10_passes (d + 1 + 1 + 1) Q 167 [(0, .ref 0), (1, .int 0), (2, .int (slS (dP D) (dA D) (pw (dP D)))), (3, .int (jall (dP D) (dA D) (wlk (dA D)) (pw (dP D))).2), (4, .int 0)] [] s2 := by
    intro s2 f1 f2 f3
    have hS2 : mS s2 0 (dP D) (aPls (wlk (dA D)) (jall (dP D) (dA D) (wlk (dA D)) (pw (dP D))).1 (sall (dP D) (dA D) (jall (dP D) (dA D) (wlk (dA D)) (pw (dP D))).2 0)) := by
      obtain ⟨n1, n2, n3, n4, n5⟩ := g2
      refine ⟨⟨?_, f3⟩, fun k hk => ?_, fun k hk => ⟨?_, fun e he => ?_⟩, fun k hk => ?_, fun t ht => ?_⟩
      · rw [f2 0 (by omega)]; exact n1.1
      · rw [f2 _ (by omega)]; exact n2 k hk
      · rw [f2 _ (by omega)]; exact (n3 k hk).1
      · rw [f2 _ (by omega)]; exact (n3 k hk).2 e he
      · rw [f2 _ (by omega)]; exact n4 k hk
      · rw [f2 _ (by omega)]; exact n5 t ht
    generalize hJ : jall (dP D) (dA D) (wlk (dA D)) (pw (dP D)) = J at hS2 f3
    have fr2 : ∀ q, q ≠ 1 → q ≠ 14 → q ≠ 15 → s2 q = s q := fun q a b c => by rw [f1 q a, g1 q a b c]
    have fw2 : ∀ i, 58 ≤ i → s2 1 i = s 1 i := fun i a => by rw [f2 i (by omega), g3 i a]
    refine lup (fun j s' => Wv E TM iX10_passes (d + 1 + 1 + 1) Q 167 [(0, .ref 0), (1, .int 0), (2, .int (slS (dP D) (dA D) (pw (dP D)))), (3, .int J.2), (4, .int (nI j))] [] s') (fun j s' => mS s' 0 (dP D) (aPls (wlk (dA D)) J.1 (sall (dP D) (dA D) J.2 j)) ∧ (∀ q, q ≠ 1 → q ≠ 14 → q ≠ 15 → s' q = s q) ∧ (∀ i, 58 ≤ i → s' 1 i = s 1 i)) (pw (dP D)) ?_ ?_ 0 s2 (Nat.zero_le _) ⟨hS2, fr2, fw2⟩
    · intro s3 ⟨k1, k2, k3⟩
      refine bX10_passes_167 _ _ _ _ ?_
      rw [k2 0 (by omega) (by omega) (by omega), e7, if_pos (nI_le (Nat.le_refl _) (by omega)), show ((0 : Int32) + 0) = nI 0 from rfl, vcl (by omega)]
      refine ⟨vin (by omega) (by decide), vin (by omega) (by decide), h _ (hm.setA2 hk ?_ (fun i a b c => ?_) (fun q a b => ?_))⟩
      · unfold tick
        rw [hJ]
        obtain ⟨n1, n2, n3, n4, n5⟩ := k1
        refine ⟨⟨?_, ?_⟩, fun k hk => ?_, fun k hk => ⟨?_, fun e he => ?_⟩, fun k hk => ?_, fun t ht => ?_⟩
        · rw [uu1, n1.1]; rfl
        · rw [uu2 _ _ _ (by omega)]; exact n1.2
        · rw [uu2 _ _ _ (by omega)]; exact n2 k hk
        · rw [uu2 _ _ _ (by omega)]; exact (n3 k hk).1
        · rw [uu2 _ _ _ (by omega)]; exact (n3 k hk).2 e he
        · rw [uu2 _ _ _ (by omega)]; exact n4 k hk
        · rw [uu2 _ _ _ (by omega)]; exact n5 t ht
      · rw [uu2 _ _ _ (by omega)]; exact k3 i (by omega)
      · rw [uu3 _ _ _ a]; exact k2 q a (by omega) (by omega)
    · intro j s3 hj ⟨k1, k2, k3⟩ ih
      have mp3 : mP s3 (dP D) := c1.fr (fun k a => by rw [k2 0 (by omega) (by omega) (by omega)]) (fun q a b => k2 q (by omega) (by omega) (by omega))
      obtain ⟨t1, t2⟩ := sall_tray (C := aPls (wlk (dA D)) J.1 (sall (dP D) (dA D) J.2 j)) (k := j) hP rfl (Nat.le_refl j) hj
      have e1 : sall (dP D) (dA D) J.2 (j + 1) = sst (dP D) (dA D) J.2 j (sall (dP D) (dA D) J.2 j) := rfl
      rw [e1] at ih
      unfold sst at ih
      refine bX10_passes_167 _ _ _ _ ?_
      rw [k2 0 (by omega) (by omega) (by omega), e7, if_neg (nI_ge hj (by omega)), nI_1]
      have hbt := slS_bt (dP D) (dA D) (show j < 32 by omega) (pw (dP D)) (by omega)
      refine sm_hasC (by omega) (fun hb => ?_) (fun hb => ?_)
      · rw [b_and] at hb
        have hb1 : bt J.2 j = true := by cases q : bt J.2 j; rw [q] at hb; cases hb; rfl
        have hb2 : bt (slS (dP D) (dA D) (pw (dP D))) j = true := by rw [hb1] at hb; exact hb
        rw [if_neg (by decide)]
        rw [if_pos ⟨hb1, (hbt.mp hb2).2⟩] at ih
        refine sM_spills hP mp3 k1 (by omega) ?_
        rw [t1]
        unfold spl at ih
        cases hu : hv (dP D) (tray (dP D) (dA D) j) with
        | none =>
          rw [hu] at ih
          exact ih s3 ⟨k1, k2, k3⟩
        | some u =>
          rw [hu] at ih
          have hu8 := (hv_in _ _ _ u hu).1
          refine ih _ ⟨?_, fun q a b c => by rw [uu3 _ _ _ a]; exact k2 q a b c, fun i a => by rw [uu2 _ _ _ (by omega)]; exact k3 i a⟩
          have := k1.setPl (t := u) (v := -2) h4
          rw [Nat.zero_add] at this
          exact this
      · rw [if_pos rfl]
        rw [if_neg (fun q => by rw [b_and, q.1, hbt.mpr ⟨hj, q.2⟩] at hb; cases hb)] at ih
        exact ih s3 ⟨k1, k2, k3⟩
  refine lup (fun i s' => Wv E TM iX10_passes (d + 1 + 1 + 1) Q 68 [(0, .ref 0), (1, .int 0), (2, .int (slS (dP D) (dA D) (pw (dP D)))), (3, .int (jall (dP D) (dA D) (wlk (dA D)) i).2), (4, .int (nI i))] [] s') (fun i s' => (∀ q, q ≠ 1 → s' q = s1 q) ∧ (∀ k, k ≠ 1 → s' 1 k = s1 1 k) ∧ s' 1 1 = (jall (dP D) (dA D) (wlk (dA D)) i).1) (pw (dP D)) ?_ ?_ 0 s1 (Nat.zero_le _) ⟨fun q _ => rfl, fun k _ => rfl, m1⟩
  · intro s2 hs
    refine bX10_passes_68 _ _ _ _ ?_
    rw [hs.1 0 (by omega), g1 0 (by omega) (by omega) (by omega), e7, if_pos (nI_le (Nat.le_refl _) (by omega))]
    exact key s2 hs.1 hs.2.1 hs.2.2
  · intro i s2 hi hs ih
    refine bX10_passes_68 _ _ _ _ ?_
    rw [hs.1 0 (by omega), g1 0 (by omega) (by omega) (by omega), e7, if_neg (nI_ge hi (by omega)), nI_1]
    refine lup (fun t s' => Wv E TM iX10_passes (d + 1 + 1 + 1) Q 83 [(0, .ref 0), (1, .int 0), (2, .int (slS (dP D) (dA D) (pw (dP D)))), (3, .int (jrow (dA D) (wlk (dA D)) i t (jall (dP D) (dA D) (wlk (dA D)) i)).2), (4, .int (nI i)), (5, .int (nI (i + 1 + t)))] [] s') (fun t s' => (∀ q, q ≠ 1 → s' q = s1 q) ∧ (∀ k, k ≠ 1 → s' 1 k = s1 1 k) ∧ s' 1 1 = (jrow (dA D) (wlk (dA D)) i t (jall (dP D) (dA D) (wlk (dA D)) i)).1) (pw (dP D) - (i + 1)) ?_ ?_ 0 s2 (Nat.zero_le _) hs
    · intro s3 hs3
      refine bX10_passes_83 _ _ _ _ _ ?_
      rw [hs3.1 0 (by omega), g1 0 (by omega) (by omega) (by omega), e7, if_pos (nI_le (by omega) (by omega)), nI_1]
      exact ih s3 hs3
    · intro t s3 ht ⟨k1, k2, k3⟩ ih1
      refine bX10_passes_83 _ _ _ _ _ ?_
      rw [k1 0 (by omega), g1 0 (by omega) (by omega) (by omega), e7, if_neg (nI_ge (by omega) (by omega))]
      have e1 : jrow (dA D) (wlk (dA D)) i (t + 1) (jall (dP D) (dA D) (wlk (dA D)) i) = jst (dA D) (wlk (dA D)) i (i + 1 + t) (jrow (dA D) (wlk (dA D)) i t (jall (dP D) (dA D) (wlk (dA D)) i)) := rfl
      rw [e1] at ih1
      generalize jrow (dA D) (wlk (dA D)) i t (jall (dP D) (dA D) (wlk (dA D)) i) = x at ih1 k3
      have hj : i + 1 + t < pw (dP D) := by omega
      have l1 := (hA.2.1 i hi).1
      have l2 := (hA.2.1 (i + 1 + t) hj).1
      have l3 := (hB.2.1 i hi).1
      have l4 := (hB.2.1 (i + 1 + t) hj).1
      refine sM_met (b := 0) (by omega) (by omega) (by omega) (by rw [k2 _ (by omega)]; exact m2 i hi) (by rw [k2 _ (by omega)]; exact m2 _ hj) (by rw [k1 14 (by omega)]; exact (g4 i hi).1) (by rw [k1 14 (by omega)]; exact (g4 _ hj).1) (by rw [k1 15 (by omega)]; exact m15 i hi) (by rw [k1 15 (by omega)]; exact m15 _ hj) (by omega) (by omega) (by omega) (by omega) ?_
      rw [nI_1]
      unfold jst at ih1
      by_cases hmt : met (aAt (dA D) i) (aAt (wlk (dA D)) i) (aAt (dA D) (i + 1 + t)) (aAt (wlk (dA D)) (i + 1 + t)) = true
      · rw [if_pos hmt] at ih1
        rw [hmt, if_neg (by decide), show ((0 : Int32) + 1) = nI 1 from rfl, show ((0 : Int32) + 46) = nI 46 from rfl, nI_add, vcl (by omega), vcl (by omega), uu2 _ _ _ (show 46 + i ≠ 1 by omega), k2 (46 + i) (by omega), m46 i hi, k3, or_0]
        have fr : (∀ q, q ≠ 1 → tp_u s3 1 1 (x.1 + 1) q = s1 q) ∧ (∀ k, k ≠ 1 → tp_u s3 1 1 (x.1 + 1) 1 k = s1 1 k) ∧ tp_u s3 1 1 (x.1 + 1) 1 1 = x.1 + 1 := ⟨fun q hq => by rw [uu3 _ _ _ hq]; exact k1 q hq, fun k hk => by rw [uu2 _ _ _ hk]; exact k2 k hk, uu1 _ _ _ _⟩
        refine ⟨vin (by omega) (by decide), vin (by omega) (by decide), vin (by omega) (by decide), sm_hasC (by omega) (fun hb => ?_) (fun hb => ?_)⟩
        · rw [if_neg (by decide)]
          rw [if_pos hb] at ih1
          exact ih1 _ fr
        · rw [if_pos rfl]
          rw [if_neg (by rw [hb]; decide)] at ih1
          exact ih1 _ fr
      · have hmt : met (aAt (dA D) i) (aAt (wlk (dA D)) i) (aAt (dA D) (i + 1 + t)) (aAt (wlk (dA D)) (i + 1 + t)) = false := by cases q : met (aAt (dA D) i) (aAt (wlk (dA D)) i) (aAt (dA D) (i + 1 + t)) (aAt (wlk (dA D)) (i + 1 + t)); rfl; exact absurd q hmt
        rw [if_neg (by rw [hmt]; decide)] at ih1
        rw [hmt, if_pos (show bI false = 0 from rfl)]
        exact ih1 _ ⟨k1, k2, k3⟩
end MTK

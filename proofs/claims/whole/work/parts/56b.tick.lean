/-! ===== the class: tick ===== -/
section CTK
variable {E : tp_E} {d : Nat} {σ : tp_M} {P : PD} {A : AS}
theorem sC_haveMet {Q : Int32 → tp_M → Prop} {B : AS} {i j : Nat} (hP : okP P) (hA : okA P A) (hB : okA P B) (h13 : σ 1 3 = nI (pw P)) (hi : i < pw P) (hj : j < pw P) (hij : i ≠ j) (h10 : ∀ k, k < pw P → σ 10 k = nI (aAt B k)) (h140 : ∀ k, k < pw P → σ 140 k = nI (aAt A k)) (h : Q (bI (met (aAt A i) (aAt B i) (aAt A j) (aAt B j))) σ) : Ci E TC yX0_haveMet iX0_haveMet (d + 1 + 1) [.ref 139, .int (nI i), .int (nI j)] σ Q := by
  have h4 := hP.1.2.2.2.1
  have h8 := hP.1.1
  have a1 := (hA.2.1 i hi).1
  have a2 := (hA.2.1 j hj).1
  have b1 := (hB.2.1 i hi).1
  have b2 := (hB.2.1 j hj).1
  refine eX0_haveMet _ _ (sc_two_t h13 h4 hi hj hij ?_)
  rw [if_neg (by decide), vcl (by omega), vcl (by omega), h10 i hi, h10 j hj, h140 i hi, h140 j hj]
  refine ⟨vin (by omega) (by decide), vin (by omega) (by decide), vin (by omega) (by decide), vin (by omega) (by decide), sC_met (by omega) (by omega) (by omega) (by omega) ⟨?_, h⟩⟩
  unfold bI
  by_cases q : met (aAt A i) (aAt B i) (aAt A j) (aAt B j) = true
  · rw [if_pos q]; exact Or.inr rfl
  · rw [if_neg q]; exact Or.inl rfl
theorem sC_count {Q : Int32 → tp_M → Prop} {B : AS} (hP : okP P) (hA : okA P A) (hB : okA P B) (h13 : σ 1 3 = nI (pw P)) (h10 : ∀ k, k < pw P → σ 10 k = nI (aAt B k)) (h140 : ∀ k, k < pw P → σ 140 k = nI (aAt A k)) (h12 : ∀ k, k < pw P → σ 12 k = aTr A k) (h91 : σ 9 1 = aMe A) (h : ∀ σ', (∀ q, q ≠ 9 → σ' q = σ q) → (∀ k, k ≠ 1 → σ' 9 k = σ 9 k) → σ' 9 1 = (jall P A B (pw P)).1 → Q (jall P A B (pw P)).2 σ') : Ci E TC yX0_countMeetings iX0_countMeetings (d + 1 + 1 + 1) [.ref 139] σ Q := by
  have h4 := hP.1.2.2.2.1
  refine eX0_countMeetings ?_
  refine lup (fun i s => Wi E TC iX0_countMeetings (d + 1 + 1 + 1) Q 4 [(0, .ref 139), (1, .int (jall P A B i).2), (2, .int (nI i))] [] s) (fun i s => (∀ q, q ≠ 9 → s q = σ q) ∧ (∀ k, k ≠ 1 → s 9 k = σ 9 k) ∧ s 9 1 = (jall P A B i).1) (pw P) ?_ ?_ 0 σ (Nat.zero_le _) ⟨fun q _ => rfl, fun k _ => rfl, h91⟩
  · intro s hs
    refine bX0_countMeetings_4 _ _ ?_
    rw [hs.1 1 (by omega), h13, if_pos (nI_le (Nat.le_refl _) (by omega))]
    exact h s hs.1 hs.2.1 hs.2.2
  · intro i s hi hs ih
    refine bX0_countMeetings_4 _ _ ?_
    rw [hs.1 1 (by omega), h13, if_neg (nI_ge hi (by omega)), nI_1]
    have e0 : jall P A B (i + 1) = jrow A B i (pw P - (i + 1)) (jall P A B i) := rfl
    refine lup (fun t s => Wi E TC iX0_countMeetings (d + 1 + 1 + 1) Q 19 [(0, .ref 139), (1, .int (jrow A B i t (jall P A B i)).2), (2, .int (nI i)), (3, .int (nI (i + 1 + t)))] [] s) (fun t s => (∀ q, q ≠ 9 → s q = σ q) ∧ (∀ k, k ≠ 1 → s 9 k = σ 9 k) ∧ s 9 1 = (jrow A B i t (jall P A B i)).1) (pw P - (i + 1)) ?_ ?_ 0 s (Nat.zero_le _) hs
    · intro s1 hs1
      refine bX0_countMeetings_19 _ _ _ ?_
      rw [hs1.1 1 (by omega), h13, if_pos (nI_le (by omega) (by omega)), nI_1]
      exact ih s1 hs1
    · intro t s1 ht hs1 ih1
      obtain ⟨g1, g2, g3⟩ := hs1
      refine bX0_countMeetings_19 _ _ _ ?_
      rw [g1 1 (by omega), h13, if_neg (nI_ge (by omega) (by omega))]
      have e1 : jrow A B i (t + 1) (jall P A B i) = jst A B i (i + 1 + t) (jrow A B i t (jall P A B i)) := rfl
      rw [e1] at ih1
      generalize jrow A B i t (jall P A B i) = x at ih1 g3
      refine sC_haveMet hP hA hB (by rw [g1 1 (by omega)]; exact h13) hi (show i + 1 + t < pw P by omega) (by omega) (fun k hk => by rw [g1 10 (by omega)]; exact h10 k hk) (fun k hk => by rw [g1 140 (by omega)]; exact h140 k hk) ?_
      rw [nI_1]
      unfold jst at ih1
      by_cases hm : met (aAt A i) (aAt B i) (aAt A (i + 1 + t)) (aAt B (i + 1 + t)) = true
      · rw [if_pos hm] at ih1
        rw [hm, if_neg (by decide)]
        refine sc_treatiesOf (by omega) ?_
        rw [uu3 _ _ _ (show 12 ≠ 9 by omega), g1 12 (by omega), h12 i hi, g3]
        have fr : (∀ q, q ≠ 9 → tp_u s1 9 1 (x.1 + 1) q = σ q) ∧ (∀ k, k ≠ 1 → tp_u s1 9 1 (x.1 + 1) 9 k = σ 9 k) ∧ tp_u s1 9 1 (x.1 + 1) 9 1 = x.1 + 1 := ⟨fun q hq => by rw [uu3 _ _ _ hq]; exact g1 q hq, fun k hk => by rw [uu2 _ _ _ hk]; exact g2 k hk, uu1 _ _ _ _⟩
        refine sc_hasC (by omega) (fun hb => ?_) (fun hb => ?_)
        · rw [if_neg (by decide)]
          rw [if_pos hb] at ih1
          exact ih1 _ fr
        · rw [if_pos rfl]
          rw [if_neg (by rw [hb]; decide)] at ih1
          exact ih1 _ fr
      · have hm : met (aAt A i) (aAt B i) (aAt A (i + 1 + t)) (aAt B (i + 1 + t)) = false := by cases q : met (aAt A i) (aAt B i) (aAt A (i + 1 + t)) (aAt B (i + 1 + t)); rfl; exact absurd q hm
        rw [if_neg (by rw [hm]; decide)] at ih1
        rw [hm, if_pos (show bI false = 0 from rfl)]
        exact ih1 _ ⟨g1, g2, g3⟩
theorem sC_heaviest {Q : Int32 → tp_M → Prop} (hP : okP P) (hc : cP σ 1 P) {s : Int32} (hs : sml P s) (h : Q (oI (hv P s) (-1)) σ) : Ci E TC yX5_heaviestOf iX5_heaviestOf (d + 1) [.ref 1, .int s] σ Q := by
  have h8 := hP.1.2.2.2.2.1
  refine eX5_heaviestOf _ ?_
  have cut : itr (fun t b => hst P s t b) 8 none = hv P s := itr_cut 8 h8 (fun k a b x => by unfold hst; rw [if_neg (by rw [hs k a (by omega)]; decide)])
  have key : ∀ m j, j + m = 8 → ∀ b, b = itr (fun t b => hst P s t b) j none → Wi E TC iX5_heaviestOf (d + 1) Q 7 [(0, .ref 1), (1, .int s), (2, .int (oI b (-1))), (3, .int (nI (match b with | none => 0 | some u => pG P u))), (4, .int (nI j))] [] σ := by
    intro m
    induction m with
    | zero =>
      intro j hj b hb
      rw [Nat.add_zero] at hj
      subst hj
      refine bX5_heaviestOf_7 _ _ _ _ ?_
      rw [if_pos (by decide), hb, cut]
      exact h
    | succ m ih =>
      intro j hj b hb
      have hi := hv_in P s j
      rw [← hb] at hi
      have ih1 := ih (j + 1) (by omega) _ rfl
      change Wi E TC iX5_heaviestOf (d + 1) Q 7 [(0, .ref 1), (1, .int s), (2, .int (oI (hst P s j (itr (fun t b => hst P s t b) j none)) (-1))), (3, .int (nI (match hst P s j (itr (fun t b => hst P s t b) j none) with | none => 0 | some u => pG P u))), (4, .int (nI (j + 1)))] [] σ at ih1
      rw [← hb] at ih1
      refine bX5_heaviestOf_7 _ _ _ _ ?_
      rw [if_neg (nle_lit 8 (by omega) (by decide)), nI_1]
      unfold hst at ih1
      refine sc_hasC (by omega) (fun hbt => ?_) (fun hbt => ?_)
      · have hjt : j < pt P := by
          rcases Nat.lt_or_ge j (pt P) with q | q
          · exact q
          · rw [hs j q (by omega)] at hbt; cases hbt
        have hg := hP.2.2.2.1 j hjt
        rw [if_neg (by decide), vcl (by omega), show σ 5 j = nI (pG P j) from (hc.2.2.2.1 j hjt).1]
        rw [if_pos hbt] at ih1
        refine ⟨vin (by omega) (by decide), ?_⟩
        cases b with
        | none =>
          rw [if_neg (show ¬ nI (pG P j) ≤ nI 0 from nI_ge (by omega) (by omega))]
          exact ⟨vin (by omega) (by decide), ih1⟩
        | some u =>
          have hu := hP.2.2.2.1 u (by have := (hi u rfl).1; omega)
          change Wi E TC iX5_heaviestOf (d + 1) Q 7 [(0, .ref 1), (1, .int s), (2, .int (oI (if pG P j ≤ pG P u then some u else some j) (-1))), (3, .int (nI (match (if pG P j ≤ pG P u then some u else some j) with | none => 0 | some u => pG P u))), (4, .int (nI (j + 1)))] [] σ at ih1
          show if nI (pG P j) ≤ nI (pG P u) then _ else _
          by_cases hle : pG P j ≤ pG P u
          · rw [if_pos (nI_le hle (by omega))]
            rw [if_pos hle] at ih1
            exact ih1
          · rw [if_neg (nI_ge (by omega) (by omega))]
            rw [if_neg hle] at ih1
            exact ⟨vin (by omega) (by decide), ih1⟩
      · rw [if_pos rfl]
        rw [if_neg (by rw [hbt]; decide)] at ih1
        exact ih1
  exact key 8 0 rfl none rfl
theorem sc_put_m {Q : tp_M → Prop} {v : Int32} (h : Q σ) : Cv E TC yX8_put iX8_put d [.ref 9, .int (-1), .int v] σ Q := by
  refine eX8_put _ _ ?_
  rw [if_pos (by decide)]
  exact h
theorem sC_tick {Q : tp_M → Prop} {D : DD} (hk : okD D) (hc : cR σ D) (h : ∀ σ', cR σ' (dSetA D (tick (dP D) (dA D))) → Q σ') : Cv E TC yX0_tick iX0_tick (d + 1 + 1 + 1 + 1 + 1) [.ref 139] σ Q := by
  obtain ⟨hP, hA, -⟩ := hk
  have h4 := hP.1.2.2.2.1
  have h8 := hP.1.1
  refine eX0_tick ?_
  have c1 := hc.1
  have c2 := hc.2.1
  have hB := okA_wlk hA
  -- the walk
  refine lup (fun j s => Wv E TC iX0_tick (d + 1 + 1 + 1 + 1 + 1) Q 2 [(0, .ref 139), (1, .int (nI j))] [] s) (fun j s => (∀ q, q ≠ 10 → q ≠ 11 → q ≠ 140 → s q = σ q) ∧ (∀ k, k < pw (dP D) → s 10 k = nI (aAt (wn (dA D) j) k)) ∧ (∀ k, k < 4 → s 11 k = nI (aRt (wn (dA D) j) k)) ∧ (∀ k, k < j → k < pw (dP D) → s 140 k = nI (aAt (dA D) k))) 4 ?_ ?_ 0 σ (by omega) ⟨fun q _ _ _ => rfl, fun k hk => c2.2.1 k hk, fun k hk => c2.2.2.1 k hk, fun k hk => absurd hk (Nat.not_lt_zero k)⟩
  · intro s ⟨g1, g2, g3, g4⟩
    refine bX0_tick_2 _ ?_
    rw [if_pos (by decide)]
    have h10 : ∀ k, k < pw (dP D) → s 10 k = nI (aAt (wlk (dA D)) k) := fun k hk => by
      rw [g2 k hk, (wn_at (dA D) 4 k).1, if_pos (by omega)]; rfl
    refine sC_count hP hA hB (by rw [g1 1 (by omega) (by omega) (by omega)]; exact c1.1.2.2.2.1) h10 (fun k hk => g4 k (by omega) hk) (fun k hk => by rw [g1 12 (by omega) (by omega) (by omega)]; exact c2.2.2.2.1 k hk) (by rw [g1 9 (by omega) (by omega) (by omega)]; exact c2.1.2) (fun s1 f1 f2 f3 => ?_)
    have hS1 : cS s1 9 (dP D) (aPls (wlk (dA D)) (jall (dP D) (dA D) (wlk (dA D)) (pw (dP D))).1 (sall (dP D) (dA D) (jall (dP D) (dA D) (wlk (dA D)) (pw (dP D))).2 0)) := by
      refine ⟨⟨?_, f3⟩, fun k hk => ?_, fun k hk => ?_, fun k hk => ?_, fun t ht => ?_⟩
      · rw [f2 0 (by omega), g1 9 (by omega) (by omega) (by omega)]; exact c2.1.1
      · rw [f1 10 (by omega)]; exact h10 k hk
      · rw [f1 11 (by omega), g3 k hk, (wn_at (dA D) 4 k).2, if_pos hk]; rfl
      · rw [f1 12 (by omega), g1 12 (by omega) (by omega) (by omega)]; exact c2.2.2.2.1 k hk
      · rw [f1 13 (by omega), g1 13 (by omega) (by omega) (by omega)]; exact c2.2.2.2.2 t ht
    have fr1 : ∀ q, (q < 9 ∨ 13 < q) → q ≠ 140 → s1 q = σ q := fun q a b => by rw [f1 q (by omega), g1 q (by omega) (by omega) (by omega)]
    generalize hJ : jall (dP D) (dA D) (wlk (dA D)) (pw (dP D)) = J at hS1
    -- the spilling
    refine lup (fun j s => Wv E TC iX0_tick (d + 1 + 1 + 1 + 1 + 1) Q 43 [(0, .ref 139), (1, .int J.2), (2, .int (nI j))] [] s) (fun j s => cS s 9 (dP D) (aPls (wlk (dA D)) J.1 (sall (dP D) (dA D) J.2 j)) ∧ ∀ q, (q < 9 ∨ 13 < q) → q ≠ 140 → s q = σ q) (pw (dP D)) ?_ ?_ 0 s1 (Nat.zero_le _) ⟨hS1, fr1⟩
    · intro s2 ⟨k1, k2⟩
      refine bX0_tick_43 _ _ ?_
      rw [k2 1 (by omega) (by omega), show σ 1 3 = nI (pw (dP D)) from c1.1.2.2.2.1, if_pos (nI_le (Nat.le_refl _) (by omega))]
      refine h _ (hc.setA2 ?_ (fun q a b => ?_))
      · unfold tick
        rw [hJ]
        obtain ⟨m1, m2, m3, m4, m5⟩ := k1
        refine ⟨⟨?_, ?_⟩, fun k hk => ?_, fun k hk => ?_, fun k hk => ?_, fun t ht => ?_⟩
        · rw [uu1, m1.1]; rfl
        · rw [uu2 _ _ _ (by omega)]; exact m1.2
        · rw [uu3 _ _ _ (by omega)]; exact m2 k hk
        · rw [uu3 _ _ _ (by omega)]; exact m3 k hk
        · rw [uu3 _ _ _ (by omega)]; exact m4 k hk
        · rw [uu3 _ _ _ (by omega)]; exact m5 t ht
      · rw [uu3 _ _ _ (by omega)]
        exact k2 q a (fun z => b (by unfold cScr; omega))
    · intro j s2 hj ⟨k1, k2⟩ ih
      have cp2 : cP s2 1 (dP D) := c1.fr (fun q a b => k2 q (by omega) (by omega))
      have ok2 := okA_pls hP hA J.1 J.2 (Nat.le_of_lt hj)
      obtain ⟨t1, t2⟩ := sall_tray (C := aPls (wlk (dA D)) J.1 (sall (dP D) (dA D) J.2 j)) (k := j) hP rfl (Nat.le_refl j) hj
      have e1 : sall (dP D) (dA D) J.2 (j + 1) = sst (dP D) (dA D) J.2 j (sall (dP D) (dA D) J.2 j) := rfl
      rw [e1] at ih
      unfold sst at ih
      refine bX0_tick_43 _ _ ?_
      rw [k2 1 (by omega) (by omega), show σ 1 3 = nI (pw (dP D)) from c1.1.2.2.2.1, if_neg (nI_ge hj (by omega)), nI_1]
      refine sc_hasC (by omega) (fun hb => ?_) (fun hb => ?_)
      · rw [if_neg (by decide)]
        refine sC_slant hP cp2 ok2 k1 (by omega) ?_
        rw [t2, show s2 1 1 = nI (pe (dP D)) from cp2.1.2.1]
        by_cases hsl : slnt (dP D) (dA D) j ≤ nI (pe (dP D))
        · rw [if_pos hsl]
          rw [if_neg (fun q => q.2 hsl)] at ih
          exact ih s2 ⟨k1, k2⟩
        · rw [if_neg hsl]
          rw [if_pos ⟨hb, hsl⟩] at ih
          refine sC_tray hP ok2 k1 (by omega) ?_
          rw [t1]
          refine sC_heaviest hP cp2 (tray_sml hP (dA D) j) ?_
          unfold spl at ih
          cases hu : hv (dP D) (tray (dP D) (dA D) j) with
          | none =>
            rw [hu] at ih
            exact sc_put_m (ih s2 ⟨k1, k2⟩)
          | some u =>
            rw [hu] at ih
            have hu8 := (hv_in _ _ _ u hu).1
            have h88 := hP.1.2.2.2.2.1
            refine sc_put (t := u) (by omega) (ih _ ⟨?_, fun q a b => by rw [uu3 _ _ _ (by omega)]; exact k2 q a b⟩)
            exact k1.setPl
      · rw [if_pos rfl]
        rw [if_neg (fun q => by rw [hb] at q; cases q.1)] at ih
        exact ih s2 ⟨k1, k2⟩
  · intro j s hj ⟨g1, g2, g3, g4⟩ ih
    have ej : s 11 j = nI (aRt (dA D) j) := by rw [g3 j hj, (wn_at (dA D) j j).2, if_neg (Nat.lt_irrefl j)]
    have hrt := okA_rt hA j
    have wne : ∀ k, k ≠ j → aAt (wn (dA D) (j + 1)) k = aAt (wn (dA D) j) k ∧ aRt (wn (dA D) (j + 1)) k = aRt (wn (dA D) j) k := fun k hk => ⟨va_up_ne _ _ hk, va_up_ne _ _ hk⟩
    have weq : aAt (wn (dA D) (j + 1)) j = (if aRt (dA D) j = 0 then aAt (dA D) j else aRt (dA D) j % 10 - 1) ∧ aRt (wn (dA D) (j + 1)) j = aRt (dA D) j / 10 := by
      have := wn_at (dA D) (j + 1) j
      rw [if_pos (by omega), if_pos (by omega)] at this
      exact this
    have eat : j < pw (dP D) → s 10 j = nI (aAt (dA D) j) := fun q => by rw [g2 j q, (wn_at (dA D) j j).1, if_neg (Nat.lt_irrefl j)]
    refine bX0_tick_2 _ ?_
    rw [if_neg (nle_lit 4 hj (by decide)), vcl (by omega), nI_1]
    refine ⟨vin hj (by decide), vin hj (by decide), eX8_step _ (sc_isSeat hj ?_)⟩
    rw [if_neg (by decide), vcl (by omega), uu3 _ _ _ (show 11 ≠ 140 by omega), ej]
    refine ⟨vin hj (by decide), ?_⟩
    by_cases h0 : aRt (dA D) j = 0
    · rw [h0, if_pos (by decide)]
      refine ih _ ⟨fun q a b c => by rw [uu3 _ _ _ c]; exact g1 q a b c, fun k hk => ?_, fun k hk => ?_, fun k a b => ?_⟩
      · rw [uu3 _ _ _ (by omega)]
        by_cases q : k = j
        · subst q; rw [eat hk, weq.1, if_pos h0]
        · rw [(wne k q).1]; exact g2 k hk
      · rw [uu3 _ _ _ (by omega)]
        by_cases q : k = j
        · subst q; rw [ej, weq.2, h0]
        · rw [(wne k q).2]; exact g3 k hk
      · by_cases q : k = j
        · subst q; rw [uu1]; exact eat b
        · rw [uu2 _ _ _ q]; exact g4 k (by omega) b
    · have hjw : j < pw (dP D) := by
        rcases Nat.lt_or_ge j (pw (dP D)) with q | q
        · exact q
        · exact absurd (hA.2.2.1 j q) h0
      have hc9 := (hA.2.1 j hjw).2
      have hd1 : 1 ≤ aRt (dA D) j % 10 := by
        rcases hc9 with q | q
        · exact absurd q h0
        · exact q.1
      rw [if_neg (nI_nleL 0 (Nat.pos_of_ne_zero h0) (by omega)), uu3 _ _ _ (show 11 ≠ 10 by omega), uu3 _ _ _ (show 11 ≠ 140 by omega), ej, rem10 (by omega), div10 (by omega), nI_sub1 hd1]
      refine ⟨vin hj (by decide), vin hj (by decide), vin hj (by decide), vin hj (by decide), ih _ ⟨fun q a b c => by rw [uu3 _ _ _ b, uu3 _ _ _ a, uu3 _ _ _ c]; exact g1 q a b c, fun k hk => ?_, fun k hk => ?_, fun k a b => ?_⟩⟩
      · rw [uu3 _ _ _ (by omega)]
        by_cases q : k = j
        · subst q; rw [uu1, weq.1, if_neg h0]
        · rw [uu2 _ _ _ q, uu3 _ _ _ (by omega), (wne k q).1]; exact g2 k hk
      · by_cases q : k = j
        · subst q; rw [uu1, weq.2]
        · rw [uu2 _ _ _ q, uu3 _ _ _ (by omega), uu3 _ _ _ (by omega), (wne k q).2]; exact g3 k hk
      · rw [uu3 _ _ _ (by omega), uu3 _ _ _ (by omega)]
        by_cases q : k = j
        · subst q; rw [uu1]; exact eat b
        · rw [uu2 _ _ _ q]; exact g4 k (by omega) b
end CTK

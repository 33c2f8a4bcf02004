/-! ===== runs that make nothing: T stays ===== -/
abbrev rm_ (d : Nat) : Room := { frames := d, cells := 0, slots := 0, locals := 32 * d }
/-- of a method with an int for an answer, and of one without -/
abbrev Wi (E : tp_E) (T : tp_T) (M : tp_I) (d : Nat) (Q : Int32 → tp_M → Prop) (pc : Nat) (lv : List (Nat × Value)) (st : List Value) (σ : tp_M) : Prop := WP E false (rm_ d) M 0 0 (fun r T' σ' => T' = T ∧ ∃ x, r = some x ∧ Q x σ') pc lv st T σ
abbrev Wv (E : tp_E) (T : tp_T) (M : tp_I) (d : Nat) (Q : tp_M → Prop) (pc : Nat) (lv : List (Nat × Value)) (st : List Value) (σ : tp_M) : Prop := WP E false (rm_ d) M 0 0 (fun r T' σ' => T' = T ∧ r = none ∧ Q σ') pc lv st T σ
def Ci (E : tp_E) (T : tp_T) (y : MethodName) (M : tp_I) (d : Nat) (av : List Value) (σ : tp_M) (Q : Int32 → tp_M → Prop) : Prop := Ct E false (rm_ d) y M av T σ (fun r T' σ' => T' = T ∧ ∃ x, r = some x ∧ Q x σ')
def Cv (E : tp_E) (T : tp_T) (y : MethodName) (M : tp_I) (d : Nat) (av : List Value) (σ : tp_M) (Q : tp_M → Prop) : Prop := Ct E false (rm_ d) y M av T σ (fun r T' σ' => T' = T ∧ r = none ∧ Q σ')
section WNC
variable {E : tp_E} {M : tp_I} {d pc q : Nat} {Q : Option Int32 → tp_T → tp_M → Prop} {lv : List (Nat × Value)} {st rest : List Value} {T : tp_T} {σ : tp_M} {y : MethodName} {I : tp_I} {b : Nat} {As : List Value} {n idx : Nat}
theorem Ci.of {Q : Int32 → tp_M → Prop} {av : List Value} (hy : plainName y.cls = true ∧ y.cls = M.1 ∧ M.2.2.2.2 = false) (hl : (lg_sl av).length ≤ M.2.2.1) (h : Wi E T M d Q 0 (lv_args 0 av) [] σ) : Ci E T y M d av σ Q := Ct.of hy.1 hy.2.1 (fun h => by rw [hy.2.2] at h; cases h) hl h
theorem Cv.of {Q : tp_M → Prop} {av : List Value} (hy : plainName y.cls = true ∧ y.cls = M.1 ∧ M.2.2.2.2 = false) (hl : (lg_sl av).length ≤ M.2.2.1) (h : Wv E T M d Q 0 (lv_args 0 av) [] σ) : Cv E T y M d av σ Q := Ct.of hy.1 hy.2.1 (fun h => by rw [hy.2.2] at h; cases h) hl h
theorem wn_room (h : I.2.2.1 ≤ 13) : (rm_ d).frames + 1 ≤ (rm_ (d + 1)).frames ∧ 8 + (I.2.2.1 + 11) + (rm_ d).locals ≤ (rm_ (d + 1)).locals := ⟨Nat.le_refl _, by show 8 + (I.2.2.1 + 11) + 32 * d ≤ 32 * (d + 1); omega⟩
theorem wn_callVi (ci : Nat) (hv : cv_V M.1 idx ci y I n) (hL : I.2.2.1 ≤ 13) (hn : As.length = n) (hst : st = As.reverse ++ .ref b :: rest) (hw : (rest.map fun v => v.category).sum ≤ 8) (hb : b < T.1) (ht : (T.2.1 b).1 = ci) (hd : decode M.2.1 pc = .ok (.invokevirtual idx, 3)) (hq : pc + 3 = q)
    (hC : Ci E T y I d (.ref b :: As) σ (fun x σ' => WP E false (rm_ (d + 1)) M 0 0 Q q lv (.int x :: rest) T σ')) : WP E false (rm_ (d + 1)) M 0 0 Q pc lv st T σ :=
  wp_callV ci hv hn hst hw hb ht (wn_room hL) ⟨Nat.le_refl 0, Nat.le_refl 0⟩ hd hq hC (fun r T' σ' h => by obtain ⟨rfl, x, rfl, h⟩ := h; exact h)
theorem wn_callVv (ci : Nat) (hv : cv_V M.1 idx ci y I n) (hL : I.2.2.1 ≤ 13) (hn : As.length = n) (hst : st = As.reverse ++ .ref b :: rest) (hw : (rest.map fun v => v.category).sum ≤ 8) (hb : b < T.1) (ht : (T.2.1 b).1 = ci) (hd : decode M.2.1 pc = .ok (.invokevirtual idx, 3)) (hq : pc + 3 = q)
    (hC : Cv E T y I d (.ref b :: As) σ (fun σ' => WP E false (rm_ (d + 1)) M 0 0 Q q lv rest T σ')) : WP E false (rm_ (d + 1)) M 0 0 Q pc lv st T σ :=
  wp_callV ci hv hn hst hw hb ht (wn_room hL) ⟨Nat.le_refl 0, Nat.le_refl 0⟩ hd hq hC (fun r T' σ' h => by obtain ⟨rfl, rfl, h⟩ := h; exact h)
theorem wn_callSi (hv : cv_S M.1 idx y I n) (hL : I.2.2.1 ≤ 13) (hn : As.length = n) (hst : st = As.reverse ++ rest) (hw : (rest.map fun v => v.category).sum ≤ 8) (hd : decode M.2.1 pc = .ok (.invokestatic idx, 3)) (hq : pc + 3 = q)
    (hC : Ci E T y I d As σ (fun x σ' => WP E false (rm_ (d + 1)) M 0 0 Q q lv (.int x :: rest) T σ')) : WP E false (rm_ (d + 1)) M 0 0 Q pc lv st T σ :=
  wp_callS hv hn hst hw (wn_room hL) ⟨Nat.le_refl 0, Nat.le_refl 0⟩ hd hq hC (fun r T' σ' h => by obtain ⟨rfl, x, rfl, h⟩ := h; exact h)
theorem wn_callSv (hv : cv_S M.1 idx y I n) (hL : I.2.2.1 ≤ 13) (hn : As.length = n) (hst : st = As.reverse ++ rest) (hw : (rest.map fun v => v.category).sum ≤ 8) (hd : decode M.2.1 pc = .ok (.invokestatic idx, 3)) (hq : pc + 3 = q)
    (hC : Cv E T y I d As σ (fun σ' => WP E false (rm_ (d + 1)) M 0 0 Q q lv rest T σ')) : WP E false (rm_ (d + 1)) M 0 0 Q pc lv st T σ :=
  wp_callS hv hn hst hw (wn_room hL) ⟨Nat.le_refl 0, Nat.le_refl 0⟩ hd hq hC (fun r T' σ' h => by obtain ⟨rfl, rfl, h⟩ := h; exact h)
theorem wn_callNi (hv : cv_SN M.1 idx y I n) (hL : I.2.2.1 ≤ 13) (hn : As.length = n) (hst : st = As.reverse ++ rest) (hw : (rest.map fun v => v.category).sum ≤ 8) (hd : decode M.2.1 pc = .ok (.invokestatic idx, 3)) (hq : pc + 3 = q)
    (hC : Ci E T y I d As σ (fun x σ' => WP E false (rm_ (d + 1)) M 0 0 Q q lv (.int x :: rest) T σ')) : WP E false (rm_ (d + 1)) M 0 0 Q pc lv st T σ :=
  wp_callSN hv hn hst hw (wn_room hL) ⟨Nat.le_refl 0, Nat.le_refl 0⟩ hd hq hC (fun r T' σ' h => by obtain ⟨rfl, x, rfl, h⟩ := h; exact h)
theorem wn_callNv (hv : cv_SN M.1 idx y I n) (hL : I.2.2.1 ≤ 13) (hn : As.length = n) (hst : st = As.reverse ++ rest) (hw : (rest.map fun v => v.category).sum ≤ 8) (hd : decode M.2.1 pc = .ok (.invokestatic idx, 3)) (hq : pc + 3 = q)
    (hC : Cv E T y I d As σ (fun σ' => WP E false (rm_ (d + 1)) M 0 0 Q q lv rest T σ')) : WP E false (rm_ (d + 1)) M 0 0 Q pc lv st T σ :=
  wp_callSN hv hn hst hw (wn_room hL) ⟨Nat.le_refl 0, Nat.le_refl 0⟩ hd hq hC (fun r T' σ' h => by obtain ⟨rfl, rfl, h⟩ := h; exact h)
theorem wn_max {x z : Int32} (h1 : tb_in (.methodLink M.1 idx Lib.Math.max.name)) (h2 : tb_in (.static Lib.Math.max.name)) (h3 : tb_in (.initialized "java/lang/Math")) (h4 : tb_in (.code Lib.Math.max.name Lib.Math.max.code 2 (some .int))) (hw : (st.map fun v => v.category).sum ≤ 8) (hd : decode M.2.1 pc = .ok (.invokestatic idx, 3)) (hq : pc + 3 = q)
    (k : WP E false (rm_ (d + 1)) M 0 0 Q q lv (.int (if x < z then z else x) :: st) T σ) : WP E false (rm_ (d + 1)) M 0 0 Q pc lv (.int z :: .int x :: st) T σ := by
  subst hq
  intro p e s m args below meth c H locs ls A C hK hP hS hA hB hal hl
  have hts := C.2.2.2.2.2.1
  have hw2 := wp_catS (E := E) st hw
  exact va_mmax (rest := st.map (tp_v E.2.1)) C.1 C.2.1 (by rw [C.2.2.2.1]; exact hl.1.symm) C.2.2.2.2.1 (hts _ (tb_mem h1)) (hts _ (tb_mem h2)) (hts _ (tb_mem h3)) (hts _ (tb_mem h4)) (by show 1 ≤ d + 1; omega) (by show _ + 13 ≤ 32 * (d + 1); omega) (Nat.le_refl 0) (Nat.le_refl 0) hd (k p e s m args below meth c H locs ls A C hK hP hS hA hB hal hl)
theorem wn_min {x z : Int32} (h1 : tb_in (.methodLink M.1 idx Lib.Math.min.name)) (h2 : tb_in (.static Lib.Math.min.name)) (h3 : tb_in (.initialized "java/lang/Math")) (h4 : tb_in (.code Lib.Math.min.name Lib.Math.min.code 2 (some .int))) (hw : (st.map fun v => v.category).sum ≤ 8) (hd : decode M.2.1 pc = .ok (.invokestatic idx, 3)) (hq : pc + 3 = q)
    (k : WP E false (rm_ (d + 1)) M 0 0 Q q lv (.int (if z < x then z else x) :: st) T σ) : WP E false (rm_ (d + 1)) M 0 0 Q pc lv (.int z :: .int x :: st) T σ := by
  subst hq
  intro p e s m args below meth c H locs ls A C hK hP hS hA hB hal hl
  have hts := C.2.2.2.2.2.1
  have hw2 := wp_catS (E := E) st hw
  exact va_mmin (rest := st.map (tp_v E.2.1)) C.1 C.2.1 (by rw [C.2.2.2.1]; exact hl.1.symm) C.2.2.2.2.1 (hts _ (tb_mem h1)) (hts _ (tb_mem h2)) (hts _ (tb_mem h3)) (hts _ (tb_mem h4)) (by show 1 ≤ d + 1; omega) (by show _ + 13 ≤ 32 * (d + 1); omega) (Nat.le_refl 0) (Nat.le_refl 0) hd (k p e s m args below meth c H locs ls A C hK hP hS hA hB hal hl)
theorem wn_abs {x : Int32} (h1 : tb_in (.methodLink M.1 idx Lib.Math.abs.name)) (h2 : tb_in (.static Lib.Math.abs.name)) (h3 : tb_in (.initialized "java/lang/Math")) (h4 : tb_in (.code Lib.Math.abs.name Lib.Math.abs.code 1 (some .int))) (hw : (st.map fun v => v.category).sum ≤ 8) (hd : decode M.2.1 pc = .ok (.invokestatic idx, 3)) (hq : pc + 3 = q)
    (k : WP E false (rm_ (d + 1)) M 0 0 Q q lv (.int (if 0 ≤ x then x else 0 - x) :: st) T σ) : WP E false (rm_ (d + 1)) M 0 0 Q pc lv (.int x :: st) T σ := by
  subst hq
  intro p e s m args below meth c H locs ls A C hK hP hS hA hB hal hl
  have hts := C.2.2.2.2.2.1
  have hw2 := wp_catS (E := E) st hw
  exact va_mabs (rest := st.map (tp_v E.2.1)) C.1 C.2.1 (by rw [C.2.2.2.1]; exact hl.1.symm) C.2.2.2.2.1 (hts _ (tb_mem h1)) (hts _ (tb_mem h2)) (hts _ (tb_mem h3)) (hts _ (tb_mem h4)) (by show 1 ≤ d + 1; omega) (by show _ + 13 ≤ 32 * (d + 1); omega) (Nat.le_refl 0) (Nat.le_refl 0) hd (k p e s m args below meth c H locs ls A C hK hP hS hA hB hal hl)
theorem wn_copy {a0 a1 : Nat} {sp dp len : Int32} (h1 : tb_in (.methodLink M.1 idx arraycopyName)) (h2 : tb_in (.native arraycopyName)) (h3 : tb_in (.static arraycopyName)) (h4 : tb_in (.initialized "java/lang/System")) (hw : (st.map fun v => v.category).sum ≤ 8)
    (ho0 : a0 < T.1) (ht0 : (T.2.1 a0).1 = 11) (ho1 : a1 < T.1) (ht1 : (T.2.1 a1).1 = 11) (g1 : ¬ sp < 0) (g2 : ¬ dp < 0) (g3 : ¬ len < 0) (g4 : sp.toNatClampNeg + len.toNatClampNeg ≤ (T.2.1 a0).2) (g5 : dp.toNatClampNeg + len.toNatClampNeg ≤ (T.2.1 a1).2) (hd : decode M.2.1 pc = .ok (.invokestatic idx, 3)) (hq : pc + 3 = q)
    (k : WP E false (rm_ (d + 1)) M 0 0 Q q lv st T (tp_cp σ a0 a1 sp.toNatClampNeg dp.toNatClampNeg len.toNatClampNeg)) : WP E false (rm_ (d + 1)) M 0 0 Q pc lv (.int len :: .int dp :: .ref a1 :: .int sp :: .ref a0 :: st) T σ := by
  subst hq
  intro p e s m args below meth c H locs ls A C hK hP hS hA hB hal hl
  have hts := C.2.2.2.2.2.1
  have hw2 := wp_catS (E := E) st hw
  have hw0 := (tp_w_at (E := E) (σ := σ) ho0).trans (by rw [tp_e_prim (c := 0) ht0 (by decide)])
  have hw1 := (tp_w_at (E := E) (σ := σ) ho1).trans (by rw [tp_e_prim (c := 0) ht1 (by decide)])
  refine va_copyi (rest := st.map (tp_v E.2.1)) C.1 C.2.1 (by rw [C.2.2.2.1]; exact hl.1.symm) C.2.2.2.2.1 (hts _ (tb_mem h1)) (hts _ (tb_mem h2)) (hts _ (tb_mem h3)) (hts _ (tb_mem h4)) hK.1 hP (tp_D hB) hS a0 a1 0 0 hw0 hw1 rfl rfl rfl g1 g2 g3 g4 g5 (fun i hi => rfl) (by show 1 ≤ d + 1; omega) (by show _ + (7 + 11) ≤ 32 * (d + 1); omega) hd (fun H1 locs1 hP1 hD1 hS1 => ?_)
  refine k p e s m args below meth c H1 locs1 ls A C hK ?_ hS1 hA hB (fun h => by cases h) hl
  have hw9 : (tp_w E T σ).set a1 (E.2.1 + a1, .inl (E.2.2.2.2 0, (T.2.1 a1).2, .inl (va_cpy (σ a0) (σ a1) sp.toNatClampNeg dp.toNatClampNeg len.toNatClampNeg))) = tp_w E T (tp_cp σ a0 a1 sp.toNatClampNeg dp.toNatClampNeg len.toNatClampNeg) := by
    refine tp_set rfl ?_ (fun j hj => tp_e_ext rfl rfl (by simp [tp_cp, hj]))
    rw [tp_e_prim (c := 0) ht1 (by decide)]
    simp [tp_cp]
  show va_P _ _ (tp_w E T _) H1
  rw [← hw9]
  exact hP1
end WNC

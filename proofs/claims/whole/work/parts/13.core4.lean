/-! ===== what is made, and calls ===== -/
def cv_V (own : String) (idx ci : Nat) (y : MethodName) (I : tp_I) (n : Nat) : Prop :=
  (tb_in (.methodLink own idx y) ∧ tb_in (.instanceMethod y) ∧ tb_in (.selects y.cls y y) ∧ tb_in (.initialized y.cls) ∧ tb_in (.code y I.2.1 I.2.2.1 I.2.2.2.1)) ∧ ((vwCl[ci]?).map (fun r => r.1) = some y.cls ∧ ci < 11) ∧ (y.cls ≠ "java/lang/invoke/MethodHandle" ∧ y.cls ≠ "java/lang/invoke/VarHandle" ∧ (parseMethodDescriptor y.desc).map (fun d => d.parameters.length) = some n)
def cv_S (own : String) (idx : Nat) (y : MethodName) (I : tp_I) (n : Nat) : Prop :=
  (tb_in (.methodLink own idx y) ∧ tb_in (.static y) ∧ tb_in (.initialized y.cls) ∧ tb_in (.code y I.2.1 I.2.2.1 I.2.2.2.1)) ∧ (y.cls ≠ "java/lang/invoke/MethodHandle" ∧ y.cls ≠ "java/lang/invoke/VarHandle" ∧ (parseMethodDescriptor y.desc).map (fun d => d.parameters.length) = some n)
def cv_SN (own : String) (idx : Nat) (y : MethodName) (I : tp_I) (n : Nat) : Prop :=
  ((∃ host, (own, idx, y, host) ∈ tb_N) ∧ tb_in (.static y) ∧ tb_in (.initialized y.cls) ∧ tb_in (.code y I.2.1 I.2.2.1 I.2.2.2.1)) ∧ (y.cls ≠ "java/lang/invoke/MethodHandle" ∧ y.cls ≠ "java/lang/invoke/VarHandle" ∧ (parseMethodDescriptor y.desc).map (fun d => d.parameters.length) = some n)
def cv_I (own : String) (idx : Nat) (y : MethodName) (I : tp_I) (n : Nat) : Prop :=
  (tb_in (.methodLink own idx y) ∧ tb_in (.instanceMethod y) ∧ tb_in (.initialized y.cls) ∧ tb_in (.code y I.2.1 I.2.2.1 none)) ∧ (y.name = "<init>" ∧ I.2.2.2.1 = none) ∧ (y.cls ≠ "java/lang/invoke/MethodHandle" ∧ y.cls ≠ "java/lang/invoke/VarHandle" ∧ (parseMethodDescriptor y.desc).map (fun d => d.parameters.length) = some n)
def cv_IN (own : String) (idx : Nat) (y : MethodName) (I : tp_I) (n : Nat) : Prop :=
  ((∃ host, (own, idx, y, host) ∈ tb_N) ∧ tb_in (.instanceMethod y) ∧ tb_in (.initialized y.cls) ∧ tb_in (.code y I.2.1 I.2.2.1 none)) ∧ (y.name = "<init>" ∧ I.2.2.2.1 = none) ∧ (y.cls ≠ "java/lang/invoke/MethodHandle" ∧ y.cls ≠ "java/lang/invoke/VarHandle" ∧ (parseMethodDescriptor y.desc).map (fun d => d.parameters.length) = some n)
section WPC
variable {E : tp_E} {al : Bool} {R : Room} {M : tp_I} {ce sl pc q : Nat} {Q : Option Int32 → tp_T → tp_M → Prop} {lv lv' : List (Nat × Value)} {st : List Value} {T T' : tp_T} {σ σ' : tp_M}
theorem tp_grow {A : Nat → Prop} {s : State} {H H1 : Heap} {locs : List Loc} (hS : va_S A s.heap H locs) (z : H1.size = H.size + 1) (o1 : ∀ q : Nat, q < H.size → H1[q]? = H[q]?) : va_S A s.heap H1 locs := ⟨Nat.le_trans hS.1 (by omega), fun x h1 h2 => (o1 x (Nat.lt_of_lt_of_le h1 hS.1)).trans (hS.2.1 x h1 h2), hS.2.2⟩
theorem tp_e_new (kd n : Nat) (j : Nat) (h : j < T.1) : tp_e E (tp_nT T kd n) (tp_nM σ T.1) j = tp_e E T σ j := by
  have h2 : j ≠ T.1 := by omega
  exact tp_e_ext (by simp [tp_nT, va_up, h2]) (by simp [tp_nT, va_up, h2]) (by simp [tp_nM, va_up, h2])
theorem wp_new {idx : Nat} (ci : Nat) {r : vw_C} {ty : Nat → FieldType} (hC : cv_C ci r ty) (hcl : tb_in (.classLink M.1 idx r.1)) (hin : tb_in (.instantiable r.1 r.2.2)) (hini : tb_in (.initialized r.1)) (hdf : ∀ j, j < r.2.2 → defaultValue (ty j) = if tp_isr ci j = true then .null else .int 0) (hce : ce + 1 ≤ R.cells) (hsl : sl + tp_nf ci ≤ R.slots) (hd : decode M.2.1 pc = .ok (.new idx, 3)) (hq : pc + 3 = q)
    (kk : WP E true R M (ce + 1) (sl + tp_nf ci) Q q lv (.ref T.1 :: st) (tp_nT T ci 0) (tp_nM σ T.1)) : WP E true R M ce sl Q pc lv st T σ := by
  subst hq
  intro p e s m args below meth c H locs ls A C hK hP hS hA hB hal hl
  have hts := C.2.2.2.2.2.1
  have hKn := hK.1.1 ci _ hC.1
  have hz := hal rfl
  refine W.newcK (n := r.2.2) C.1 C.2.1 C.2.2.2.2.1 (hts _ (tb_mem hcl)) (hts _ (tb_mem hin)) (hts _ (tb_mem hini)) rfl hd hce (by rw [hC.2.2.1]; exact hsl) hKn.2.1 rfl fun H1 kC hkC e1 z1 o1 => ?_
  rw [hC.2.2.1]
  have key := kk p e s m args below meth c H1 locs ls A C hK (tp_pushP (e' := tp_e E (tp_nT T ci 0) (tp_nM σ T.1) T.1) hP rfl ?_ (fun j hj => tp_e_new ci 0 j hj) o1) (tp_grow hS z1 o1) hA (fun i hi => ?_) (fun _ => by rw [z1, hz]; show _ = E.2.1 + (T.1 + 1); omega) hl
  · rw [hz]
    exact key
  · rw [tp_e_obj (T := tp_nT T ci 0) (c := ci) (by simp [tp_nT, va_up]) hC.2.1]
    refine ⟨_, hC.1, ?_⟩
    rw [← hz]
    refine (u_born ty hts hC.2.2.2.1 hKn hkC e1 hC.2.2.2.2.1).to (fun j hj => ?_)
    have hj2 : j < tp_nf ci := by rw [← hC.2.2.1]; exact hj
    rw [hdf j hj]
    unfold vp_V
    rw [List.getD_eq_getElem?_getD]
    cases hr : tp_isr ci j
    · rw [tp_fs_i hj2 hr]
      simp [tp_nM, va_up]
    · rw [tp_fs_r hj2 hr]
      simp [tp_nT, va_up, va_rf]
  · by_cases h : i < T.1
    · exact hB i h
    · exact hA _ (by have h1 := hS.1; have h2 : i < T.1 + 1 := hi; omega)
theorem wp_newa {n : Int32} {N : Nat} {atype : ArrayType} (c0 : Nat) (h0 : c0 < 3) (hty : (tp_tys E)[c0]? = some (E.2.2.2.2 c0, newarray.typeOf atype)) (hdv : defaultValue (newarray.typeOf atype) = .int 0) (hfc : ∀ (s : State) (cA : ClassId), va_RA s cA (newarray.typeOf atype) → s.vm.findClass ("[" ++ (newarray.typeOf atype).toString) = some cA) (hac : tb_in (.arrayClass (newarray.typeOf atype))) (hn : ¬ n < 0) (hN : n.toNatClampNeg = N) (hby : N * componentBytes (newarray.typeOf atype) ≤ 536870912) (hce : ce + 1 ≤ R.cells) (hsl : sl + N ≤ R.slots) (hd : decode M.2.1 pc = .ok (.newarray atype, 2)) (hq : pc + 2 = q)
    (kk : WP E true R M (ce + 1) (sl + N) Q q lv (.ref T.1 :: st) (tp_nT T (c0 + 11) N) (tp_nM σ T.1)) : WP E true R M ce sl Q pc lv (.int n :: st) T σ := by
  subst hq
  intro p e s m args below meth c H locs ls A C hK hP hS hA hB hal hl
  have hts := C.2.2.2.2.2.1
  have hz := hal rfl
  refine va_newaK C.1 C.2.1 (hts _ (tb_mem hac)) rfl hd rfl hn hN hby hce hsl rfl fun H1 cA e1 z1 o1 hAr hNm => ?_
  have hcy : cA = E.2.2.2.2 c0 := Option.some.inj (hNm.symm.trans (hfc s _ (hK.1.2 c0 _ hty).2))
  have key := kk p e s m args below meth c H1 locs ls A C hK (tp_pushP (e' := tp_e E (tp_nT T (c0 + 11) N) (tp_nM σ T.1) T.1) hP rfl ?_ (fun j hj => tp_e_new (c0 + 11) N j hj) o1) (tp_grow hS z1 o1) hA (fun i hi => ?_) (fun _ => by rw [z1, hz]; show _ = E.2.1 + (T.1 + 1); omega) hl
  · rw [hz]
    exact key
  · rw [tp_e_prim (T := tp_nT T (c0 + 11) N) (c := c0) (by simp [tp_nT, va_up]) h0]
    show H1[E.2.1 + T.1]? = some (vp_cell _ _)
    rw [← hz, e1, vp_cell_i, hcy, hdv]
    simp [tp_nT, tp_nM, va_up]
  · by_cases h : i < T.1
    · exact hB i h
    · exact hA _ (by have h1 := hS.1; have h2 : i < T.1 + 1 := hi; omega)
theorem wp_anew {n : Int32} {N idx : Nat} (c0 : Nat) (C0 : String) (h0 : 3 ≤ c0) (hty : (tp_tys E)[c0]? = some (E.2.2.2.2 c0, .object C0)) (hao : ∀ s, tp_N s → va_AO C0 s) (hcl : tb_in (.classLink M.1 idx C0)) (hn : ¬ n < 0) (hN : n.toNatClampNeg = N) (hby : N * 4 ≤ 536870912) (hce : ce + 1 ≤ R.cells) (hsl : sl + N ≤ R.slots) (hd : decode M.2.1 pc = .ok (.anewarray idx, 3)) (hq : pc + 3 = q)
    (kk : WP E true R M (ce + 1) (sl + N) Q q lv (.ref T.1 :: st) (tp_nT T (c0 + 11) N) (tp_nM σ T.1)) : WP E true R M ce sl Q pc lv (.int n :: st) T σ := by
  subst hq
  subst hN
  intro p e s m args below meth c H locs ls A C hK hP hS hA hB hal hl
  have hts := C.2.2.2.2.2.1
  have hz := hal rfl
  refine W.anew C.1 C.2.1 C.2.2.2.2.1 (hts _ (tb_mem hcl)) (va_AO.use (hao s hK.2)) rfl hd rfl hn hby hce hsl fun cA kA comp f1 f2 f3 f4 => ?_
  generalize hH1 : H.push ({ cls := cA, slots := Array.replicate n.toNatClampNeg .null, vm := .none } : Cell) = H1
  have z1 : H1.size = H.size + 1 := by rw [← hH1, Array.size_push]
  have e1 : H1[H.size]? = some (arrV cA n.toNatClampNeg (fun _ => .null)) := by rw [← hH1, Array.getElem?_push_size, ← arrV_new]
  have o1 : ∀ q : Nat, q < H.size → H1[q]? = H[q]? := fun q hq => by rw [← hH1, Array.getElem?_push, if_neg (Nat.ne_of_lt hq)]
  obtain ⟨kA', comp', -, -, -, g4⟩ := (hK.1.2 c0 _ hty).2
  have hcy : cA = E.2.2.2.2 c0 := Option.some.inj (f1.symm.trans g4)
  have key := kk p e s m args below meth c H1 locs ls A C hK (tp_pushP (e' := tp_e E (tp_nT T (c0 + 11) n.toNatClampNeg) (tp_nM σ T.1) T.1) hP rfl ?_ (fun j hj => tp_e_new (c0 + 11) _ j hj) o1) (tp_grow hS z1 o1) hA (fun i hi => ?_) (fun _ => by rw [z1, hz]; show _ = E.2.1 + (T.1 + 1); omega) hl
  · rw [hz]
    exact key
  · rw [tp_e_refs (T := tp_nT T (c0 + 11) n.toNatClampNeg) (c := c0) (by simp [tp_nT, va_up]) h0]
    show H1[E.2.1 + T.1]? = some (vp_cell _ _)
    rw [← hz, e1, vp_cell_q, hcy]
    simp [tp_nT, va_up, va_rf]
  · by_cases h : i < T.1
    · exact hB i h
    · exact hA _ (by have h1 := hS.1; have h2 : i < T.1 + 1 := hi; omega)
theorem wp_aast {o v : Nat} {i : Int32} (c0 ci : Nat) {r : vw_C} (h0 : 3 ≤ c0) (hc : vwCl[ci]? = some r) (hci : ci < 11) (hty : (tp_tys E)[c0]? = some (E.2.2.2.2 c0, .object r.1)) (ho : o < T.1) (ht : (T.2.1 o).1 = c0 + 11) (hv : v < T.1) (htv : (T.2.1 v).1 = ci) (hin : vp_in i (T.2.1 o).2) (hd : decode M.2.1 pc = .ok (.aastore, 1)) (hq : pc + 1 = q)
    (kk : WP E al R M ce sl Q q lv st (tp_ur T o i.toNatClampNeg v) σ) : WP E al R M ce sl Q pc lv (.ref v :: .int i :: .ref o :: st) T σ := by
  subst hq
  intro p e s m args below meth c H locs ls A C hK hP hS hA hB hal hl
  have hlt : i.toNatClampNeg < (T.2.1 o).2 := Nat.not_le.mp fun q => hin (Or.inr q)
  have hi0 : ¬ i < 0 := fun q => hin (Or.inl q)
  have hw := (tp_w_at (E := E) (σ := σ) ho).trans (by rw [tp_e_refs (c := c0) ht h0])
  have hwv := (tp_w_at (E := E) (σ := σ) hv).trans (by rw [tp_e_obj htv hci])
  obtain ⟨r', hr', cellV, g1, g2, g3, -⟩ := hP v _ hwv
  have hcls := (hK.1.1 ci r hc).2
  obtain ⟨kA, comp, k1, k2, k3, -⟩ := (hK.1.2 c0 _ hty).2
  have hcomp : comp = E.2.2.1 ci := Option.some.inj (k3.symm.trans hcls.1)
  subst hcomp
  obtain ⟨kC, hkC, -⟩ := hcls.2
  refine W.aast C.1 C.2.1 (hP o _ hw) (fun q h => by cases h) (fun h => by cases h) k1 k2 rfl hkC ⟨hi0, by show _ < (arrV _ _ _).slots.size; rw [arrV_size]; exact hlt⟩ g1 (fun q h => by rw [g3] at h; cases h) (by rw [g2]; exact hkC) (by rw [g2]; exact va_assign hcls) rfl rfl hd fun H1 e1 z oq => ?_
  refine kk p e s m args below meth c H1 _ ls A C hK (tp_put hP rfl (o := o) ?_ (fun j hj => tp_e_ext rfl (by simp [tp_ur, hj]) rfl) oq) (hS.put z oq (hB o ho)) hA hB (fun h => by rw [z]; exact hal h) hl
  rw [tp_e_refs (T := tp_ur T o i.toNatClampNeg v) (c := c0) ht h0]
  show H1[E.2.1 + o]? = some (vp_cell _ _)
  rw [e1, vp_cell_q, vp_cell_q, arrV_store]
  congr 2
  funext z
  by_cases hz : z = i.toNatClampNeg
  · subst hz
    simp [updV, va_up, va_rf, tp_ur]
  · simp [updV, va_up, tp_ur, hz]
theorem wp_objInit {a idx : Nat} (hl0 : tb_in (.methodLink M.1 idx Lib.objectInit)) (hi0 : tb_in (.instanceMethod Lib.objectInit)) (hc0 : tb_in (.code Lib.objectInit ⟨#[0xb1]⟩ 1 none)) (hf : 1 ≤ R.frames) (hlo : (st.map fun v => v.category).sum + 12 ≤ R.locals) (hd : decode M.2.1 pc = .ok (.invokespecial idx, 3)) (hq : pc + 3 = q) (kk : WP E al R M ce sl Q q lv st T σ) : WP E al R M ce sl Q pc lv (.ref a :: st) T σ := by
  subst hq
  intro p e s m args below meth c H locs ls A C hK hP hS hA hB hal hl
  have hts := C.2.2.2.2.2.1
  have hcat : ((st.map (tp_v E.2.1)).map fun v => v.category).sum = (st.map fun v => v.category).sum := by
    rw [List.map_map]
    congr 1
    apply List.map_congr_left
    intro v _
    exact tp_v_cat _ v
  refine W.objInit C.1 C.2.1 C.2.2.2.2.1 (hts _ (tb_mem hl0)) (hts _ (tb_mem hi0)) (hts _ (tb_mem hc0)) (rest := st.map (tp_v E.2.1)) rfl (by rw [C.2.2.2.1]; exact hl.1) rfl hd hf (by show 2 * 0 + _ + 12 ≤ _; rw [hcat]; omega) ?_
  exact kk p e s m args below meth c H locs ls A C hK hP hS hA hB hal hl
theorem wp_after {p : Program} {e : Env} {s : State} {m : MethodId} {args : Array Value} {below : List Frame} {meth : Method} {c : Code} {H : Heap} {locs : List Loc} {ls : Array Slot} {Qf : State → Prop} {rest st0 : List Value} {Q' : Option Int32 → tp_T → tp_M → Prop} {mc ms : Nat} {A A1 : Nat → Prop} {a : Array Value}
    (hr : va_Run p E.1 e R s m args below meth c H locs ce sl mc ms (F0 m pc ls st0) rest (wp_Qc E al A1 Q' a) A1) (hS : va_S A s.heap H locs) (hA : ∀ q, A1 q → A q)
    (kk : ∀ (r : Option Int32) (T' : tp_T) (σ' : tp_M) (H1 : Heap) (locs1 : List Loc), Q' r T' σ' → tp_P E T' σ' H1 → (∀ i, i < T'.1 → A1 (E.2.1 + i)) → (al = true → H1.size = E.2.1 + T'.1) → (∀ q : Nat, q < H.size → ¬ A1 q → H1[q]? = H[q]?) → va_S A s.heap H1 locs1 → W p E.1 e R s m args below meth c H1 locs1 (ce + mc) (sl + ms) Qf (F0 m (pc + 3) ls ((r.map Value.int).toList ++ rest))) : W p E.1 e R s m args below meth c H locs ce sl Qf (F0 m pc ls st0) := by
  intro T0 hT X
  obtain ⟨v, st₀, t, T1, L, h0, X', hL, e1, e2, ⟨⟨r, T', σ', hv, hq, hp, hi, hal⟩, hz, hk⟩, stp⟩ := hr T0 hT X
  have hv : v = r.map Value.int := by cases hv; rfl
  subst hv
  rw [h0] at hz hk
  obtain ⟨t2, a1, b1⟩ := kk r T' σ' T1.heap (locs ++ L) hq (by rw [e1]; exact hp) hi (fun h => by rw [e1]; exact hal h) (fun q h1 h2 => by rw [e1]; exact hk q h1 h2)
    ⟨Nat.le_trans hS.1 (by rw [e1]; exact hz), fun q h1 h2 => by rw [e1, hk q (Nat.lt_of_lt_of_le h1 hS.1) (fun z => h2 (hA q z))]; exact hS.2.1 q h1 h2, fun q hq => by
      rcases List.mem_append.mp hq with h | h
      · exact hS.2.2 q h
      · exact hA _ (hL q h)⟩ T1 rfl X'
  exact ⟨t2, stp t2 a1, b1⟩
theorem wp_blind {av : List Value} {sz : Nat} : FrameBlind (va_Pc (av.map (tp_v E.2.1)) (fun U => U.heap.size = sz ∧ tp_P E T σ U.heap ∧ tp_K E U ∧ (al = true → sz = E.2.1 + T.1))) := fun a U g mk q => by
  obtain ⟨q0, q1, qP, qK, qal⟩ := q
  exact ⟨q0, q1, qP, tp_K.same rfl qK, qal⟩
theorem wp_catS (rest : List Value) (h : (rest.map fun v => v.category).sum ≤ 8) : ((rest.map (tp_v E.2.1)).map fun v => v.category).sum ≤ 8 := by
  rw [List.map_map]
  have : (rest.map ((fun v => v.category) ∘ tp_v E.2.1)) = rest.map fun v => v.category := by
    apply List.map_congr_left
    intro v _
    exact tp_v_cat _ v
  rw [this]
  exact h
theorem wp_stk (r : Option Int32) (rest : List Value) : ((r.map Value.int).toList ++ rest).map (tp_v E.2.1) = (r.map Value.int).toList ++ rest.map (tp_v E.2.1) := by cases r <;> rfl
theorem wp_callV {y : MethodName} {I : tp_I} {rm : Room} {b : Nat} {As rest : List Value} {Q' : Option Int32 → tp_T → tp_M → Prop} {n idx : Nat} (ci : Nat) (hv : cv_V M.1 idx ci y I n) (hn : As.length = n) (hst : st = As.reverse ++ .ref b :: rest) (hw : (rest.map fun v => v.category).sum ≤ 8) (hb : b < T.1) (ht : (T.2.1 b).1 = ci) (hR : rm.frames + 1 ≤ R.frames ∧ 8 + (I.2.2.1 + 11) + rm.locals ≤ R.locals) (hm : ce + rm.cells ≤ R.cells ∧ sl + rm.slots ≤ R.slots) (hd : decode M.2.1 pc = .ok (.invokevirtual idx, 3)) (hq : pc + 3 = q)
    (hC : Ct E al rm y I (.ref b :: As) T σ Q') (kk : ∀ r T' σ', Q' r T' σ' → WP E al R M (ce + rm.cells) (sl + rm.slots) Q q lv ((r.map Value.int).toList ++ rest) T' σ') : WP E al R M ce sl Q pc lv st T σ := by
  subst hq
  subst hst
  intro p e s m args below meth c H locs ls A C hK hP hS hA hB hal hl
  have hts := C.2.2.2.2.2.1
  obtain ⟨⟨v1, v2, v3, v4, v5⟩, ⟨hcl, hci⟩, hd3⟩ := hv
  obtain ⟨r0, hr0, hr1⟩ : ∃ r0, vwCl[ci]? = some r0 ∧ r0.1 = y.cls := by
    cases h : vwCl[ci]? with
    | none => rw [h] at hcl; cases hcl
    | some r0 => rw [h] at hcl; exact ⟨r0, rfl, Option.some.inj hcl⟩
  have hA1 : ∀ q, wp_A E.2.1 T.1 H.size q → A q := fun q h => h.elim (fun ⟨i, hi, e⟩ => by rw [e]; exact hB i hi) (fun h => hA q (Nat.le_trans hS.1 h))
  have hcode : ∀ w ∈ (Cond.code y I.2.1 I.2.2.1 I.2.2.2.1 :: tb_T), w ∈ tb_T := fun w hw => (List.mem_cons.mp hw).elim (fun h => by rw [h]; exact tb_mem v5) (fun h => h)
  refine wp_after (va_runV (As := As.map (tp_v E.2.1)) (rest := rest.map (tp_v E.2.1)) (b := E.2.1 + b) (C := y.cls) ⟨C.1, C.2.1, C.2.2.2.1, C.2.2.2.2.1, hts⟩ (hC H.size)
    (cwV n hts (tb_goodIn (fun w hw => ?_)) rfl rfl rfl ⟨rfl, hd3⟩ hR) ⟨wp_blind, ?_, fun U hU hW => ⟨rfl, by rw [hU], by rw [hU]; exact hP, tp_K.warm hW hK, hal⟩⟩ rfl (by rw [List.length_map]; exact hn) hl.1 ?_ (lv_room (wp_catS rest hw)) hd hm) hS hA1 (fun r T' σ' H1 locs1 hq hp hi hal hkp hS => ?_)
  · unfold wsV at hw
    rcases List.mem_append.mp hw with h | h
    · simp only [List.mem_cons, List.not_mem_nil, or_false] at h
      rcases h with rfl | rfl | rfl | rfl
      · exact tb_mem v1
      · exact tb_mem v2
      · exact tb_mem v3
      · exact tb_mem v4
    · exact hcode w h
  · have := va_recv hK.1 hP hr0 ((tp_w_at hb).trans (by rw [tp_e_obj ht hci]))
    rw [hr1] at this
    exact this
  · show List.map _ _ = _
    rw [List.map_append, List.map_reverse]
    rfl
  · have key := kk r T' σ' hq p e s m args below meth c H1 locs1 ls A C hK hp hS hA (fun i h => hA1 _ (hi i h)) hal hl
    rw [wp_stk] at key
    exact key
theorem wp_callS {y : MethodName} {I : tp_I} {rm : Room} {As rest : List Value} {Q' : Option Int32 → tp_T → tp_M → Prop} {n idx : Nat} (hv : cv_S M.1 idx y I n) (hn : As.length = n) (hst : st = As.reverse ++ rest) (hw : (rest.map fun v => v.category).sum ≤ 8) (hR : rm.frames + 1 ≤ R.frames ∧ 8 + (I.2.2.1 + 11) + rm.locals ≤ R.locals) (hm : ce + rm.cells ≤ R.cells ∧ sl + rm.slots ≤ R.slots) (hd : decode M.2.1 pc = .ok (.invokestatic idx, 3)) (hq : pc + 3 = q)
    (hC : Ct E al rm y I As T σ Q') (kk : ∀ r T' σ', Q' r T' σ' → WP E al R M (ce + rm.cells) (sl + rm.slots) Q q lv ((r.map Value.int).toList ++ rest) T' σ') : WP E al R M ce sl Q pc lv st T σ := by
  subst hq
  subst hst
  intro p e s m args below meth c H locs ls A C hK hP hS hA hB hal hl
  have hts := C.2.2.2.2.2.1
  obtain ⟨⟨v1, v2, v4, v5⟩, hd3⟩ := hv
  have hA1 : ∀ q, wp_A E.2.1 T.1 H.size q → A q := fun q h => h.elim (fun ⟨i, hi, e⟩ => by rw [e]; exact hB i hi) (fun h => hA q (Nat.le_trans hS.1 h))
  have hcode : ∀ w ∈ (Cond.code y I.2.1 I.2.2.1 I.2.2.2.1 :: tb_T), w ∈ tb_T := fun w hw => (List.mem_cons.mp hw).elim (fun h => by rw [h]; exact tb_mem v5) (fun h => h)
  refine wp_after (va_runS (As := As.map (tp_v E.2.1)) (rest := rest.map (tp_v E.2.1)) ⟨C.1, C.2.1, C.2.2.2.1, C.2.2.2.2.1, hts⟩ (hC H.size)
    ⟨callB_of n hts (tb_goodIn hcode) rfl rfl rfl (hts _ (tb_mem v4)) (hts _ (tb_mem v1)) hd3 hR, hts _ (tb_mem v2)⟩ ⟨wp_blind, fun U hU hW => ⟨rfl, by rw [hU], by rw [hU]; exact hP, tp_K.warm hW hK, hal⟩⟩ rfl (by rw [List.length_map]; exact hn) hl.1 ?_ (lv_room (wp_catS rest hw)) hd hm) hS hA1 (fun r T' σ' H1 locs1 hq hp hi hal hkp hS => ?_)
  · show List.map _ _ = _
    rw [List.map_append, List.map_reverse]
  · have key := kk r T' σ' hq p e s m args below meth c H1 locs1 ls A C hK hp hS hA (fun i h => hA1 _ (hi i h)) hal hl
    rw [wp_stk] at key
    exact key
theorem wp_callSN {y : MethodName} {I : tp_I} {rm : Room} {As rest : List Value} {Q' : Option Int32 → tp_T → tp_M → Prop} {n idx : Nat} (hv : cv_SN M.1 idx y I n) (hn : As.length = n) (hst : st = As.reverse ++ rest) (hw : (rest.map fun v => v.category).sum ≤ 8) (hR : rm.frames + 1 ≤ R.frames ∧ 8 + (I.2.2.1 + 11) + rm.locals ≤ R.locals) (hm : ce + rm.cells ≤ R.cells ∧ sl + rm.slots ≤ R.slots) (hd : decode M.2.1 pc = .ok (.invokestatic idx, 3)) (hq : pc + 3 = q)
    (hC : Ct E al rm y I As T σ Q') (kk : ∀ r T' σ', Q' r T' σ' → WP E al R M (ce + rm.cells) (sl + rm.slots) Q q lv ((r.map Value.int).toList ++ rest) T' σ') : WP E al R M ce sl Q pc lv st T σ := by
  subst hq
  subst hst
  intro p e s m args below meth c H locs ls A C hK hP hS hA hB hal hl
  have hts := C.2.2.2.2.2.1
  obtain ⟨⟨⟨host, v1⟩, v2, v4, v5⟩, hd3⟩ := hv
  have hA1 : ∀ q, wp_A E.2.1 T.1 H.size q → A q := fun q h => h.elim (fun ⟨i, hi, e⟩ => by rw [e]; exact hB i hi) (fun h => hA q (Nat.le_trans hS.1 h))
  have hcode : ∀ w ∈ (Cond.code y I.2.1 I.2.2.1 I.2.2.2.1 :: tb_T), w ∈ tb_T := fun w hw => (List.mem_cons.mp hw).elim (fun h => by rw [h]; exact tb_mem v5) (fun h => h)
  refine wp_after (va_runSN (As := As.map (tp_v E.2.1)) (rest := rest.map (tp_v E.2.1)) (host := host) ⟨C.1, C.2.1, C.2.2.2.1, C.2.2.2.2.1, hts⟩ (hC H.size)
    ⟨va_cnB n hts (tb_goodIn hcode) rfl rfl rfl (hK.2.1 _ v1) (hts _ (tb_mem v4)) hd3 hR, hts _ (tb_mem v2), trivial⟩ ⟨wp_blind, fun U hU hW => ⟨rfl, by rw [hU], by rw [hU]; exact hP, tp_K.warm hW hK, hal⟩⟩ rfl (by rw [List.length_map]; exact hn) hl.1 ?_ (lv_room (wp_catS rest hw)) hd hm) hS hA1 (fun r T' σ' H1 locs1 hq hp hi hal hkp hS => ?_)
  · show List.map _ _ = _
    rw [List.map_append, List.map_reverse]
  · have key := kk r T' σ' hq p e s m args below meth c H1 locs1 ls A C hK hp hS hA (fun i h => hA1 _ (hi i h)) hal hl
    rw [wp_stk] at key
    exact key
theorem wp_callI {y : MethodName} {I : tp_I} {rm : Room} {b : Nat} {As rest : List Value} {Q' : Option Int32 → tp_T → tp_M → Prop} {n idx : Nat} (hv : cv_I M.1 idx y I n) (hn : As.length = n) (hst : st = As.reverse ++ .ref b :: rest) (hw : (rest.map fun v => v.category).sum ≤ 8) (hR : rm.frames + 1 ≤ R.frames ∧ 8 + (I.2.2.1 + 11) + rm.locals ≤ R.locals) (hm : ce + rm.cells ≤ R.cells ∧ sl + rm.slots ≤ R.slots) (hd : decode M.2.1 pc = .ok (.invokespecial idx, 3)) (hq : pc + 3 = q)
    (hC : Ct E al rm y I (.ref b :: As) T σ Q') (kk : ∀ r T' σ', Q' r T' σ' → WP E al R M (ce + rm.cells) (sl + rm.slots) Q q lv ((r.map Value.int).toList ++ rest) T' σ') : WP E al R M ce sl Q pc lv st T σ := by
  subst hq
  subst hst
  intro p e s m args below meth c H locs ls A C hK hP hS hA hB hal hl
  have hts := C.2.2.2.2.2.1
  obtain ⟨⟨v1, v2, v4, v5⟩, ⟨hnm, hrt⟩, hd3⟩ := hv
  have hA1 : ∀ q, wp_A E.2.1 T.1 H.size q → A q := fun q h => h.elim (fun ⟨i, hi, e⟩ => by rw [e]; exact hB i hi) (fun h => hA q (Nat.le_trans hS.1 h))
  have hM := hC H.size
  rw [hrt] at hM
  have hcode : ∀ w ∈ (Cond.code y I.2.1 I.2.2.1 none :: tb_T), w ∈ tb_T := fun w hw => (List.mem_cons.mp hw).elim (fun h => by rw [h]; exact tb_mem v5) (fun h => h)
  refine wp_after (va_runI (As := As.map (tp_v E.2.1)) (rest := rest.map (tp_v E.2.1)) (b := E.2.1 + b) ⟨C.1, C.2.1, C.2.2.2.1, C.2.2.2.2.1, hts⟩ hM
    (cwI n hts (tb_goodIn hcode) rfl rfl rfl (hts _ (tb_mem v4)) (hts _ (tb_mem v1)) (hts _ (tb_mem v2)) hnm hd3 hR) ⟨wp_blind, fun U hU hW => ⟨rfl, by rw [hU], by rw [hU]; exact hP, tp_K.warm hW hK, hal⟩⟩ rfl (by rw [List.length_map]; exact hn) hl.1 ?_ (lv_room (wp_catS rest hw)) hd hm) hS hA1 (fun r T' σ' H1 locs1 hq hp hi hal hkp hS => ?_)
  · show List.map _ _ = _
    rw [List.map_append, List.map_reverse]
    rfl
  · have key := kk r T' σ' hq p e s m args below meth c H1 locs1 ls A C hK hp hS hA (fun i h => hA1 _ (hi i h)) hal hl
    rw [wp_stk] at key
    exact key
theorem wp_callIN {y : MethodName} {I : tp_I} {rm : Room} {b : Nat} {As rest : List Value} {Q' : Option Int32 → tp_T → tp_M → Prop} {n idx : Nat} (hv : cv_IN M.1 idx y I n) (hn : As.length = n) (hst : st = As.reverse ++ .ref b :: rest) (hw : (rest.map fun v => v.category).sum ≤ 8) (hR : rm.frames + 1 ≤ R.frames ∧ 8 + (I.2.2.1 + 11) + rm.locals ≤ R.locals) (hm : ce + rm.cells ≤ R.cells ∧ sl + rm.slots ≤ R.slots) (hd : decode M.2.1 pc = .ok (.invokespecial idx, 3)) (hq : pc + 3 = q)
    (hC : Ct E al rm y I (.ref b :: As) T σ Q') (kk : ∀ r T' σ', Q' r T' σ' → WP E al R M (ce + rm.cells) (sl + rm.slots) Q q lv ((r.map Value.int).toList ++ rest) T' σ') : WP E al R M ce sl Q pc lv st T σ := by
  subst hq
  subst hst
  intro p e s m args below meth c H locs ls A C hK hP hS hA hB hal hl
  have hts := C.2.2.2.2.2.1
  obtain ⟨⟨⟨host, v1⟩, v2, v4, v5⟩, ⟨hnm, hrt⟩, hd3⟩ := hv
  have hA1 : ∀ q, wp_A E.2.1 T.1 H.size q → A q := fun q h => h.elim (fun ⟨i, hi, e⟩ => by rw [e]; exact hB i hi) (fun h => hA q (Nat.le_trans hS.1 h))
  have hM := hC H.size
  rw [hrt] at hM
  have hcode : ∀ w ∈ (Cond.code y I.2.1 I.2.2.1 none :: tb_T), w ∈ tb_T := fun w hw => (List.mem_cons.mp hw).elim (fun h => by rw [h]; exact tb_mem v5) (fun h => h)
  refine wp_after (va_runIN (As := As.map (tp_v E.2.1)) (rest := rest.map (tp_v E.2.1)) (b := E.2.1 + b) (host := host) ⟨C.1, C.2.1, C.2.2.2.1, C.2.2.2.2.1, hts⟩ hM
    ⟨va_cnB n hts (tb_goodIn hcode) rfl rfl rfl (hK.2.1 _ v1) (hts _ (tb_mem v4)) hd3 hR, hnm, hts _ (tb_mem v2)⟩ ⟨wp_blind, fun U hU hW => ⟨rfl, by rw [hU], by rw [hU]; exact hP, tp_K.warm hW hK, hal⟩⟩ rfl (by rw [List.length_map]; exact hn) hl.1 ?_ (lv_room (wp_catS rest hw)) hd hm) hS hA1 (fun r T' σ' H1 locs1 hq hp hi hal hkp hS => ?_)
  · show List.map _ _ = _
    rw [List.map_append, List.map_reverse]
    rfl
  · have key := kk r T' σ' hq p e s m args below meth c H1 locs1 ls A C hK hp hS hA (fun i h => hA1 _ (hi i h)) hal hl
    rw [wp_stk] at key
    exact key
end WPC

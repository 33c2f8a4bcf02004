/-! ===== worlds by number: cell i of a run lies at B + i; what cells are (T) beside what ints they hold (σ) ===== -/
abbrev tp_T : Type := Nat × (Nat → Nat × Nat) × (Nat → Nat → Option Nat)
abbrev tp_M : Type := Nat → Nat → Int32
/-- launch, base, class ids, slots, array classes -/
abbrev tp_E : Type := Launch × Nat × (Nat → ClassId) × (Nat → Nat → Nat) × (Nat → ClassId)
/-- a method: its class, code, locals, return, is it a constructor -/
abbrev tp_I : Type := String × ByteArray × Nat × Option FieldType × Bool
def tp_v (B : Nat) (v : Value) : Value := match v with
  | .ref a => .ref (B + a)
  | w => w
theorem tp_v_cat (B : Nat) (v : Value) : (tp_v B v).category = v.category := by cases v <;> rfl
def tp_g (B : Nat) (q : Nat × Value) : Nat × Value := (q.1, tp_v B q.2)
def tp_nf (c : Nat) : Nat := [4, 8, 3, 9, 3, 13, 7, 6, 6, 9, 46].getD c 0
def tp_isr (c k : Nat) : Bool := (([[true, true, true, false], [true, true, true, true, true, true, true, false], [true, false, false], [true, true, true, true, true, true, true, false, false], [true, false, false], [false, false, false, false, false, false, true, true, true, true, true, true, true], [true, true, false, false, false, false, false], [true, true, true, true, true, false], [false, false, true, true, true, true], [true, true, true, true, true, true, true, true, true], [true, true, false, false, false, false, true, false, true, false, true, true, false, true, true, true, false, false, false, false, false, false, false, false, false, true, false, true, false, true, false, true, true, true, true, true, true, true, true, false, true, true, true, false, true, true]] : List (List Bool)).getD c []).getD k false
def tp_fs (B c : Nat) (r : Nat → Option Nat) (f : Nat → Int32) : List Value := (List.range (tp_nf c)).map (fun k => if tp_isr c k = true then va_rf ((r k).map (fun a => B + a)) else .int (f k))
def tp_e (E : tp_E) (T : tp_T) (σ : tp_M) (i : Nat) : va_E :=
  if (T.2.1 i).1 < 11 then .inr ((T.2.1 i).1, tp_fs E.2.1 (T.2.1 i).1 (T.2.2 i) (σ i))
  else if (T.2.1 i).1 < 14 then .inl (E.2.2.2.2 ((T.2.1 i).1 - 11), (T.2.1 i).2, .inl (σ i))
  else .inl (E.2.2.2.2 ((T.2.1 i).1 - 11), (T.2.1 i).2, .inr (.inr (.inr (.inr (fun k => (T.2.2 i k).map (fun a => E.2.1 + a))))))
def tp_w (E : tp_E) (T : tp_T) (σ : tp_M) : va_W := (List.range T.1).map (fun i => (E.2.1 + i, tp_e E T σ i))
def tp_tys (E : tp_E) : List (ClassId × FieldType) := [(E.2.2.2.2 0, .int), (E.2.2.2.2 1, .char), (E.2.2.2.2 2, .boolean), (E.2.2.2.2 3, .object "TrayLands$State"), (E.2.2.2.2 4, .object "TrayLands$Image")]
def tb_N : List (String × Nat × MethodName × String) := [("TrayLands", 9, ⟨"TrayLands$Plan", "<init>", "()V"⟩, "TrayLands"), ("TrayLands", 17, ⟨"TrayLands$Image", "<init>", "()V"⟩, "TrayLands"), ("TrayLands", 20, ⟨"TrayLands$Reader", "<init>", "()V"⟩, "TrayLands"), ("TrayLands$Reader", 11, ⟨"TrayLands$Plan", "<init>", "()V"⟩, "TrayLands"), ("TrayLands$Reader", 74, ⟨"TrayLands", "has", "(II)Z"⟩, "TrayLands"), ("TrayLands$Plan", 72, ⟨"TrayLands", "has", "(II)Z"⟩, "TrayLands"), ("TrayLands$State", 53, ⟨"TrayLands", "sideOf", "(II)I"⟩, "TrayLands"), ("TrayLands$Clock", 29, ⟨"TrayLands", "sideOf", "(II)I"⟩, "TrayLands"), ("TrayLands$Clock", 56, ⟨"TrayLands", "has", "(II)Z"⟩, "TrayLands"), ("TrayLands$Delays", 87, ⟨"TrayLands", "stepsOf", "(I)I"⟩, "TrayLands"), ("TrayLands$Delays", 59, ⟨"TrayLands", "power", "(II)I"⟩, "TrayLands"), ("TrayLands$Delays", 63, ⟨"TrayLands", "spell", "(II[II)V"⟩, "TrayLands"), ("TrayLands$Delays", 115, ⟨"TrayLands", "has", "(II)Z"⟩, "TrayLands"), ("TrayLands$Service", 52, ⟨"TrayLands", "power", "(II)I"⟩, "TrayLands"), ("TrayLands$Service", 56, ⟨"TrayLands", "spell", "(II[II)V"⟩, "TrayLands"), ("TrayLands$Service", 88, ⟨"TrayLands", "has", "(II)Z"⟩, "TrayLands"), ("TrayLands$Notes", 58, ⟨"TrayLands", "has", "(II)Z"⟩, "TrayLands")]
/-- what isn't kept by itself: the nest's links, the classes of arrays of objects -/
def tp_N (U : State) : Prop := (∀ q ∈ tb_N, va_Nw (.methodLinkNest q.1 q.2.1 q.2.2.1 q.2.2.2) U) ∧ va_AO "TrayLands$State" U ∧ va_AO "TrayLands$Image" U
def tp_K (E : tp_E) (U : State) : Prop := va_K (E.2.2.1, E.2.2.2.1) vwCl (tp_tys E) U ∧ tp_N U
theorem tp_K.warm {E : tp_E} {s U : State} (hW : s.WarmedH U.vm) (h : tp_K E s) : tp_K E U := ⟨va_K.moved hW.alike h.1, fun q hq => va_Nw.warmM hW (h.2.1 q hq), va_AO.moved hW.alike h.2.2.1, va_AO.moved hW.alike h.2.2.2⟩
theorem tp_K.same {E : tp_E} {s U : State} (hW : s.vm = U.vm) (h : tp_K E s) : tp_K E U := ⟨va_K.moved (by rw [← hW]; exact Vm.Alike.refl s.vm) h.1, fun q hq => va_Nw.same rfl hW (h.2.1 q hq), va_AO.moved (by rw [← hW]; exact Vm.Alike.refl s.vm) h.2.2.1, va_AO.moved (by rw [← hW]; exact Vm.Alike.refl s.vm) h.2.2.2⟩
abbrev tp_P (E : tp_E) (T : tp_T) (σ : tp_M) (H : Heap) : Prop := va_P (E.2.2.1, E.2.2.2.1) vwCl (tp_w E T σ) H
def tp_u (σ : tp_M) (o k : Nat) (x : Int32) : tp_M := fun o' => if o' = o then upd (σ o) k x else σ o'
def tp_ur (T : tp_T) (o k a : Nat) : tp_T := (T.1, T.2.1, fun o' => if o' = o then va_up (T.2.2 o) k (some a) else T.2.2 o')
def tp_nT (T : tp_T) (kd n : Nat) : tp_T := (T.1 + 1, va_up T.2.1 T.1 (kd, n), va_up T.2.2 T.1 (fun _ => none))
def tp_nM (σ : tp_M) (n : Nat) : tp_M := va_up σ n (fun _ => 0)
def tp_cp (σ : tp_M) (a b s d n : Nat) : tp_M := fun o' => if o' = b then va_cpy (σ a) (σ b) s d n else σ o'
section TPB
variable {E : tp_E} {T T' : tp_T} {σ σ' : tp_M}
theorem tp_w_at {i : Nat} (h : i < T.1) : (tp_w E T σ)[i]? = some (E.2.1 + i, tp_e E T σ i) := by
  unfold tp_w
  rw [List.getElem?_map, List.getElem?_range h]
  rfl
theorem tp_w_inv {k : Nat} {q : Nat × va_E} (h : (tp_w E T σ)[k]? = some q) : k < T.1 ∧ q = (E.2.1 + k, tp_e E T σ k) := by
  have hk : k < T.1 := by
    have := (List.getElem?_eq_some_iff.mp h).1
    simpa [tp_w] using this
  refine ⟨hk, ?_⟩
  rw [tp_w_at hk] at h
  exact (Option.some.inj h).symm
theorem tp_D {A : Nat → Prop} (h : ∀ i, i < T.1 → A (E.2.1 + i)) : va_D A (tp_w E T σ) := by
  refine ⟨fun i j p q hi hj hpq => ?_, fun k q hk => ?_⟩
  · obtain ⟨_, rfl⟩ := tp_w_inv hi
    obtain ⟨_, rfl⟩ := tp_w_inv hj
    exact Nat.add_left_cancel hpq
  · obtain ⟨hk2, hq⟩ := tp_w_inv hk
    rw [hq]
    exact h k hk2
theorem tp_set {i : Nat} {e' : va_E} (hn : T'.1 = T.1) (h1 : e' = tp_e E T' σ' i) (h2 : ∀ j, j ≠ i → tp_e E T' σ' j = tp_e E T σ j) : (tp_w E T σ).set i (E.2.1 + i, e') = tp_w E T' σ' := by
  apply List.ext_getElem?
  intro k
  by_cases hk : k = i
  · subst hk
    by_cases hl : k < T.1
    · rw [List.getElem?_set_self (by simpa [tp_w] using hl), tp_w_at (T := T') (by rw [hn]; exact hl), h1]
    · rw [List.getElem?_eq_none (by simp [tp_w]; omega), List.getElem?_eq_none (by simp [tp_w]; omega)]
  · rw [List.getElem?_set_ne (Ne.symm hk)]
    by_cases hl : k < T.1
    · rw [tp_w_at hl, tp_w_at (T := T') (by rw [hn]; exact hl), h2 k hk]
    · rw [List.getElem?_eq_none (by simp [tp_w]; omega), List.getElem?_eq_none (by simp [tp_w]; omega)]
theorem tp_push {e' : va_E} (hn : T'.1 = T.1 + 1) (h1 : e' = tp_e E T' σ' T.1) (h2 : ∀ j, j < T.1 → tp_e E T' σ' j = tp_e E T σ j) : tp_w E T σ ++ [(E.2.1 + T.1, e')] = tp_w E T' σ' := by
  apply List.ext_getElem?
  intro k
  have hlen : (tp_w E T σ).length = T.1 := by simp [tp_w]
  by_cases hk : k < T.1
  · rw [List.getElem?_append_left (by rw [hlen]; exact hk), tp_w_at hk, tp_w_at (T := T') (by omega), h2 k hk]
  · rw [List.getElem?_append_right (by rw [hlen]; omega), hlen]
    by_cases hk2 : k = T.1
    · subst hk2
      rw [Nat.sub_self, tp_w_at (T := T') (by omega), h1]
      rfl
    · rw [List.getElem?_eq_none (by simp; omega), List.getElem?_eq_none (by simp [tp_w]; omega)]
theorem tp_e_obj {i c : Nat} (h : (T.2.1 i).1 = c) (hc : c < 11) : tp_e E T σ i = .inr (c, tp_fs E.2.1 c (T.2.2 i) (σ i)) := by
  subst h
  unfold tp_e
  rw [if_pos hc]
theorem tp_e_prim {i c : Nat} (h : (T.2.1 i).1 = c + 11) (hc : c < 3) : tp_e E T σ i = .inl (E.2.2.2.2 c, (T.2.1 i).2, .inl (σ i)) := by
  unfold tp_e
  rw [if_neg (by omega), if_pos (by omega), h, Nat.add_sub_cancel]
theorem tp_e_refs {i c : Nat} (h : (T.2.1 i).1 = c + 11) (hc : 3 ≤ c) : tp_e E T σ i = .inl (E.2.2.2.2 c, (T.2.1 i).2, .inr (.inr (.inr (.inr (fun k => (T.2.2 i k).map (fun a => E.2.1 + a)))))) := by
  unfold tp_e
  rw [if_neg (by omega), if_neg (by omega), h, Nat.add_sub_cancel]
theorem tp_fs_i {B c k : Nat} {r : Nat → Option Nat} {f : Nat → Int32} (hk : k < tp_nf c) (h : tp_isr c k = false) : (tp_fs B c r f)[k]? = some (.int (f k)) := by
  unfold tp_fs
  rw [List.getElem?_map, List.getElem?_range hk]
  simp [h]
theorem tp_fs_r {B c k : Nat} {r : Nat → Option Nat} {f : Nat → Int32} (hk : k < tp_nf c) (h : tp_isr c k = true) : (tp_fs B c r f)[k]? = some (va_rf ((r k).map (fun a => B + a))) := by
  unfold tp_fs
  rw [List.getElem?_map, List.getElem?_range hk]
  simp [h]
theorem tp_fs_len {B c : Nat} {r : Nat → Option Nat} {f : Nat → Int32} : (tp_fs B c r f).length = tp_nf c := by simp [tp_fs]
theorem tp_fs_si {B c k : Nat} {r : Nat → Option Nat} {f : Nat → Int32} {x : Int32} (h : tp_isr c k = false) : (tp_fs B c r f).set k (.int x) = tp_fs B c r (upd f k x) := by
  apply List.ext_getElem?
  intro j
  by_cases hl : j < tp_nf c
  · by_cases hj : j = k
    · subst hj
      rw [List.getElem?_set_self (by rw [tp_fs_len]; exact hl), tp_fs_i hl h]
      simp [upd]
    · rw [List.getElem?_set_ne (Ne.symm hj)]
      cases hr : tp_isr c j
      · rw [tp_fs_i hl hr, tp_fs_i hl hr]
        simp [upd, hj]
      · rw [tp_fs_r hl hr, tp_fs_r hl hr]
  · rw [List.getElem?_eq_none (by simp [tp_fs]; omega), List.getElem?_eq_none (by simp [tp_fs]; omega)]
theorem tp_fs_sr {B c k a : Nat} {r : Nat → Option Nat} {f : Nat → Int32} (h : tp_isr c k = true) : (tp_fs B c r f).set k (.ref (B + a)) = tp_fs B c (va_up r k (some a)) f := by
  apply List.ext_getElem?
  intro j
  by_cases hl : j < tp_nf c
  · by_cases hj : j = k
    · subst hj
      rw [List.getElem?_set_self (by rw [tp_fs_len]; exact hl), tp_fs_r hl h]
      simp [va_up, va_rf]
    · rw [List.getElem?_set_ne (Ne.symm hj)]
      cases hr : tp_isr c j
      · rw [tp_fs_i hl hr, tp_fs_i hl hr]
      · rw [tp_fs_r hl hr, tp_fs_r hl hr]
        simp [va_up, hj]
  · rw [List.getElem?_eq_none (by simp [tp_fs]; omega), List.getElem?_eq_none (by simp [tp_fs]; omega)]
theorem tp_e_ext {i : Nat} (h1 : T'.2.1 i = T.2.1 i) (h2 : T'.2.2 i = T.2.2 i) (h3 : σ' i = σ i) : tp_e E T' σ' i = tp_e E T σ i := by
  unfold tp_e
  rw [h1, h2, h3]
end TPB
def tb_T : List Cond := lw_tbl.filter goodWord
def tb_in (w : Cond) : Prop := w ∈ lw_tbl ∧ goodWord w = true
theorem tb_mem {w : Cond} (h : tb_in w) : w ∈ tb_T := List.mem_filter.mpr h
theorem tb_goodIn {ws : List Cond} (h : ∀ w ∈ ws, w ∈ tb_T) : GoodIn tb_T ws := fun w hw => ⟨h w hw, good_of_word (List.mem_filter.mp (h w hw)).2⟩
/-! ===== the judgement ===== -/
def wp_A (B n sz : Nat) : Nat → Prop := fun q => (∃ i, i < n ∧ q = B + i) ∨ sz ≤ q
def wp_Qc (E : tp_E) (al : Bool) (A : Nat → Prop) (Q : Option Int32 → tp_T → tp_M → Prop) : Array Value → State → Outcome → State → Prop := fun _ st oc t =>
  (∃ (r : Option Int32) (T : tp_T) (σ : tp_M), oc = .returned (r.map Value.int) ∧ Q r T σ ∧ tp_P E T σ t.heap ∧ (∀ i, i < T.1 → A (E.2.1 + i)) ∧ (al = true → t.heap.size = E.2.1 + T.1)) ∧ va_F A st t
def wp_C (M : tp_I) (p : Program) (s : State) (m : MethodId) (args : Array Value) (meth : Method) (c : Code) : Prop :=
  p.tables.exec = Jvm.exec ∧ c.code = M.2.1 ∧ meth.sig.returnType = M.2.2.2.1 ∧ c.maxLocals = M.2.2.1 ∧ s.vm.findClass M.1 = some m.cls ∧ (∀ w ∈ tb_T, w.before args s = true) ∧ meth.locks = false ∧ (M.2.2.2.2 = true → meth.name = "<init>")
def WP (E : tp_E) (al : Bool) (R : Room) (M : tp_I) (ce sl : Nat) (Q : Option Int32 → tp_T → tp_M → Prop) (pc : Nat) (lv : List (Nat × Value)) (st : List Value) (T : tp_T) (σ : tp_M) : Prop :=
  ∀ (p : Program) (e : Env) (s : State) (m : MethodId) (args : Array Value) (below : List Frame) (meth : Method) (c : Code) (H : Heap) (locs : List Loc) (ls : Array Slot) (A : Nat → Prop),
    wp_C M p s m args meth c → tp_K E s → tp_P E T σ H → va_S A s.heap H locs → (∀ q, s.heap.size ≤ q → A q) → (∀ i, i < T.1 → A (E.2.1 + i)) → (al = true → H.size = E.2.1 + T.1) → lv_has ls M.2.2.1 (lv.map (tp_g E.2.1)) →
    W p E.1 e R s m args below meth c H locs ce sl (MQ below (wp_Qc E al A Q) args s R.cells R.slots A) (F0 m pc ls (st.map (tp_v E.2.1)))
def Ct (E : tp_E) (al : Bool) (rm : Room) (y : MethodName) (M : tp_I) (av : List Value) (T : tp_T) (σ : tp_M) (Q : Option Int32 → tp_T → tp_M → Prop) : Prop :=
  ∀ sz : Nat, Met E.1 y (.code y M.2.1 M.2.2.1 M.2.2.2.1 :: tb_T) rm (va_Pc (av.map (tp_v E.2.1)) (fun U => U.heap.size = sz ∧ tp_P E T σ U.heap ∧ tp_K E U ∧ (al = true → sz = E.2.1 + T.1))) (wp_Qc E al (wp_A E.2.1 T.1 sz) Q) rm.cells rm.slots (wp_A E.2.1 T.1 sz)
theorem lv_args_map (B : Nat) : ∀ (vs : List Value) (i : Nat), lv_args i (vs.map (tp_v B)) = (lv_args i vs).map (tp_g B)
  | [], i => rfl
  | v :: vs, i => by
    simp only [List.map_cons, lv_args, tp_v_cat, lv_args_map B vs]
    rfl
theorem lg_sl_map (B : Nat) : ∀ (vs : List Value), (lg_sl (vs.map (tp_v B))).length = (lg_sl vs).length
  | [] => rfl
  | v :: vs => by
    have h := lg_sl_map B vs
    simp only [lg_sl, List.map_cons, List.flatMap_cons, List.length_append, tp_v_cat] at h ⊢
    rw [h]
    by_cases hc : v.category = 2 <;> simp [hc]
theorem Ct.of {E : tp_E} {al : Bool} {rm : Room} {y : MethodName} {M : tp_I} {av : List Value} {T : tp_T} {σ : tp_M} {Q : Option Int32 → tp_T → tp_M → Prop} (hy : plainName y.cls = true) (hc : y.cls = M.1) (hi : M.2.2.2.2 = true → y.name = "<init>") (hl : (lg_sl av).length ≤ M.2.2.1)
    (h : WP E al rm M 0 0 Q 0 (lv_args 0 av) [] T σ) : Ct E al rm y M av T σ Q := by
  intro sz
  refine Met.ofW (cc := M.2.1) (maxL := M.2.2.1) (ret := M.2.2.2.1) hy rfl ?_
  intro p e s m args below meth c s₁ B hml hv
  obtain ⟨rfl, hsz, hP, hK, hal⟩ := hv
  have hts := atoms_spec (ws := .code y M.2.1 M.2.2.1 M.2.2.2.1 :: tb_T) B.pre
  have hown : s.vm.findClass M.1 = some m.cls := by rw [← hc]; exact findClass_of_methodNamed B.named
  subst hsz
  have hent := lv_entry (av.map (tp_v E.2.1)) (n := M.2.2.1) (by rw [lg_sl_map]; exact hl)
  rw [lg_entry_eq]
  rw [lv_args_map] at hent
  exact h p e s m _ below meth c s.heap [] _ (wp_A E.2.1 T.1 s.heap.size) ⟨B.exec, B.bytes, B.returns, hml, hown, fun w hw => hts w (List.mem_cons_of_mem _ hw), B.notSynchronized, fun hq => by rw [(name_of_methodNamed B.named B.method).1]; exact hi hq⟩ hK hP va_S.rf (fun q hq => Or.inr hq) (fun i hi => Or.inl ⟨i, hi, rfl⟩) hal hent

/-! ===== what the law knows at its entry (laid by wip/gen/know.py) ===== -/
theorem tn_0 : Cond.methodLinkNest "TrayLands" 9 ⟨"TrayLands$Plan", "<init>", "()V"⟩ "TrayLands" ∈ lw_tbl := List.mem_of_getElem? (i := 63) (by decide +kernel)
theorem tn_1 : Cond.methodLinkNest "TrayLands" 17 ⟨"TrayLands$Image", "<init>", "()V"⟩ "TrayLands" ∈ lw_tbl := List.mem_of_getElem? (i := 162) (by decide +kernel)
theorem tn_2 : Cond.methodLinkNest "TrayLands" 20 ⟨"TrayLands$Reader", "<init>", "()V"⟩ "TrayLands" ∈ lw_tbl := List.mem_of_getElem? (i := 181) (by decide +kernel)
theorem tn_3 : Cond.methodLinkNest "TrayLands$Reader" 11 ⟨"TrayLands$Plan", "<init>", "()V"⟩ "TrayLands" ∈ lw_tbl := List.mem_of_getElem? (i := 186) (by decide +kernel)
theorem tn_4 : Cond.methodLinkNest "TrayLands$Reader" 74 ⟨"TrayLands", "has", "(II)Z"⟩ "TrayLands" ∈ lw_tbl := List.mem_of_getElem? (i := 451) (by decide +kernel)
theorem tn_5 : Cond.methodLinkNest "TrayLands$Plan" 72 ⟨"TrayLands", "has", "(II)Z"⟩ "TrayLands" ∈ lw_tbl := List.mem_of_getElem? (i := 505) (by decide +kernel)
theorem tn_6 : Cond.methodLinkNest "TrayLands$State" 53 ⟨"TrayLands", "sideOf", "(II)I"⟩ "TrayLands" ∈ lw_tbl := List.mem_of_getElem? (i := 535) (by decide +kernel)
theorem tn_7 : Cond.methodLinkNest "TrayLands$Clock" 29 ⟨"TrayLands", "sideOf", "(II)I"⟩ "TrayLands" ∈ lw_tbl := List.mem_of_getElem? (i := 546) (by decide +kernel)
theorem tn_8 : Cond.methodLinkNest "TrayLands$Clock" 56 ⟨"TrayLands", "has", "(II)Z"⟩ "TrayLands" ∈ lw_tbl := List.mem_of_getElem? (i := 629) (by decide +kernel)
theorem tn_9 : Cond.methodLinkNest "TrayLands$Delays" 87 ⟨"TrayLands", "stepsOf", "(I)I"⟩ "TrayLands" ∈ lw_tbl := List.mem_of_getElem? (i := 747) (by decide +kernel)
theorem tn_10 : Cond.methodLinkNest "TrayLands$Delays" 59 ⟨"TrayLands", "power", "(II)I"⟩ "TrayLands" ∈ lw_tbl := List.mem_of_getElem? (i := 796) (by decide +kernel)
theorem tn_11 : Cond.methodLinkNest "TrayLands$Delays" 63 ⟨"TrayLands", "spell", "(II[II)V"⟩ "TrayLands" ∈ lw_tbl := List.mem_of_getElem? (i := 799) (by decide +kernel)
theorem tn_12 : Cond.methodLinkNest "TrayLands$Delays" 115 ⟨"TrayLands", "has", "(II)Z"⟩ "TrayLands" ∈ lw_tbl := List.mem_of_getElem? (i := 811) (by decide +kernel)
theorem tn_13 : Cond.methodLinkNest "TrayLands$Service" 52 ⟨"TrayLands", "power", "(II)I"⟩ "TrayLands" ∈ lw_tbl := List.mem_of_getElem? (i := 836) (by decide +kernel)
theorem tn_14 : Cond.methodLinkNest "TrayLands$Service" 56 ⟨"TrayLands", "spell", "(II[II)V"⟩ "TrayLands" ∈ lw_tbl := List.mem_of_getElem? (i := 837) (by decide +kernel)
theorem tn_15 : Cond.methodLinkNest "TrayLands$Service" 88 ⟨"TrayLands", "has", "(II)Z"⟩ "TrayLands" ∈ lw_tbl := List.mem_of_getElem? (i := 842) (by decide +kernel)
theorem tn_16 : Cond.methodLinkNest "TrayLands$Notes" 58 ⟨"TrayLands", "has", "(II)Z"⟩ "TrayLands" ∈ lw_tbl := List.mem_of_getElem? (i := 905) (by decide +kernel)
theorem tn_S : Cond.arrayOver (.object "TrayLands$State") ∈ lw_tbl := List.mem_of_getElem? (i := 220) (by decide +kernel)
theorem tn_I : Cond.arrayOver (.object "TrayLands$Image") ∈ lw_tbl := List.mem_of_getElem? (i := 160) (by decide +kernel)
theorem tn_all : ∀ q ∈ tb_N, Cond.methodLinkNest q.1 q.2.1 q.2.2.1 q.2.2.2 ∈ lw_tbl := List.forall_mem_cons.mpr ⟨tn_0, List.forall_mem_cons.mpr ⟨tn_1, List.forall_mem_cons.mpr ⟨tn_2, List.forall_mem_cons.mpr ⟨tn_3, List.forall_mem_cons.mpr ⟨tn_4, List.forall_mem_cons.mpr ⟨tn_5, List.forall_mem_cons.mpr ⟨tn_6, List.forall_mem_cons.mpr ⟨tn_7, List.forall_mem_cons.mpr ⟨tn_8, List.forall_mem_cons.mpr ⟨tn_9, List.forall_mem_cons.mpr ⟨tn_10, List.forall_mem_cons.mpr ⟨tn_11, List.forall_mem_cons.mpr ⟨tn_12, List.forall_mem_cons.mpr ⟨tn_13, List.forall_mem_cons.mpr ⟨tn_14, List.forall_mem_cons.mpr ⟨tn_15, List.forall_mem_cons.mpr ⟨tn_16, fun _ h => absurd h List.not_mem_nil⟩⟩⟩⟩⟩⟩⟩⟩⟩⟩⟩⟩⟩⟩⟩⟩⟩
theorem know_arr {s : State} {ty : FieldType} {args : Array Value} (h : (Cond.arrayClass ty).before args s = true) : ∃ cA : ClassId, ArrOfT s cA ty ∧ s.vm.findClass ("[" ++ ty.toString) = some cA := by
  obtain ⟨c, k, comp, h1, h2, h3⟩ := Cond.arrayClass_spec h
  exact ⟨c, fun n z => ⟨fun k h => (by cases h), k, h2, comp, h3⟩, h1⟩
theorem know_obj {s : State} {C : String} {args : Array Value} (h : (Cond.arrayOver (.object C)).before args s = true) : ∃ cA : ClassId, ArrOfT s cA (.object C) ∧ va_RA s cA (.object C) := by
  obtain ⟨comp, c, k, h1, h2, h3, h4, h5⟩ := Cond.arrayOver_spec h
  exact ⟨c, fun n z => ⟨fun k h => (by cases h), k, h3, comp, h4⟩, k, comp, h3, h4, h1, h5⟩
theorem lw_know {s : State} {b : Nat} (hts : ∀ w ∈ lw_tbl, w.before #[Value.ref b] s = true) : ∃ G : (Nat → ClassId) × (Nat → Nat → Nat) × (Nat → ClassId), ∀ (l : Launch) (B : Nat), tp_K (l, B, G) s := by
  have ht : ∀ w ∈ tb_T, w.before #[Value.ref b] s = true := fun w hw => hts w (List.mem_filter.mp hw).1
  obtain ⟨c0, i0, h0⟩ := u_known (C := qX0.1) (T := qX0.2.1) (N := qX0.2.2) ht kcX0.2.2.2.1 (ht _ (tb_mem tw_234))
  obtain ⟨c1, i1, h1⟩ := u_known (C := qX1.1) (T := qX1.2.1) (N := qX1.2.2) ht kcX1.2.2.2.1 (ht _ (tb_mem tw_254))
  obtain ⟨c2, i2, h2⟩ := u_known (C := qX2.1) (T := qX2.2.1) (N := qX2.2.2) ht kcX2.2.2.2.1 (ht _ (tb_mem tw_161))
  obtain ⟨c3, i3, h3⟩ := u_known (C := qX3.1) (T := qX3.2.1) (N := qX3.2.2) ht kcX3.2.2.2.1 (ht _ (tb_mem tw_310))
  obtain ⟨c4, i4, h4⟩ := u_known (C := qX4.1) (T := qX4.2.1) (N := qX4.2.2) ht kcX4.2.2.2.1 (ht _ (tb_mem tw_214))
  obtain ⟨c5, i5, h5⟩ := u_known (C := qX5.1) (T := qX5.2.1) (N := qX5.2.2) ht kcX5.2.2.2.1 (ht _ (tb_mem tw_62))
  obtain ⟨c6, i6, h6⟩ := u_known (C := qX6.1) (T := qX6.2.1) (N := qX6.2.2) ht kcX6.2.2.2.1 (ht _ (tb_mem tw_180))
  obtain ⟨c7, i7, h7⟩ := u_known (C := qX7.1) (T := qX7.2.1) (N := qX7.2.2) ht kcX7.2.2.2.1 (ht _ (tb_mem tw_285))
  obtain ⟨c8, i8, h8⟩ := u_known (C := qX8.1) (T := qX8.2.1) (N := qX8.2.2) ht kcX8.2.2.2.1 (ht _ (tb_mem tw_129))
  obtain ⟨c9, i9, h9⟩ := u_known (C := qX9.1) (T := qX9.2.1) (N := qX9.2.2) ht kcX9.2.2.2.1 (ht _ (tb_mem tw_54))
  obtain ⟨c10, i10, h10⟩ := u_known (C := qX10.1) (T := qX10.2.1) (N := qX10.2.2) ht kcX10.2.2.2.1 (ht _ (tb_mem tw_956))
  obtain ⟨a0, x0, y0⟩ := know_arr (ht _ (tb_mem tw_127))
  obtain ⟨a1, x1, y1⟩ := know_arr (ht _ (tb_mem tw_212))
  obtain ⟨a2, x2, y2⟩ := know_arr (ht _ (tb_mem tw_345))
  obtain ⟨a3, x3, y3⟩ := know_obj (hts _ tn_S)
  obtain ⟨a4, x4, y4⟩ := know_obj (hts _ tn_I)
  refine ⟨(fun k => [c0, c1, c2, c3, c4, c5, c6, c7, c8, c9, c10].getD k c0, fun k => [i0, i1, i2, i3, i4, i5, i6, i7, i8, i9, i10].getD k i0, fun k => [a0, a1, a2, a3, a4].getD k a0), fun l B => ⟨⟨fun k q hq => ?_, fun k q hq => ?_⟩, fun q hq => va_Nw.of rfl (hts _ (tn_all q hq)), va_AO.of (hts _ tn_S), va_AO.of (hts _ tn_I)⟩⟩
  · match k, hq with
    | 0, hq => have e := Option.some.inj (kcX0.1.symm.trans hq); subst e; exact h0
    | 1, hq => have e := Option.some.inj (kcX1.1.symm.trans hq); subst e; exact h1
    | 2, hq => have e := Option.some.inj (kcX2.1.symm.trans hq); subst e; exact h2
    | 3, hq => have e := Option.some.inj (kcX3.1.symm.trans hq); subst e; exact h3
    | 4, hq => have e := Option.some.inj (kcX4.1.symm.trans hq); subst e; exact h4
    | 5, hq => have e := Option.some.inj (kcX5.1.symm.trans hq); subst e; exact h5
    | 6, hq => have e := Option.some.inj (kcX6.1.symm.trans hq); subst e; exact h6
    | 7, hq => have e := Option.some.inj (kcX7.1.symm.trans hq); subst e; exact h7
    | 8, hq => have e := Option.some.inj (kcX8.1.symm.trans hq); subst e; exact h8
    | 9, hq => have e := Option.some.inj (kcX9.1.symm.trans hq); subst e; exact h9
    | 10, hq => have e := Option.some.inj (kcX10.1.symm.trans hq); subst e; exact h10
    | k + 11, hq => rw [List.getElem?_eq_none (show vwCl.length ≤ k + 11 from Nat.le_add_left 11 k)] at hq; cases hq
  · match k, hq with
    | 0, hq => have e := Option.some.inj hq; subst e; exact ⟨x0, y0⟩
    | 1, hq => have e := Option.some.inj hq; subst e; exact ⟨x1, y1⟩
    | 2, hq => have e := Option.some.inj hq; subst e; exact ⟨x2, y2⟩
    | 3, hq => have e := Option.some.inj hq; subst e; exact ⟨x3, y3⟩
    | 4, hq => have e := Option.some.inj hq; subst e; exact ⟨x4, y4⟩
    | k + 5, hq => cases hq

/-! ===== fields, arrays, returns ===== -/
/-- a class: its number, its row of names, what its fields hold -/
def cv_C (ci : Nat) (r : vw_C) (ty : Nat → FieldType) : Prop := vwCl[ci]? = some r ∧ ci < 11 ∧ r.2.2 = tp_nf ci ∧ (∀ w ∈ u_ws r.1 r.2.1 r.2.2, w ∈ tb_T) ∧ (∀ k, k < r.2.2 → parseFieldDescriptor (r.2.1 k).2.2.1 = some (ty k)) ∧ (∀ a, a < r.2.2 → ∀ b, b < r.2.2 → a ≠ b → (r.2.1 a).2.1 ≠ (r.2.1 b).2.1)
def cv_F (own : String) (idx k : Nat) (r : vw_C) : Prop := tb_in (.fieldLink own idx (r.2.1 k).1 (r.2.1 k).2.1 (r.2.1 k).2.2.1) ∧ k < r.2.2
section WPF
variable {E : tp_E} {al : Bool} {R : Room} {M : tp_I} {ce sl pc q : Nat} {Q : Option Int32 → tp_T → tp_M → Prop} {lv lv' : List (Nat × Value)} {st : List Value} {T T' : tp_T} {σ σ' : tp_M}
theorem tp_put {o : Nat} {H H1 : Heap} (hP : tp_P E T σ H) (hn : T'.1 = T.1) (he : va_at (E.2.2.1, E.2.2.2.1) vwCl (E.2.1 + o, tp_e E T' σ' o) H1) (h2 : ∀ j, j ≠ o → tp_e E T' σ' j = tp_e E T σ j) (oq : ∀ q : Nat, q ≠ E.2.1 + o → H1[q]? = H[q]?) : tp_P E T' σ' H1 := by
  intro k x hk
  obtain ⟨hk1, rfl⟩ := tp_w_inv hk
  by_cases hko : k = o
  · subst hko
    exact he
  · rw [h2 k hko]
    exact (hP k _ (tp_w_at (by omega))).kept (oq _ (by show E.2.1 + k ≠ E.2.1 + o; omega))
theorem tp_pushP {e' : va_E} {H H1 : Heap} (hP : tp_P E T σ H) (hn : T'.1 = T.1 + 1) (he : va_at (E.2.2.1, E.2.2.2.1) vwCl (E.2.1 + T.1, tp_e E T' σ' T.1) H1) (h2 : ∀ j, j < T.1 → tp_e E T' σ' j = tp_e E T σ j) (oq : ∀ q : Nat, q < H.size → H1[q]? = H[q]?) : tp_P E T' σ' H1 := by
  intro k x hk
  obtain ⟨hk1, rfl⟩ := tp_w_inv hk
  by_cases hko : k = T.1
  · subst hko
    exact he
  · rw [h2 k (by omega)]
    have h3 := hP k _ (tp_w_at (by omega))
    exact h3.kept (oq _ h3.lt)
theorem wp_getI {o idx : Nat} (ci k : Nat) {r : vw_C} {ty : Nat → FieldType} (hC : cv_C ci r ty) (hF : cv_F M.1 idx k r) (hr : tp_isr ci k = false) (ho : o < T.1) (ht : (T.2.1 o).1 = ci) (hd : decode M.2.1 pc = .ok (.getfield idx, 3)) (hq : pc + 3 = q) (kk : WP E al R M ce sl Q q lv (.int (σ o k) :: st) T σ) : WP E al R M ce sl Q pc lv (.ref o :: st) T σ := by
  subst hq
  intro p e s m args below meth c H locs ls A C hK hP hS hA hB hal hl
  exact va_get (D := (E.2.2.1, E.2.2.2.1)) (ci := ci) (v := .int (σ o k)) (C := r.1) (T := r.2.1) (N := r.2.2) C.1 C.2.1 C.2.2.2.2.2.1 hC.2.2.2.1 C.2.2.2.2.1 hK.1 hP o ((tp_w_at ho).trans (by rw [tp_e_obj ht hC.2.1])) hC.1 k hF.2 (C.2.2.2.2.2.1 _ (tb_mem hF.1)) (fun _ h => h) (tp_fs_i (by rw [← hC.2.2.1]; exact hF.2) hr) hd (kk p e s m args below meth c H locs ls A C hK hP hS hA hB hal hl)
theorem wp_getR {o a idx : Nat} (ci k : Nat) {r : vw_C} {ty : Nat → FieldType} (hC : cv_C ci r ty) (hF : cv_F M.1 idx k r) (hr : tp_isr ci k = true) (ho : o < T.1) (ht : (T.2.1 o).1 = ci) (hx : T.2.2 o k = some a) (hd : decode M.2.1 pc = .ok (.getfield idx, 3)) (hq : pc + 3 = q) (kk : WP E al R M ce sl Q q lv (.ref a :: st) T σ) : WP E al R M ce sl Q pc lv (.ref o :: st) T σ := by
  subst hq
  intro p e s m args below meth c H locs ls A C hK hP hS hA hB hal hl
  exact va_get (D := (E.2.2.1, E.2.2.2.1)) (ci := ci) (v := .ref (E.2.1 + a)) (C := r.1) (T := r.2.1) (N := r.2.2) C.1 C.2.1 C.2.2.2.2.2.1 hC.2.2.2.1 C.2.2.2.2.1 hK.1 hP o ((tp_w_at ho).trans (by rw [tp_e_obj ht hC.2.1])) hC.1 k hF.2 (C.2.2.2.2.2.1 _ (tb_mem hF.1)) (fun _ h => h) ((tp_fs_r (by rw [← hC.2.2.1]; exact hF.2) hr).trans (by rw [hx]; rfl)) hd (kk p e s m args below meth c H locs ls A C hK hP hS hA hB hal hl)
theorem wp_putI {o idx : Nat} {x : Int32} (ci k : Nat) {r : vw_C} {ty : Nat → FieldType} (hC : cv_C ci r ty) (hF : cv_F M.1 idx k r) (hr : tp_isr ci k = false) (hfin : (r.2.1 k).2.2.2 = false) (hn : narrow (ty k) (.int x) = .int x) (hfit : fits (ty k) (.int x) = true) (ho : o < T.1) (ht : (T.2.1 o).1 = ci) (hd : decode M.2.1 pc = .ok (.putfield idx, 3)) (hq : pc + 3 = q) (kk : WP E al R M ce sl Q q lv st T (tp_u σ o k x)) : WP E al R M ce sl Q pc lv (.int x :: .ref o :: st) T σ := by
  subst hq
  intro p e s m args below meth c H locs ls A C hK hP hS hA hB hal hl
  have hts := C.2.2.2.2.2.1
  have hin := hC.2.2.2.1
  have hc := hC.1
  have hk := hF.2
  have hap := va_apart (own := M.1) hts hin ty hC.2.2.2.2.1 hC.2.2.2.2.2 hK.1 hc
  have he : (tp_w E T σ)[o]? = some (E.2.1 + o, .inr (ci, tp_fs E.2.1 ci (T.2.2 o) (σ o))) := (tp_w_at ho).trans (by rw [tp_e_obj ht hC.2.1])
  obtain ⟨r', h1, cell, q1, q2, q3, q4⟩ := hP o _ he
  have hr' : r' = r := Option.some.inj (h1.symm.trans hc)
  subst hr'
  obtain ⟨hSl, hfc, kC, hkC, hkind⟩ := hK.1.1 ci _ hc
  obtain ⟨cf, kf, fi, f, hi, hsl⟩ := hSl k hk
  have hlay := hts _ (hin _ (u_in_lay hk))
  unfold u_lay at hlay
  rw [if_neg (by rw [hfin]; decide)] at hlay
  have hst := (u_facts hfc hkC (u_lays hts hin hk) hi).1
  have h6 := u_store hfc hkC hkind hlay hi (hC.2.2.2.2.1 k hk) hn hfit
  refine W.putK C.1 C.2.1 (f := f) ⟨C.2.2.2.2.1, hts _ (tb_mem hF.1), ⟨_, _, _, hi⟩, hst⟩ (by rw [q2]; exact h6) q1 q3 (by rw [hsl]; exact k2_hasslot (q4 k hk)) rfl rfl hd fun H' e1 e2 e3 => ?_
  rw [hsl] at e1 ⊢
  have hl9 : k < (tp_fs E.2.1 ci (T.2.2 o) (σ o)).length := by rw [tp_fs_len, ← hC.2.2.1]; exact hk
  refine kk p e s m args below meth c H' _ ls A C hK (tp_put hP rfl (o := o) ?_ (fun j hj => tp_e_ext rfl rfl (by simp [tp_u, hj])) e3) (hS.put e2 e3 (hB o ho)) hA hB (fun h => by rw [e2]; exact hal h) hl
  rw [tp_e_obj ht hC.2.1]
  refine ⟨_, hc, t_OB.to (V := updV (vp_V (tp_fs E.2.1 ci (T.2.2 o) (σ o))) k (.int x)) ⟨_, e1, q2, q3, t_set q4 hap hk _⟩ (fun j _ => ?_)⟩
  rw [vp_updV_set hl9, tp_fs_si hr]
  simp [tp_u]
theorem wp_putR {o a idx : Nat} (ci k : Nat) {r : vw_C} {ty : Nat → FieldType} (hC : cv_C ci r ty) (hF : cv_F M.1 idx k r) (hr : tp_isr ci k = true) (hfin : (r.2.1 k).2.2.2 = true) (hown : (r.2.1 k).1 = M.1) (hin0 : M.2.2.2.2 = true) (hn : ∀ z : Nat, narrow (ty k) (.ref z) = .ref z) (hfit : ∀ z : Nat, fits (ty k) (.ref z) = true) (ho : o < T.1) (ht : (T.2.1 o).1 = ci) (hd : decode M.2.1 pc = .ok (.putfield idx, 3)) (hq : pc + 3 = q) (kk : WP E al R M ce sl Q q lv st (tp_ur T o k a) σ) : WP E al R M ce sl Q pc lv (.ref a :: .ref o :: st) T σ := by
  subst hq
  intro p e s m args below meth c H locs ls A C hK hP hS hA hB hal hl
  have hts := C.2.2.2.2.2.1
  have hin := hC.2.2.2.1
  have hc := hC.1
  have hk := hF.2
  have hap := va_apart (own := M.1) hts hin ty hC.2.2.2.2.1 hC.2.2.2.2.2 hK.1 hc
  have he : (tp_w E T σ)[o]? = some (E.2.1 + o, .inr (ci, tp_fs E.2.1 ci (T.2.2 o) (σ o))) := (tp_w_at ho).trans (by rw [tp_e_obj ht hC.2.1])
  obtain ⟨r', h1, cell, q1, q2, q3, q4⟩ := hP o _ he
  have hr' : r' = r := Option.some.inj (h1.symm.trans hc)
  subst hr'
  obtain ⟨hSl, hfc, kC, hkC, hkind⟩ := hK.1.1 ci _ hc
  obtain ⟨cf, kf, fi, f, hi, hsl⟩ := hSl k hk
  have hlay := hts _ (hin _ (u_in_lay hk))
  unfold u_lay at hlay
  rw [if_pos hfin] at hlay
  have hst := (u_facts hfc hkC (u_lays hts hin hk) hi).1
  have hcf : m.cls = cf := by
    obtain ⟨_, _, c', _, _, _, -, -, hf', -, -, -, hown2, -⟩ := Cond.laysFinal_spec hlay
    have e1 : c' = cf := by have := hi.symm.trans hf'; simp at this; exact this.1.symm
    rw [hown] at hown2
    rw [← e1]; exact Option.some.inj (C.2.2.2.2.1.symm.trans hown2)
  have h6 := u_fits hfc hkC hkind (Or.inr hlay) hi (hC.2.2.2.2.1 k hk) (hn (E.2.1 + a)) (hfit (E.2.1 + a))
  refine W.putFinK C.1 C.2.1 C.2.2.2.2.1 (hts _ (tb_mem hF.1)) hi hst hcf (C.2.2.2.2.2.2.2 hin0) (by rw [q2]; exact h6) q1 q3 (by rw [hsl]; exact k2_hasslot (q4 k hk)) rfl rfl hd fun H' e1 e2 e3 => ?_
  rw [hsl] at e1 ⊢
  have hl9 : k < (tp_fs E.2.1 ci (T.2.2 o) (σ o)).length := by rw [tp_fs_len, ← hC.2.2.1]; exact hk
  refine kk p e s m args below meth c H' _ ls A C hK (tp_put hP rfl (o := o) ?_ (fun j hj => tp_e_ext rfl (by simp [tp_ur, hj]) rfl) e3) (hS.put e2 e3 (hB o ho)) hA hB (fun h => by rw [e2]; exact hal h) hl
  rw [tp_e_obj (T := tp_ur T o k a) (c := ci) ht hC.2.1]
  refine ⟨_, hc, t_OB.to (V := updV (vp_V (tp_fs E.2.1 ci (T.2.2 o) (σ o))) k (.ref (E.2.1 + a))) ⟨_, e1, q2, q3, t_set q4 hap hk _⟩ (fun j _ => ?_)⟩
  rw [vp_updV_set hl9, tp_fs_sr hr]
  simp [tp_ur]
theorem wp_iald {o : Nat} {i : Int32} (ho : o < T.1) (ht : (T.2.1 o).1 = 11) (hin : vp_in i (T.2.1 o).2) (hd : decode M.2.1 pc = .ok (.iaload, 1)) (hq : pc + 1 = q) (kk : WP E al R M ce sl Q q lv (.int (σ o i.toNatClampNeg) :: st) T σ) : WP E al R M ce sl Q pc lv (.int i :: .ref o :: st) T σ := by
  subst hq
  intro p e s m args below meth c H locs ls A C hK hP hS hA hB hal hl
  exact va_iald C.1 C.2.1 hK.1 hP o 0 ((tp_w_at ho).trans (by rw [tp_e_prim (c := 0) ht (by decide)])) rfl hin hd (kk p e s m args below meth c H locs ls A C hK hP hS hA hB hal hl)
theorem wp_cald {o : Nat} {i : Int32} (ho : o < T.1) (ht : (T.2.1 o).1 = 12) (hin : vp_in i (T.2.1 o).2) (hd : decode M.2.1 pc = .ok (.caload, 1)) (hq : pc + 1 = q) (kk : WP E al R M ce sl Q q lv (.int (σ o i.toNatClampNeg) :: st) T σ) : WP E al R M ce sl Q pc lv (.int i :: .ref o :: st) T σ := by
  subst hq
  intro p e s m args below meth c H locs ls A C hK hP hS hA hB hal hl
  exact va_cald C.1 C.2.1 hK.1 hP o 1 ((tp_w_at ho).trans (by rw [tp_e_prim (c := 1) ht (by decide)])) rfl hin hd (kk p e s m args below meth c H locs ls A C hK hP hS hA hB hal hl)
theorem wp_zald {o : Nat} {i : Int32} (ho : o < T.1) (ht : (T.2.1 o).1 = 13) (hin : vp_in i (T.2.1 o).2) (hd : decode M.2.1 pc = .ok (.baload, 1)) (hq : pc + 1 = q) (kk : WP E al R M ce sl Q q lv (.int (σ o i.toNatClampNeg) :: st) T σ) : WP E al R M ce sl Q pc lv (.int i :: .ref o :: st) T σ := by
  subst hq
  intro p e s m args below meth c H locs ls A C hK hP hS hA hB hal hl
  exact va_zald C.1 C.2.1 hK.1 hP o 2 ((tp_w_at ho).trans (by rw [tp_e_prim (c := 2) ht (by decide)])) rfl hin hd (kk p e s m args below meth c H locs ls A C hK hP hS hA hB hal hl)
theorem wp_aald {o a : Nat} {i : Int32} (c0 : Nat) (h0 : c0 = 3 ∨ c0 = 4) (ho : o < T.1) (ht : (T.2.1 o).1 = c0 + 11) (hin : vp_in i (T.2.1 o).2) (hx : T.2.2 o i.toNatClampNeg = some a) (hd : decode M.2.1 pc = .ok (.aaload, 1)) (hq : pc + 1 = q) (kk : WP E al R M ce sl Q q lv (.ref a :: st) T σ) : WP E al R M ce sl Q pc lv (.int i :: .ref o :: st) T σ := by
  subst hq
  intro p e s m args below meth c H locs ls A C hK hP hS hA hB hal hl
  have hw := (tp_w_at (E := E) (σ := σ) ho).trans (by rw [tp_e_refs (c := c0) ht (by omega)])
  have k2 := kk p e s m args below meth c H locs ls A C hK hP hS hA hB hal hl
  rcases h0 with rfl | rfl
  · refine va_aldq C.1 C.2.1 hK.1 hP o 3 hw rfl hin hd ?_
    rw [hx]
    exact k2
  · refine va_aldq C.1 C.2.1 hK.1 hP o 4 hw rfl hin hd ?_
    rw [hx]
    exact k2
theorem wp_alen {o : Nat} (c0 : Nat) (h0 : c0 < 5) {n : Nat} {v : Int32} (ho : o < T.1) (ht : T.2.1 o = (c0 + 11, n)) (hv : Int32.ofNat n = v) (hd : decode M.2.1 pc = .ok (.arraylength, 1)) (hq : pc + 1 = q) (kk : WP E al R M ce sl Q q lv (.int v :: st) T σ) : WP E al R M ce sl Q pc lv (.ref o :: st) T σ := by
  subst hq
  intro p e s m args below meth c H locs ls A C hK hP hS hA hB hal hl
  have hty : ∃ ty, (tp_tys E)[c0]? = some (E.2.2.2.2 c0, ty) := by
    rcases (show c0 = 0 ∨ c0 = 1 ∨ c0 = 2 ∨ c0 = 3 ∨ c0 = 4 by omega) with rfl | rfl | rfl | rfl | rfl <;> exact ⟨_, rfl⟩
  obtain ⟨ty, hty⟩ := hty
  have k2 := kk p e s m args below meth c H locs ls A C hK hP hS hA hB hal hl
  by_cases h3 : c0 < 3
  · exact va_alen C.1 C.2.1 hK.1 hP o c0 ((tp_w_at ho).trans (by rw [tp_e_prim (c := c0) (by rw [ht]) h3, ht])) hty hv hd k2
  · exact va_alen C.1 C.2.1 hK.1 hP o c0 ((tp_w_at ho).trans (by rw [tp_e_refs (c := c0) (by rw [ht]) (by omega), ht])) hty hv hd k2
theorem wp_iast {o : Nat} {i x : Int32} (ho : o < T.1) (ht : (T.2.1 o).1 = 11) (hin : vp_in i (T.2.1 o).2) (hd : decode M.2.1 pc = .ok (.iastore, 1)) (hq : pc + 1 = q) (kk : WP E al R M ce sl Q q lv st T (tp_u σ o i.toNatClampNeg x)) : WP E al R M ce sl Q pc lv (.int x :: .int i :: .ref o :: st) T σ := by
  subst hq
  intro p e s m args below meth c H locs ls A C hK hP hS hA hB hal hl
  have hw := (tp_w_at (E := E) (σ := σ) ho).trans (by rw [tp_e_prim (c := 0) ht (by decide)])
  refine W.iast C.1 C.2.1 (hP o _ hw) ((hK.1.2 0 _ rfl).1 _ (fun j => .int (σ o j))) (fun q => by cases q) (by show ¬ (i < 0 ∨ (arrV _ _ _).slots.size ≤ _); rw [arrV_size]; exact hin) rfl rfl hd fun H1 e1 z oq => ?_
  refine kk p e s m args below meth c H1 _ ls A C hK (tp_put hP rfl (o := o) ?_ (fun j hj => tp_e_ext rfl rfl (by simp [tp_u, hj])) oq) (hS.put z oq (hB o ho)) hA hB (fun h => by rw [z]; exact hal h) hl
  rw [tp_e_prim (c := 0) ht (by decide)]
  show H1[E.2.1 + o]? = some (vp_cell _ _)
  rw [e1, vp_cell_i, vp_cell_i, arrV_store]
  congr 2
  funext z
  by_cases hz : z = i.toNatClampNeg
  · subst hz
    simp [updV, upd, tp_u]
  · simp [updV, upd, tp_u, hz]
theorem wp_zast {o : Nat} {i x : Int32} (ho : o < T.1) (ht : (T.2.1 o).1 = 13) (hin : vp_in i (T.2.1 o).2) (hx : x = 0 ∨ x = 1) (hd : decode M.2.1 pc = .ok (.bastore, 1)) (hq : pc + 1 = q) (kk : WP E al R M ce sl Q q lv st T (tp_u σ o i.toNatClampNeg x)) : WP E al R M ce sl Q pc lv (.int x :: .int i :: .ref o :: st) T σ := by
  subst hq
  intro p e s m args below meth c H locs ls A C hK hP hS hA hB hal hl
  have hw := (tp_w_at (E := E) (σ := σ) ho).trans (by rw [tp_e_prim (c := 2) ht (by decide)])
  refine W.zast C.1 C.2.1 (hP o _ hw) ((hK.1.2 2 _ rfl).1 _ (fun j => .int (σ o j))) (fun q => by cases q) (by show ¬ (i < 0 ∨ (arrV _ _ _).slots.size ≤ _); rw [arrV_size]; exact hin) rfl rfl hd fun H1 e1 z oq => ?_
  refine kk p e s m args below meth c H1 _ ls A C hK (tp_put hP rfl (o := o) ?_ (fun j hj => tp_e_ext rfl rfl (by simp [tp_u, hj])) oq) (hS.put z oq (hB o ho)) hA hB (fun h => by rw [z]; exact hal h) hl
  rw [tp_e_prim (c := 2) ht (by decide)]
  show H1[E.2.1 + o]? = some (vp_cell _ _)
  rw [e1, vp_cell_i, vp_cell_i, arrV_store]
  congr 2
  funext z
  have hb : narrow .boolean (.int x) = .int x := by rcases hx with rfl | rfl <;> rfl
  by_cases hz : z = i.toNatClampNeg
  · subst hz
    simp [updV, upd, tp_u, hb]
  · simp [updV, upd, tp_u, hz]
theorem wp_cast {o : Nat} {i x : Int32} (ho : o < T.1) (ht : (T.2.1 o).1 = 12) (hin : vp_in i (T.2.1 o).2) (hx : narrow .char (.int x) = .int x) (hd : decode M.2.1 pc = .ok (.castore, 1)) (hq : pc + 1 = q) (kk : WP E al R M ce sl Q q lv st T (tp_u σ o i.toNatClampNeg x)) : WP E al R M ce sl Q pc lv (.int x :: .int i :: .ref o :: st) T σ := by
  subst hq
  intro p e s m args below meth c H locs ls A C hK hP hS hA hB hal hl
  have hw := (tp_w_at (E := E) (σ := σ) ho).trans (by rw [tp_e_prim (c := 1) ht (by decide)])
  refine W.cast C.1 C.2.1 (hP o _ hw) ((hK.1.2 1 _ rfl).1 _ (fun j => .int (σ o j))) (fun q => by cases q) (by show ¬ (i < 0 ∨ (arrV _ _ _).slots.size ≤ _); rw [arrV_size]; exact hin) rfl rfl hd fun H1 e1 z oq => ?_
  refine kk p e s m args below meth c H1 _ ls A C hK (tp_put hP rfl (o := o) ?_ (fun j hj => tp_e_ext rfl rfl (by simp [tp_u, hj])) oq) (hS.put z oq (hB o ho)) hA hB (fun h => by rw [z]; exact hal h) hl
  rw [tp_e_prim (c := 1) ht (by decide)]
  show H1[E.2.1 + o]? = some (vp_cell _ _)
  rw [e1, vp_cell_i, vp_cell_i, arrV_store]
  congr 2
  funext z
  by_cases hz : z = i.toNatClampNeg
  · subst hz
    simp [updV, upd, tp_u, hx]
  · simp [updV, upd, tp_u, hz]
theorem wp_ret {x : Int32} (ty : FieldType) (hty : M.2.2.2.1 = some ty) (hn : narrow ty (.int x) = .int x) (hce : ce ≤ R.cells) (hsl : sl ≤ R.slots) (hd : decode M.2.1 pc = .ok (.ireturn, 1)) (kk : Q (some x) T σ) : WP E al R M ce sl Q pc lv [.int x] T σ := by
  intro p e s m args below meth c H locs ls A C hK hP hS hA hB hal hl
  refine W.widen hce hsl ?_
  exact W.zret (hlocks := C.2.2.2.2.2.2.1) C.1 C.2.1 (C.2.2.1.trans hty) hn (fun t ht hW => ⟨⟨some x, T, σ, rfl, kk, by rw [ht]; exact hP, hB, fun h => by rw [ht]; exact hal h⟩, hS.F ht⟩) hS.2.2 hd
theorem wp_vret (hty : M.2.2.2.1 = none) (hce : ce ≤ R.cells) (hsl : sl ≤ R.slots) (hd : decode M.2.1 pc = .ok (.return_, 1)) (kk : Q none T σ) : WP E al R M ce sl Q pc lv [] T σ := by
  intro p e s m args below meth c H locs ls A C hK hP hS hA hB hal hl
  refine W.widen hce hsl ?_
  exact W.vret (hlocks := C.2.2.2.2.2.2.1) C.1 C.2.1 (C.2.2.1.trans hty) (fun t ht hW => ⟨⟨none, T, σ, rfl, kk, by rw [ht]; exact hP, hB, fun h => by rw [ht]; exact hal h⟩, hS.F ht⟩) hS.2.2 hd
end WPF

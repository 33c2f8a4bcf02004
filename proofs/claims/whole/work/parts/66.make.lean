/-! ===== layouts that say the same ===== -/
theorem tp_w_cg {E : tp_E} {T T' : tp_T} {σ σ' : tp_M} (h1 : T'.1 = T.1) (h2 : ∀ i, i < T.1 → tp_e E T' σ' i = tp_e E T σ i) : tp_w E T' σ' = tp_w E T σ := by
  unfold tp_w
  rw [h1]
  exact List.map_congr_left (fun i hi => by rw [h2 i (List.mem_range.mp hi)])
theorem WP.cg {E : tp_E} {al : Bool} {R : Room} {M : tp_I} {ce sl pc : Nat} {Q : Option Int32 → tp_T → tp_M → Prop} {lv : List (Nat × Value)} {st : List Value} {T T' : tp_T} {σ σ' : tp_M} (h1 : T'.1 = T.1) (h2 : ∀ i, i < T.1 → tp_e E T' σ' i = tp_e E T σ i) (kk : WP E al R M ce sl Q pc lv st T' σ') : WP E al R M ce sl Q pc lv st T σ := by
  intro p e s m args below meth c H locs ls A C hK hP hS hA hB hal hl
  have hw := tp_w_cg (E := E) h1 h2
  have hP' : tp_P E T' σ' H := by unfold tp_P; rw [hw]; exact hP
  exact kk p e s m args below meth c H locs ls A C hK hP' hS hA (fun i hi => hB i (by omega)) (fun h => by rw [hal h, h1]) hl
/-- cells are as the closed layout says, if kinds and references are -/
theorem tp_e_cg {E : tp_E} {T T' : tp_T} {σ : tp_M} {i : Nat} (h1 : T'.2.1 i = T.2.1 i) (h2 : ∀ k, T'.2.2 i k = T.2.2 i k) : tp_e E T' σ i = tp_e E T σ i := tp_e_ext h1 (funext h2) rfl

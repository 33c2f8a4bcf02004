section WPR
variable {E : tp_E} {al : Bool} {R : Room} {M : tp_I} {ce sl pc q : Nat} {Q : Option Int32 → tp_T → tp_M → Prop} {lv lv' : List (Nat × Value)} {st : List Value} {T : tp_T} {σ : tp_M}

theorem wp_iadd {x y : Int32} (hd : decode M.2.1 pc = .ok (.iadd, 1)) (hq : pc + 1 = q)  (k : WP E al R M ce sl Q q lv (.int (x + y) :: st) T σ) : WP E al R M ce sl Q pc lv (.int y :: .int x :: st) T σ := by
  subst hq
  intro p e s m args below meth c H locs ls A C hK hP hS hA hB hal hl
  exact lv_iadd C.1 C.2.1 hd (k p e s m args below meth c H locs ls A C hK hP hS hA hB hal hl)

theorem wp_isub {x y : Int32} (hd : decode M.2.1 pc = .ok (.isub, 1)) (hq : pc + 1 = q)  (k : WP E al R M ce sl Q q lv (.int (x - y) :: st) T σ) : WP E al R M ce sl Q pc lv (.int y :: .int x :: st) T σ := by
  subst hq
  intro p e s m args below meth c H locs ls A C hK hP hS hA hB hal hl
  exact lv_isub C.1 C.2.1 hd (k p e s m args below meth c H locs ls A C hK hP hS hA hB hal hl)

theorem wp_imul {x y : Int32} (hd : decode M.2.1 pc = .ok (.imul, 1)) (hq : pc + 1 = q)  (k : WP E al R M ce sl Q q lv (.int (x * y) :: st) T σ) : WP E al R M ce sl Q pc lv (.int y :: .int x :: st) T σ := by
  subst hq
  intro p e s m args below meth c H locs ls A C hK hP hS hA hB hal hl
  exact lv_imul C.1 C.2.1 hd (k p e s m args below meth c H locs ls A C hK hP hS hA hB hal hl)

theorem wp_iand {x y : Int32} (hd : decode M.2.1 pc = .ok (.iand, 1)) (hq : pc + 1 = q)  (k : WP E al R M ce sl Q q lv (.int (x &&& y) :: st) T σ) : WP E al R M ce sl Q pc lv (.int y :: .int x :: st) T σ := by
  subst hq
  intro p e s m args below meth c H locs ls A C hK hP hS hA hB hal hl
  exact lv_iand C.1 C.2.1 hd (k p e s m args below meth c H locs ls A C hK hP hS hA hB hal hl)

theorem wp_ior {x y : Int32} (hd : decode M.2.1 pc = .ok (.ior, 1)) (hq : pc + 1 = q)  (k : WP E al R M ce sl Q q lv (.int (x ||| y) :: st) T σ) : WP E al R M ce sl Q pc lv (.int y :: .int x :: st) T σ := by
  subst hq
  intro p e s m args below meth c H locs ls A C hK hP hS hA hB hal hl
  exact lv_ior C.1 C.2.1 hd (k p e s m args below meth c H locs ls A C hK hP hS hA hB hal hl)

theorem wp_ixor {x y : Int32} (hd : decode M.2.1 pc = .ok (.ixor, 1)) (hq : pc + 1 = q)  (k : WP E al R M ce sl Q q lv (.int (x ^^^ y) :: st) T σ) : WP E al R M ce sl Q pc lv (.int y :: .int x :: st) T σ := by
  subst hq
  intro p e s m args below meth c H locs ls A C hK hP hS hA hB hal hl
  exact lv_ixor C.1 C.2.1 hd (k p e s m args below meth c H locs ls A C hK hP hS hA hB hal hl)

theorem wp_ishl {x y : Int32} (hd : decode M.2.1 pc = .ok (.ishl, 1)) (hq : pc + 1 = q)  (k : WP E al R M ce sl Q q lv (.int (x <<< (y &&& 31)) :: st) T σ) : WP E al R M ce sl Q pc lv (.int y :: .int x :: st) T σ := by
  subst hq
  intro p e s m args below meth c H locs ls A C hK hP hS hA hB hal hl
  exact lv_ishl C.1 C.2.1 hd (k p e s m args below meth c H locs ls A C hK hP hS hA hB hal hl)

theorem wp_ishr {x y : Int32} (hd : decode M.2.1 pc = .ok (.ishr, 1)) (hq : pc + 1 = q)  (k : WP E al R M ce sl Q q lv (.int (x >>> (y &&& 31)) :: st) T σ) : WP E al R M ce sl Q pc lv (.int y :: .int x :: st) T σ := by
  subst hq
  intro p e s m args below meth c H locs ls A C hK hP hS hA hB hal hl
  exact lv_ishr C.1 C.2.1 hd (k p e s m args below meth c H locs ls A C hK hP hS hA hB hal hl)

theorem wp_idiv {x y : Int32} (hd : decode M.2.1 pc = .ok (.idiv, 1)) (hq : pc + 1 = q) (hne : ¬ y = 0) (k : WP E al R M ce sl Q q lv (.int (x / y) :: st) T σ) : WP E al R M ce sl Q pc lv (.int y :: .int x :: st) T σ := by
  subst hq
  intro p e s m args below meth c H locs ls A C hK hP hS hA hB hal hl
  exact lv_idiv C.1 C.2.1 hd hne (k p e s m args below meth c H locs ls A C hK hP hS hA hB hal hl)

theorem wp_irem {x y : Int32} (hd : decode M.2.1 pc = .ok (.irem, 1)) (hq : pc + 1 = q) (hne : ¬ y = 0) (k : WP E al R M ce sl Q q lv (.int (x - x / y * y) :: st) T σ) : WP E al R M ce sl Q pc lv (.int y :: .int x :: st) T σ := by
  subst hq
  intro p e s m args below meth c H locs ls A C hK hP hS hA hB hal hl
  exact lv_irem C.1 C.2.1 hd hne (k p e s m args below meth c H locs ls A C hK hP hS hA hB hal hl)

theorem wp_ineg {x : Int32} (hd : decode M.2.1 pc = .ok (.ineg, 1)) (hq : pc + 1 = q)  (k : WP E al R M ce sl Q q lv (.int (0 - x) :: st) T σ) : WP E al R M ce sl Q pc lv (.int x :: st) T σ := by
  subst hq
  intro p e s m args below meth c H locs ls A C hK hP hS hA hB hal hl
  exact lv_ineg C.1 C.2.1 hd (k p e s m args below meth c H locs ls A C hK hP hS hA hB hal hl)

theorem wp_iushr {x y : Int32} (hd : decode M.2.1 pc = .ok (.iushr, 1)) (hq : pc + 1 = q)  (k : WP E al R M ce sl Q q lv (.int (x.toUInt32 >>> (y.toUInt32 &&& Int32.toUInt32 31)).toInt32 :: st) T σ) : WP E al R M ce sl Q pc lv (.int y :: .int x :: st) T σ := by
  subst hq
  intro p e s m args below meth c H locs ls A C hK hP hS hA hB hal hl
  exact lv_iushr C.1 C.2.1 hd rfl (k p e s m args below meth c H locs ls A C hK hP hS hA hB hal hl)

theorem wp_i2l {x : Int32} (hd : decode M.2.1 pc = .ok (.i2l, 1)) (hq : pc + 1 = q)  (k : WP E al R M ce sl Q q lv (.long x.toInt64 :: st) T σ) : WP E al R M ce sl Q pc lv (.int x :: st) T σ := by
  subst hq
  intro p e s m args below meth c H locs ls A C hK hP hS hA hB hal hl
  exact lv_i2l C.1 C.2.1 hd rfl (k p e s m args below meth c H locs ls A C hK hP hS hA hB hal hl)

theorem wp_l2i {x : Int64} (hd : decode M.2.1 pc = .ok (.l2i, 1)) (hq : pc + 1 = q)  (k : WP E al R M ce sl Q q lv (.int x.toInt32 :: st) T σ) : WP E al R M ce sl Q pc lv (.long x :: st) T σ := by
  subst hq
  intro p e s m args below meth c H locs ls A C hK hP hS hA hB hal hl
  exact lv_l2i C.1 C.2.1 hd rfl (k p e s m args below meth c H locs ls A C hK hP hS hA hB hal hl)

theorem wp_i2c {x : Int32} (hd : decode M.2.1 pc = .ok (.i2c, 1)) (hq : pc + 1 = q)  (k : WP E al R M ce sl Q q lv (.int (x.toUInt32 % 65536).toInt32 :: st) T σ) : WP E al R M ce sl Q pc lv (.int x :: st) T σ := by
  subst hq
  intro p e s m args below meth c H locs ls A C hK hP hS hA hB hal hl
  exact lv_i2c C.1 C.2.1 hd rfl (k p e s m args below meth c H locs ls A C hK hP hS hA hB hal hl)

theorem wp_ladd {x y : Int64} (hd : decode M.2.1 pc = .ok (.ladd, 1)) (hq : pc + 1 = q)  (k : WP E al R M ce sl Q q lv (.long (x + y) :: st) T σ) : WP E al R M ce sl Q pc lv (.long y :: .long x :: st) T σ := by
  subst hq
  intro p e s m args below meth c H locs ls A C hK hP hS hA hB hal hl
  exact lv_ladd C.1 C.2.1 hd (k p e s m args below meth c H locs ls A C hK hP hS hA hB hal hl)

theorem wp_lmul {x y : Int64} (hd : decode M.2.1 pc = .ok (.lmul, 1)) (hq : pc + 1 = q)  (k : WP E al R M ce sl Q q lv (.long (x * y) :: st) T σ) : WP E al R M ce sl Q pc lv (.long y :: .long x :: st) T σ := by
  subst hq
  intro p e s m args below meth c H locs ls A C hK hP hS hA hB hal hl
  exact lv_lmul C.1 C.2.1 hd (k p e s m args below meth c H locs ls A C hK hP hS hA hB hal hl)

theorem wp_ldiv {x y : Int64} (hd : decode M.2.1 pc = .ok (.ldiv, 1)) (hq : pc + 1 = q) (hne : ¬ y = 0) (k : WP E al R M ce sl Q q lv (.long (x / y) :: st) T σ) : WP E al R M ce sl Q pc lv (.long y :: .long x :: st) T σ := by
  subst hq
  intro p e s m args below meth c H locs ls A C hK hP hS hA hB hal hl
  exact lv_ldiv C.1 C.2.1 hd hne (k p e s m args below meth c H locs ls A C hK hP hS hA hB hal hl)

theorem wp_lrem {x y : Int64} (hd : decode M.2.1 pc = .ok (.lrem, 1)) (hq : pc + 1 = q) (hne : ¬ y = 0) (k : WP E al R M ce sl Q q lv (.long (x - x / y * y) :: st) T σ) : WP E al R M ce sl Q pc lv (.long y :: .long x :: st) T σ := by
  subst hq
  intro p e s m args below meth c H locs ls A C hK hP hS hA hB hal hl
  exact lv_lrem C.1 C.2.1 hd hne (k p e s m args below meth c H locs ls A C hK hP hS hA hB hal hl)

theorem wp_lcmp {x y : Int64} (hd : decode M.2.1 pc = .ok (.lcmp, 1)) (hq : pc + 1 = q)  (k : WP E al R M ce sl Q q lv (.int (lg_cmp x y) :: st) T σ) : WP E al R M ce sl Q pc lv (.long y :: .long x :: st) T σ := by
  subst hq
  intro p e s m args below meth c H locs ls A C hK hP hS hA hB hal hl
  exact W.lcmp C.1 C.2.1 hd (k p e s m args below meth c H locs ls A C hK hP hS hA hB hal hl)

theorem wp_iconst {n : Int} {v : Int32} (hd : decode M.2.1 pc = .ok (.iconst n, 1)) (hq : pc + 1 = q) (hv : Int32.ofInt n = v) (k : WP E al R M ce sl Q q lv (.int v :: st) T σ) : WP E al R M ce sl Q pc lv st T σ := by
  subst hq
  intro p e s m args below meth c H locs ls A C hK hP hS hA hB hal hl
  exact lv_iconst C.1 C.2.1 hd hv (k p e s m args below meth c H locs ls A C hK hP hS hA hB hal hl)

theorem wp_bipush {n : Int} {v : Int32} (hd : decode M.2.1 pc = .ok (.bipush n, 2)) (hq : pc + 2 = q) (hv : (Int8.ofInt n).toInt32 = v) (k : WP E al R M ce sl Q q lv (.int v :: st) T σ) : WP E al R M ce sl Q pc lv st T σ := by
  subst hq
  intro p e s m args below meth c H locs ls A C hK hP hS hA hB hal hl
  exact lv_bipush C.1 C.2.1 hd hv (k p e s m args below meth c H locs ls A C hK hP hS hA hB hal hl)

theorem wp_sipush {n : Int} {v : Int32} (hd : decode M.2.1 pc = .ok (.sipush n, 3)) (hq : pc + 3 = q) (hv : (Int16.ofInt n).toInt32 = v) (k : WP E al R M ce sl Q q lv (.int v :: st) T σ) : WP E al R M ce sl Q pc lv st T σ := by
  subst hq
  intro p e s m args below meth c H locs ls A C hK hP hS hA hB hal hl
  exact lv_sipush C.1 C.2.1 hd hv (k p e s m args below meth c H locs ls A C hK hP hS hA hB hal hl)

theorem wp_lconst {n : Fin 2} {v : Int64} (hd : decode M.2.1 pc = .ok (.lconst n, 1)) (hq : pc + 1 = q) (hv : Int64.ofNat (n : Nat) = v) (k : WP E al R M ce sl Q q lv (.long v :: st) T σ) : WP E al R M ce sl Q pc lv st T σ := by
  subst hq
  intro p e s m args below meth c H locs ls A C hK hP hS hA hB hal hl
  exact lv_lconst C.1 C.2.1 hd hv (k p e s m args below meth c H locs ls A C hK hP hS hA hB hal hl)

theorem wp_ldc {i : Nat} {v : Int32} (hd : decode M.2.1 pc = .ok (.ldc i, 2)) (hq : pc + 2 = q) (hv : tb_in (.constant M.1 i v)) (k : WP E al R M ce sl Q q lv (.int v :: st) T σ) : WP E al R M ce sl Q pc lv st T σ := by
  subst hq
  intro p e s m args below meth c H locs ls A C hK hP hS hA hB hal hl
  exact lv_ldc C.1 C.2.1 C.2.2.2.2.1 (C.2.2.2.2.2.1 _ (tb_mem hv)) hd (k p e s m args below meth c H locs ls A C hK hP hS hA hB hal hl)

theorem wp_ldcw {i : Nat} {v : Int32} (hd : decode M.2.1 pc = .ok (.ldc_w i, 3)) (hq : pc + 3 = q) (hv : tb_in (.constant M.1 i v)) (k : WP E al R M ce sl Q q lv (.int v :: st) T σ) : WP E al R M ce sl Q pc lv st T σ := by
  subst hq
  intro p e s m args below meth c H locs ls A C hK hP hS hA hB hal hl
  exact lv_ldcw C.1 C.2.1 C.2.2.2.2.1 (C.2.2.2.2.2.1 _ (tb_mem hv)) hd (k p e s m args below meth c H locs ls A C hK hP hS hA hB hal hl)

theorem wp_ldc2 {i : Nat} {v : Int64} (hd : decode M.2.1 pc = .ok (.ldc2_w i, 3)) (hq : pc + 3 = q) (hv : tb_in (.constantLong M.1 i v)) (k : WP E al R M ce sl Q q lv (.long v :: st) T σ) : WP E al R M ce sl Q pc lv st T σ := by
  subst hq
  intro p e s m args below meth c H locs ls A C hK hP hS hA hB hal hl
  exact lv_ldc2 C.1 C.2.1 C.2.2.2.2.1 (C.2.2.2.2.2.1 _ (tb_mem hv)) hd (k p e s m args below meth c H locs ls A C hK hP hS hA hB hal hl)

theorem wx_get {i j : Nat} {v : Value} {ls : Array Slot} {n : Nat} (hl : lv_has ls n (lv.map (tp_g E.2.1))) (hj : lv[j]? = some (i, v)) : ls[i]? = some (.val (tp_v E.2.1 v)) := by
  refine lv_at hl j ?_
  rw [List.getElem?_map, hj]
  rfl

theorem wp_iload_n {n : Fin 4} {i : Nat} (j : Nat) {x : Int32} (hd : decode M.2.1 pc = .ok (.iload_n n, 1)) (hq : pc + 1 = q) (hi : (n : Nat) = i) (hj : lv[j]? = some (i, .int x)) (k : WP E al R M ce sl Q q lv (.int x :: st) T σ) : WP E al R M ce sl Q pc lv st T σ := by
  subst hq
  intro p e s m args below meth c H locs ls A C hK hP hS hA hB hal hl
  exact lv_iload_n C.1 C.2.1 hd hi (wx_get hl hj) (k p e s m args below meth c H locs ls A C hK hP hS hA hB hal hl)

theorem wp_iload {i : Nat} (j : Nat) {x : Int32} (hd : decode M.2.1 pc = .ok (.iload i, 2)) (hq : pc + 2 = q) (hj : lv[j]? = some (i, .int x)) (k : WP E al R M ce sl Q q lv (.int x :: st) T σ) : WP E al R M ce sl Q pc lv st T σ := by
  subst hq
  intro p e s m args below meth c H locs ls A C hK hP hS hA hB hal hl
  exact lv_iload C.1 C.2.1 hd (wx_get hl hj) (k p e s m args below meth c H locs ls A C hK hP hS hA hB hal hl)

theorem wp_lload_n {n : Fin 4} {i : Nat} (j : Nat) {x : Int64} (hd : decode M.2.1 pc = .ok (.lload_n n, 1)) (hq : pc + 1 = q) (hi : (n : Nat) = i) (hj : lv[j]? = some (i, .long x)) (k : WP E al R M ce sl Q q lv (.long x :: st) T σ) : WP E al R M ce sl Q pc lv st T σ := by
  subst hq
  intro p e s m args below meth c H locs ls A C hK hP hS hA hB hal hl
  exact lv_lload_n C.1 C.2.1 hd hi (wx_get hl hj) (k p e s m args below meth c H locs ls A C hK hP hS hA hB hal hl)

theorem wp_lload {i : Nat} (j : Nat) {x : Int64} (hd : decode M.2.1 pc = .ok (.lload i, 2)) (hq : pc + 2 = q) (hj : lv[j]? = some (i, .long x)) (k : WP E al R M ce sl Q q lv (.long x :: st) T σ) : WP E al R M ce sl Q pc lv st T σ := by
  subst hq
  intro p e s m args below meth c H locs ls A C hK hP hS hA hB hal hl
  exact lv_lload C.1 C.2.1 hd (wx_get hl hj) (k p e s m args below meth c H locs ls A C hK hP hS hA hB hal hl)

theorem wp_aload_n {n : Fin 4} {i : Nat} (j : Nat) {x : Nat} (hd : decode M.2.1 pc = .ok (.aload_n n, 1)) (hq : pc + 1 = q) (hi : (n : Nat) = i) (hj : lv[j]? = some (i, .ref x)) (k : WP E al R M ce sl Q q lv (.ref x :: st) T σ) : WP E al R M ce sl Q pc lv st T σ := by
  subst hq
  intro p e s m args below meth c H locs ls A C hK hP hS hA hB hal hl
  exact lv_aload_n C.1 C.2.1 hd hi (wx_get hl hj) (k p e s m args below meth c H locs ls A C hK hP hS hA hB hal hl)

def tp_st (i : Nat) (v : Value) (lv : List (Nat × Value)) : List (Nat × Value) := (i, v) :: lv.filter (fun q => !(q.1 == i) && !(q.1 + 1 == i && q.2.category == 2))
def tp_st2 (i : Nat) (v : Value) (lv : List (Nat × Value)) : List (Nat × Value) := (i, v) :: lv.filter (fun q => !(q.1 == i) && (!(q.1 == i + 1) && !(q.1 + 1 == i && q.2.category == 2)))
theorem tp_st_map (B i : Nat) (v : Value) (lv : List (Nat × Value)) : (i, tp_v B v) :: (lv.map (tp_g B)).filter (fun q => !(q.1 == i) && !(q.1 + 1 == i && q.2.category == 2)) = (tp_st i v lv).map (tp_g B) := by
  unfold tp_st
  rw [List.filter_map, List.map_cons]
  congr 2
  apply List.filter_congr
  intro q _
  simp [tp_g, tp_v_cat]
theorem tp_st2_map (B i : Nat) (v : Value) (lv : List (Nat × Value)) : (i, tp_v B v) :: (lv.map (tp_g B)).filter (fun q => !(q.1 == i) && (!(q.1 == i + 1) && !(q.1 + 1 == i && q.2.category == 2))) = (tp_st2 i v lv).map (tp_g B) := by
  unfold tp_st2
  rw [List.filter_map, List.map_cons]
  congr 2
  apply List.filter_congr
  intro q _
  simp [tp_g, tp_v_cat]
/-- fewer locals, in another order -/
theorem wx_lv {ls : Array Slot} {n B : Nat} (h : ∀ q ∈ lv', q ∈ lv) (hl : lv_has ls n (lv.map (tp_g B))) : lv_has ls n (lv'.map (tp_g B)) := by
  refine ⟨hl.1, hl.2.1, fun x hx => ?_⟩
  obtain ⟨y, hy, rfl⟩ := List.mem_map.mp hx
  exact hl.2.2 _ (List.mem_map.mpr ⟨y, h y hy, rfl⟩)
theorem tp_pick {α : Type} {l l' : List α} (ks : List Nat) (h : ks.filterMap (fun k => l[k]?) = l') : ∀ q ∈ l', q ∈ l := by
  intro q hq
  subst h
  obtain ⟨i, -, hi⟩ := List.mem_filterMap.mp hq
  exact List.mem_of_getElem? hi

theorem wp_lv (ks : List Nat) (h : ks.filterMap (fun k => lv[k]?) = lv') (k : WP E al R M ce sl Q pc lv' st T σ) : WP E al R M ce sl Q pc lv st T σ := by
  intro p e s m args below meth c H locs ls A C hK hP hS hA hB hal hl
  exact k p e s m args below meth c H locs ls A C hK hP hS hA hB hal (wx_lv (tp_pick ks h) hl)

theorem wp_istore_n {n : Fin 4} {i : Nat} {x : Int32} (ks : List Nat) (hd : decode M.2.1 pc = .ok (.istore_n n, 1)) (hq : pc + 1 = q) (hi : (n : Nat) = i) (hn : i < M.2.2.1) (hk : ks.filterMap (fun k => (tp_st i (Value.int x) lv)[k]?) = lv') (k : WP E al R M ce sl Q q lv' st T σ) : WP E al R M ce sl Q pc lv (.int x :: st) T σ := by
  subst hq
  intro p e s m args below meth c H locs ls A C hK hP hS hA hB hal hl
  exact lv_istore_n C.1 C.2.1 hd hi hl hn (tp_st_map E.2.1 i (Value.int x) lv) (fun ls hl => k p e s m args below meth c H locs ls A C hK hP hS hA hB hal (wx_lv (tp_pick ks hk) hl))

theorem wp_istore {i : Nat} {x : Int32} (ks : List Nat) (hd : decode M.2.1 pc = .ok (.istore i, 2)) (hq : pc + 2 = q) (hn : i < M.2.2.1) (hk : ks.filterMap (fun k => (tp_st i (Value.int x) lv)[k]?) = lv') (k : WP E al R M ce sl Q q lv' st T σ) : WP E al R M ce sl Q pc lv (.int x :: st) T σ := by
  subst hq
  intro p e s m args below meth c H locs ls A C hK hP hS hA hB hal hl
  exact lv_istore C.1 C.2.1 hd hl hn (tp_st_map E.2.1 i (Value.int x) lv) (fun ls hl => k p e s m args below meth c H locs ls A C hK hP hS hA hB hal (wx_lv (tp_pick ks hk) hl))

theorem wp_lstore_n {n : Fin 4} {i : Nat} {x : Int64} (ks : List Nat) (hd : decode M.2.1 pc = .ok (.lstore_n n, 1)) (hq : pc + 1 = q) (hi : (n : Nat) = i) (hn : i + 1 < M.2.2.1) (hk : ks.filterMap (fun k => (tp_st2 i (Value.long x) lv)[k]?) = lv') (k : WP E al R M ce sl Q q lv' st T σ) : WP E al R M ce sl Q pc lv (.long x :: st) T σ := by
  subst hq
  intro p e s m args below meth c H locs ls A C hK hP hS hA hB hal hl
  exact lv_lstore_n C.1 C.2.1 hd hi hl hn (tp_st2_map E.2.1 i (Value.long x) lv) (fun ls hl => k p e s m args below meth c H locs ls A C hK hP hS hA hB hal (wx_lv (tp_pick ks hk) hl))

theorem wp_astore_n {n : Fin 4} {i : Nat} {x : Nat} (ks : List Nat) (hd : decode M.2.1 pc = .ok (.astore_n n, 1)) (hq : pc + 1 = q) (hi : (n : Nat) = i) (hn : i < M.2.2.1) (hk : ks.filterMap (fun k => (tp_st i (Value.ref x) lv)[k]?) = lv') (k : WP E al R M ce sl Q q lv' st T σ) : WP E al R M ce sl Q pc lv (.ref x :: st) T σ := by
  subst hq
  intro p e s m args below meth c H locs ls A C hK hP hS hA hB hal hl
  exact lv_astore_n (x := E.2.1 + x) C.1 C.2.1 hd hi hl hn (tp_st_map E.2.1 i (Value.ref x) lv) (fun ls hl => k p e s m args below meth c H locs ls A C hK hP hS hA hB hal (wx_lv (tp_pick ks hk) hl))

theorem wp_iinc {i : Nat} {n : Int} {x v : Int32} (j : Nat) (ks : List Nat) (hd : decode M.2.1 pc = .ok (.iinc i n, 3)) (hq : pc + 3 = q) (hn : i < M.2.2.1) (hj : lv[j]? = some (i, .int x)) (hv : x + Int32.ofInt n = v) (hk : ks.filterMap (fun k => (tp_st i (Value.int v) lv)[k]?) = lv') (k : WP E al R M ce sl Q q lv' st T σ) : WP E al R M ce sl Q pc lv st T σ := by
  subst hq
  intro p e s m args below meth c H locs ls A C hK hP hS hA hB hal hl
  exact lv_iinc (k := j) (x := x) C.1 C.2.1 hd hl (by rw [List.getElem?_map, hj]; rfl) hv hn (tp_st_map E.2.1 i (Value.int v) lv) (fun ls hl => k p e s m args below meth c H locs ls A C hK hP hS hA hB hal (wx_lv (tp_pick ks hk) hl))

theorem wp_dup {v : Value} (hd : decode M.2.1 pc = .ok (.dup, 1)) (hq : pc + 1 = q) (hc : v.category = 1) (k : WP E al R M ce sl Q q lv (v :: v :: st) T σ) : WP E al R M ce sl Q pc lv (v :: st) T σ := by
  subst hq
  intro p e s m args below meth c H locs ls A C hK hP hS hA hB hal hl
  exact lv_dup (va := tp_v E.2.1 v) C.1 C.2.1 hd (by rw [tp_v_cat]; exact hc) (k p e s m args below meth c H locs ls A C hK hP hS hA hB hal hl)
theorem wp_dup2 {v w : Value} (hd : decode M.2.1 pc = .ok (.dup2, 1)) (hq : pc + 1 = q) (hc : v.category = 1) (hc2 : w.category = 1) (k : WP E al R M ce sl Q q lv (v :: w :: v :: w :: st) T σ) : WP E al R M ce sl Q pc lv (v :: w :: st) T σ := by
  subst hq
  intro p e s m args below meth c H locs ls A C hK hP hS hA hB hal hl
  exact lv_dup2_11 (va := tp_v E.2.1 v) (vb := tp_v E.2.1 w) C.1 C.2.1 hd (by rw [tp_v_cat]; exact hc) (by rw [tp_v_cat]; exact hc2) (k p e s m args below meth c H locs ls A C hK hP hS hA hB hal hl)

theorem wp_if_eq {x : Int32} {off : Int} (t : Nat) (hd : decode M.2.1 pc = .ok (.ifCond .eq off, 3)) (ht : (pc : Int) + off = (t : Int)) (hq : pc + 3 = q) (kt : x = 0 → WP E al R M ce sl Q t lv st T σ) (kf : ¬ (x = 0) → WP E al R M ce sl Q q lv st T σ) : WP E al R M ce sl Q pc lv (.int x :: st) T σ := by
  subst hq
  intro p e s m args below meth c H locs ls A C hK hP hS hA hB hal hl
  exact lv_if_eq C.1 C.2.1 hd ht (fun h => kt h p e s m args below meth c H locs ls A C hK hP hS hA hB hal hl) (fun h => kf h p e s m args below meth c H locs ls A C hK hP hS hA hB hal hl)

theorem wp_icmp_eq {x y : Int32} {off : Int} (t : Nat) (hd : decode M.2.1 pc = .ok (.if_icmp .eq off, 3)) (ht : (pc : Int) + off = (t : Int)) (hq : pc + 3 = q) (kt : x = y → WP E al R M ce sl Q t lv st T σ) (kf : ¬ (x = y) → WP E al R M ce sl Q q lv st T σ) : WP E al R M ce sl Q pc lv (.int y :: .int x :: st) T σ := by
  subst hq
  intro p e s m args below meth c H locs ls A C hK hP hS hA hB hal hl
  exact lv_icmp_eq C.1 C.2.1 hd ht (fun h => kt h p e s m args below meth c H locs ls A C hK hP hS hA hB hal hl) (fun h => kf h p e s m args below meth c H locs ls A C hK hP hS hA hB hal hl)

theorem wp_if_ne {x : Int32} {off : Int} (t : Nat) (hd : decode M.2.1 pc = .ok (.ifCond .ne off, 3)) (ht : (pc : Int) + off = (t : Int)) (hq : pc + 3 = q) (kt : ¬ x = 0 → WP E al R M ce sl Q t lv st T σ) (kf : x = 0 → WP E al R M ce sl Q q lv st T σ) : WP E al R M ce sl Q pc lv (.int x :: st) T σ := by
  subst hq
  intro p e s m args below meth c H locs ls A C hK hP hS hA hB hal hl
  exact lv_if_ne C.1 C.2.1 hd ht (fun h => kt h p e s m args below meth c H locs ls A C hK hP hS hA hB hal hl) (fun h => kf h p e s m args below meth c H locs ls A C hK hP hS hA hB hal hl)

theorem wp_icmp_ne {x y : Int32} {off : Int} (t : Nat) (hd : decode M.2.1 pc = .ok (.if_icmp .ne off, 3)) (ht : (pc : Int) + off = (t : Int)) (hq : pc + 3 = q) (kt : ¬ x = y → WP E al R M ce sl Q t lv st T σ) (kf : x = y → WP E al R M ce sl Q q lv st T σ) : WP E al R M ce sl Q pc lv (.int y :: .int x :: st) T σ := by
  subst hq
  intro p e s m args below meth c H locs ls A C hK hP hS hA hB hal hl
  exact lv_icmp_ne C.1 C.2.1 hd ht (fun h => kt h p e s m args below meth c H locs ls A C hK hP hS hA hB hal hl) (fun h => kf h p e s m args below meth c H locs ls A C hK hP hS hA hB hal hl)

theorem wp_if_lt {x : Int32} {off : Int} (t : Nat) (hd : decode M.2.1 pc = .ok (.ifCond .lt off, 3)) (ht : (pc : Int) + off = (t : Int)) (hq : pc + 3 = q) (kt : x < 0 → WP E al R M ce sl Q t lv st T σ) (kf : ¬ (x < 0) → WP E al R M ce sl Q q lv st T σ) : WP E al R M ce sl Q pc lv (.int x :: st) T σ := by
  subst hq
  intro p e s m args below meth c H locs ls A C hK hP hS hA hB hal hl
  exact lv_if_lt C.1 C.2.1 hd ht (fun h => kt h p e s m args below meth c H locs ls A C hK hP hS hA hB hal hl) (fun h => kf h p e s m args below meth c H locs ls A C hK hP hS hA hB hal hl)

theorem wp_icmp_lt {x y : Int32} {off : Int} (t : Nat) (hd : decode M.2.1 pc = .ok (.if_icmp .lt off, 3)) (ht : (pc : Int) + off = (t : Int)) (hq : pc + 3 = q) (kt : x < y → WP E al R M ce sl Q t lv st T σ) (kf : ¬ (x < y) → WP E al R M ce sl Q q lv st T σ) : WP E al R M ce sl Q pc lv (.int y :: .int x :: st) T σ := by
  subst hq
  intro p e s m args below meth c H locs ls A C hK hP hS hA hB hal hl
  exact lv_icmp_lt C.1 C.2.1 hd ht (fun h => kt h p e s m args below meth c H locs ls A C hK hP hS hA hB hal hl) (fun h => kf h p e s m args below meth c H locs ls A C hK hP hS hA hB hal hl)

theorem wp_if_ge {x : Int32} {off : Int} (t : Nat) (hd : decode M.2.1 pc = .ok (.ifCond .ge off, 3)) (ht : (pc : Int) + off = (t : Int)) (hq : pc + 3 = q) (kt : 0 ≤ x → WP E al R M ce sl Q t lv st T σ) (kf : ¬ (0 ≤ x) → WP E al R M ce sl Q q lv st T σ) : WP E al R M ce sl Q pc lv (.int x :: st) T σ := by
  subst hq
  intro p e s m args below meth c H locs ls A C hK hP hS hA hB hal hl
  exact lv_if_ge C.1 C.2.1 hd ht (fun h => kt h p e s m args below meth c H locs ls A C hK hP hS hA hB hal hl) (fun h => kf h p e s m args below meth c H locs ls A C hK hP hS hA hB hal hl)

theorem wp_icmp_ge {x y : Int32} {off : Int} (t : Nat) (hd : decode M.2.1 pc = .ok (.if_icmp .ge off, 3)) (ht : (pc : Int) + off = (t : Int)) (hq : pc + 3 = q) (kt : y ≤ x → WP E al R M ce sl Q t lv st T σ) (kf : ¬ (y ≤ x) → WP E al R M ce sl Q q lv st T σ) : WP E al R M ce sl Q pc lv (.int y :: .int x :: st) T σ := by
  subst hq
  intro p e s m args below meth c H locs ls A C hK hP hS hA hB hal hl
  exact lv_icmp_ge C.1 C.2.1 hd ht (fun h => kt h p e s m args below meth c H locs ls A C hK hP hS hA hB hal hl) (fun h => kf h p e s m args below meth c H locs ls A C hK hP hS hA hB hal hl)

theorem wp_if_gt {x : Int32} {off : Int} (t : Nat) (hd : decode M.2.1 pc = .ok (.ifCond .gt off, 3)) (ht : (pc : Int) + off = (t : Int)) (hq : pc + 3 = q) (kt : 0 < x → WP E al R M ce sl Q t lv st T σ) (kf : ¬ (0 < x) → WP E al R M ce sl Q q lv st T σ) : WP E al R M ce sl Q pc lv (.int x :: st) T σ := by
  subst hq
  intro p e s m args below meth c H locs ls A C hK hP hS hA hB hal hl
  exact lv_if_gt C.1 C.2.1 hd ht (fun h => kt h p e s m args below meth c H locs ls A C hK hP hS hA hB hal hl) (fun h => kf h p e s m args below meth c H locs ls A C hK hP hS hA hB hal hl)

theorem wp_icmp_gt {x y : Int32} {off : Int} (t : Nat) (hd : decode M.2.1 pc = .ok (.if_icmp .gt off, 3)) (ht : (pc : Int) + off = (t : Int)) (hq : pc + 3 = q) (kt : y < x → WP E al R M ce sl Q t lv st T σ) (kf : ¬ (y < x) → WP E al R M ce sl Q q lv st T σ) : WP E al R M ce sl Q pc lv (.int y :: .int x :: st) T σ := by
  subst hq
  intro p e s m args below meth c H locs ls A C hK hP hS hA hB hal hl
  exact lv_icmp_gt C.1 C.2.1 hd ht (fun h => kt h p e s m args below meth c H locs ls A C hK hP hS hA hB hal hl) (fun h => kf h p e s m args below meth c H locs ls A C hK hP hS hA hB hal hl)

theorem wp_if_le {x : Int32} {off : Int} (t : Nat) (hd : decode M.2.1 pc = .ok (.ifCond .le off, 3)) (ht : (pc : Int) + off = (t : Int)) (hq : pc + 3 = q) (kt : x ≤ 0 → WP E al R M ce sl Q t lv st T σ) (kf : ¬ (x ≤ 0) → WP E al R M ce sl Q q lv st T σ) : WP E al R M ce sl Q pc lv (.int x :: st) T σ := by
  subst hq
  intro p e s m args below meth c H locs ls A C hK hP hS hA hB hal hl
  exact lv_if_le C.1 C.2.1 hd ht (fun h => kt h p e s m args below meth c H locs ls A C hK hP hS hA hB hal hl) (fun h => kf h p e s m args below meth c H locs ls A C hK hP hS hA hB hal hl)

theorem wp_icmp_le {x y : Int32} {off : Int} (t : Nat) (hd : decode M.2.1 pc = .ok (.if_icmp .le off, 3)) (ht : (pc : Int) + off = (t : Int)) (hq : pc + 3 = q) (kt : x ≤ y → WP E al R M ce sl Q t lv st T σ) (kf : ¬ (x ≤ y) → WP E al R M ce sl Q q lv st T σ) : WP E al R M ce sl Q pc lv (.int y :: .int x :: st) T σ := by
  subst hq
  intro p e s m args below meth c H locs ls A C hK hP hS hA hB hal hl
  exact lv_icmp_le C.1 C.2.1 hd ht (fun h => kt h p e s m args below meth c H locs ls A C hK hP hS hA hB hal hl) (fun h => kf h p e s m args below meth c H locs ls A C hK hP hS hA hB hal hl)

theorem wp_goto {off : Int} (t : Nat) (hd : decode M.2.1 pc = .ok (.goto off, 3)) (ht : (pc : Int) + off = (t : Int)) (k : WP E al R M ce sl Q t lv st T σ) : WP E al R M ce sl Q pc lv st T σ := by
  intro p e s m args below meth c H locs ls A C hK hP hS hA hB hal hl
  exact lv_goto C.1 C.2.1 hd ht (k p e s m args below meth c H locs ls A C hK hP hS hA hB hal hl)
theorem wp_tableIn {dflt lo hi : Int} {offs : Array Int} {len : Nat} {x : Int32} (off : Int) (t : Nat) (hd : decode M.2.1 pc = .ok (.tableswitch dflt lo hi offs, len)) (h1 : ¬ x.toInt < lo) (h2 : ¬ hi < x.toInt) (ho : offs[(x.toInt - lo).toNat]? = some off) (ht : (pc : Int) + off = (t : Int)) (k : WP E al R M ce sl Q t lv st T σ) : WP E al R M ce sl Q pc lv (.int x :: st) T σ := by
  intro p e s m args below meth c H locs ls A C hK hP hS hA hB hal hl
  exact lv_tableIn C.1 C.2.1 hd h1 h2 ho ht (k p e s m args below meth c H locs ls A C hK hP hS hA hB hal hl)
theorem wp_tableOut {dflt lo hi : Int} {offs : Array Int} {len : Nat} {x : Int32} (t : Nat) (hd : decode M.2.1 pc = .ok (.tableswitch dflt lo hi offs, len)) (h : x.toInt < lo ∨ hi < x.toInt) (ht : (pc : Int) + dflt = (t : Int)) (k : WP E al R M ce sl Q t lv st T σ) : WP E al R M ce sl Q pc lv (.int x :: st) T σ := by
  intro p e s m args below meth c H locs ls A C hK hP hS hA hB hal hl
  exact lv_tableOut C.1 C.2.1 hd h ht (k p e s m args below meth c H locs ls A C hK hP hS hA hB hal hl)
theorem wp_lookup {dflt : Int} {ps : Array (Int × Int)} {len : Nat} {x : Int32} (off : Int) (t : Nat) (hd : decode M.2.1 pc = .ok (.lookupswitch dflt ps, len)) (hp : (ps.toList.zip (ps.toList.drop 1)).all (fun (a, next) => a.1 < next.1) = true) (ho : Op.lookupswitch.offset ps.toList dflt x.toInt = off) (ht : (pc : Int) + off = (t : Int)) (k : WP E al R M ce sl Q t lv st T σ) : WP E al R M ce sl Q pc lv (.int x :: st) T σ := by
  intro p e s m args below meth c H locs ls A C hK hP hS hA hB hal hl
  exact lv_lookup C.1 C.2.1 hd hp ho ht (k p e s m args below meth c H locs ls A C hK hP hS hA hB hal hl)

end WPR

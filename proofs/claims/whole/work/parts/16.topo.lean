theorem Ct.mono {E : tp_E} {al : Bool} {rm : Room} {y : MethodName} {M : tp_I} {av : List Value} {T : tp_T} {σ : tp_M} {Q Q' : Option Int32 → tp_T → tp_M → Prop} (h : Ct E al rm y M av T σ Q) (hq : ∀ r T σ, Q r T σ → Q' r T σ) : Ct E al rm y M av T σ Q' := by
  intro sz p e h1 h2 h3 s m args below hf hap hP hk
  obtain ⟨n, o, a1, a2, a3, ⟨⟨⟨r, T', σ', b1, b2, b3⟩, b4⟩, b5⟩⟩ := h sz p e h1 h2 h3 s m args below hf hap hP hk
  exact ⟨n, o, a1, a2, a3, ⟨⟨⟨r, T', σ', b1, hq _ _ _ b2, b3⟩, b4⟩, b5⟩⟩
theorem Ci.mono {E : tp_E} {T : tp_T} {y : MethodName} {M : tp_I} {d : Nat} {av : List Value} {σ : tp_M} {Q Q' : Int32 → tp_M → Prop} (h : Ci E T y M d av σ Q) (hq : ∀ x σ, Q x σ → Q' x σ) : Ci E T y M d av σ Q' := Ct.mono h (fun _ _ _ ⟨a, x, b, c⟩ => ⟨a, x, b, hq _ _ c⟩)
theorem Cv.mono {E : tp_E} {T : tp_T} {y : MethodName} {M : tp_I} {d : Nat} {av : List Value} {σ : tp_M} {Q Q' : tp_M → Prop} (h : Cv E T y M d av σ Q) (hq : ∀ σ, Q σ → Q' σ) : Cv E T y M d av σ Q' := Ct.mono h (fun _ _ _ ⟨a, b, c⟩ => ⟨a, b, hq _ c⟩)
theorem bool_nar {x : Int32} (h : x = 0 ∨ x = 1) : narrow .boolean (.int x) = .int x := by rcases h with rfl | rfl <;> rfl
section WNA
variable {E : tp_E} {al : Bool} {R : Room} {M : tp_I} {ce sl pc q n : Nat} {Q : Option Int32 → tp_T → tp_M → Prop} {lv : List (Nat × Value)} {st : List Value} {T : tp_T} {σ : tp_M}
theorem wn_iald {o : Nat} {i : Int32} (ho : o < T.1) (ht : T.2.1 o = (11, n)) (hin : vp_in i n) (hd : decode M.2.1 pc = .ok (.iaload, 1)) (hq : pc + 1 = q) (kk : WP E al R M ce sl Q q lv (.int (σ o i.toNatClampNeg) :: st) T σ) : WP E al R M ce sl Q pc lv (.int i :: .ref o :: st) T σ := wp_iald ho (congrArg Prod.fst ht) (by rw [ht]; exact hin) hd hq kk
theorem wn_cald {o : Nat} {i : Int32} (ho : o < T.1) (ht : T.2.1 o = (12, n)) (hin : vp_in i n) (hd : decode M.2.1 pc = .ok (.caload, 1)) (hq : pc + 1 = q) (kk : WP E al R M ce sl Q q lv (.int (σ o i.toNatClampNeg) :: st) T σ) : WP E al R M ce sl Q pc lv (.int i :: .ref o :: st) T σ := wp_cald ho (congrArg Prod.fst ht) (by rw [ht]; exact hin) hd hq kk
theorem wn_zald {o : Nat} {i : Int32} (ho : o < T.1) (ht : T.2.1 o = (13, n)) (hin : vp_in i n) (hd : decode M.2.1 pc = .ok (.baload, 1)) (hq : pc + 1 = q) (kk : WP E al R M ce sl Q q lv (.int (σ o i.toNatClampNeg) :: st) T σ) : WP E al R M ce sl Q pc lv (.int i :: .ref o :: st) T σ := wp_zald ho (congrArg Prod.fst ht) (by rw [ht]; exact hin) hd hq kk
theorem wn_iast {o : Nat} {i x : Int32} (ho : o < T.1) (ht : T.2.1 o = (11, n)) (hin : vp_in i n) (hd : decode M.2.1 pc = .ok (.iastore, 1)) (hq : pc + 1 = q) (kk : WP E al R M ce sl Q q lv st T (tp_u σ o i.toNatClampNeg x)) : WP E al R M ce sl Q pc lv (.int x :: .int i :: .ref o :: st) T σ := wp_iast ho (congrArg Prod.fst ht) (by rw [ht]; exact hin) hd hq kk
theorem wn_cast {o : Nat} {i x : Int32} (ho : o < T.1) (ht : T.2.1 o = (12, n)) (hin : vp_in i n) (hx : narrow .char (.int x) = .int x) (hd : decode M.2.1 pc = .ok (.castore, 1)) (hq : pc + 1 = q) (kk : WP E al R M ce sl Q q lv st T (tp_u σ o i.toNatClampNeg x)) : WP E al R M ce sl Q pc lv (.int x :: .int i :: .ref o :: st) T σ := wp_cast ho (congrArg Prod.fst ht) (by rw [ht]; exact hin) hx hd hq kk
theorem wn_zast {o : Nat} {i x : Int32} (ho : o < T.1) (ht : T.2.1 o = (13, n)) (hin : vp_in i n) (hx : x = 0 ∨ x = 1) (hd : decode M.2.1 pc = .ok (.bastore, 1)) (hq : pc + 1 = q) (kk : WP E al R M ce sl Q q lv st T (tp_u σ o i.toNatClampNeg x)) : WP E al R M ce sl Q pc lv (.int x :: .int i :: .ref o :: st) T σ := wp_zast ho (congrArg Prod.fst ht) (by rw [ht]; exact hin) hx hd hq kk
end WNA
def tgC (i : Nat) : Nat × Nat := ([(9, 0), (5, 0), (11, 8), (11, 4), (11, 4), (11, 8), (11, 8), (11, 4), (11, 4), (8, 0), (11, 4), (11, 4), (11, 4), (11, 8), (15, 2), (2, 0), (8, 0), (11, 4), (11, 4), (11, 4), (11, 8), (2, 0), (8, 0), (11, 4), (11, 4), (11, 4), (11, 8), (6, 0), (5, 0), (11, 8), (11, 4), (11, 4), (11, 8), (11, 8), (11, 4), (11, 4), (12, 240), (4, 0), (14, 20), (8, 0), (11, 4), (11, 4), (11, 4), (11, 8), (8, 0), (11, 4), (11, 4), (11, 4), (11, 8), (8, 0), (11, 4), (11, 4), (11, 4), (11, 8), (8, 0), (11, 4), (11, 4), (11, 4), (11, 8), (8, 0), (11, 4), (11, 4), (11, 4), (11, 8), (8, 0), (11, 4), (11, 4), (11, 4), (11, 8), (8, 0), (11, 4), (11, 4), (11, 4), (11, 8), (8, 0), (11, 4), (11, 4), (11, 4), (11, 8), (8, 0), (11, 4), (11, 4), (11, 4), (11, 8), (8, 0), (11, 4), (11, 4), (11, 4), (11, 8), (8, 0), (11, 4), (11, 4), (11, 4), (11, 8), (8, 0), (11, 4), (11, 4), (11, 4), (11, 8), (8, 0), (11, 4), (11, 4), (11, 4), (11, 8), (8, 0), (11, 4), (11, 4), (11, 4), (11, 8), (8, 0), (11, 4), (11, 4), (11, 4), (11, 8), (8, 0), (11, 4), (11, 4), (11, 4), (11, 8), (8, 0), (11, 4), (11, 4), (11, 4), (11, 8), (8, 0), (11, 4), (11, 4), (11, 4), (11, 8), (8, 0), (11, 4), (11, 4), (11, 4), (11, 8), (8, 0), (11, 4), (11, 4), (11, 4), (11, 8), (0, 0), (11, 4), (1, 0), (11, 84), (11, 4), (11, 16), (11, 4), (11, 4), (7, 0), (11, 4), (11, 4), (11, 4), (3, 0), (11, 6), (11, 6), (13, 6), (11, 15), (11, 15)] : List (Nat × Nat)).getD i (0, 0)
def rfC (i k : Nat) : Option Nat := ((([[some 27, some 1, some 9, some 37, some 139, some 141, some 147, some 151, some 14], [none, none, none, none, none, none, some 2, some 3, some 4, some 5, some 6, some 7, some 8], [], [], [], [], [], [], [], [none, none, some 10, some 11, some 12, some 13], [], [], [], [], [some 15, some 21], [some 16], [none, none, some 17, some 18, some 19, some 20], [], [], [], [], [some 22], [none, none, some 23, some 24, some 25, some 26], [], [], [], [], [some 28, some 36], [none, none, none, none, none, none, some 29, some 30, some 31, some 32, some 33, some 34, some 35], [], [], [], [], [], [], [], [], [some 38], [some 39, some 44, some 49, some 54, some 59, some 64, some 69, some 74, some 79, some 84, some 89, some 94, some 99, some 104, some 109, some 114, some 119, some 124, some 129, some 134], [none, none, some 40, some 41, some 42, some 43], [], [], [], [], [none, none, some 45, some 46, some 47, some 48], [], [], [], [], [none, none, some 50, some 51, some 52, some 53], [], [], [], [], [none, none, some 55, some 56, some 57, some 58], [], [], [], [], [none, none, some 60, some 61, some 62, some 63], [], [], [], [], [none, none, some 65, some 66, some 67, some 68], [], [], [], [], [none, none, some 70, some 71, some 72, some 73], [], [], [], [], [none, none, some 75, some 76, some 77, some 78], [], [], [], [], [none, none, some 80, some 81, some 82, some 83], [], [], [], [], [none, none, some 85, some 86, some 87, some 88], [], [], [], [], [none, none, some 90, some 91, some 92, some 93], [], [], [], [], [none, none, some 95, some 96, some 97, some 98], [], [], [], [], [none, none, some 100, some 101, some 102, some 103], [], [], [], [], [none, none, some 105, some 106, some 107, some 108], [], [], [], [], [none, none, some 110, some 111, some 112, some 113], [], [], [], [], [none, none, some 115, some 116, some 117, some 118], [], [], [], [], [none, none, some 120, some 121, some 122, some 123], [], [], [], [], [none, none, some 125, some 126, some 127, some 128], [], [], [], [], [none, none, some 130, some 131, some 132, some 133], [], [], [], [], [none, none, some 135, some 136, some 137, some 138], [], [], [], [], [some 1, some 9, some 140], [], [some 1, some 9, some 142, some 143, some 144, some 145, some 146], [], [], [], [], [], [some 1, some 9, some 148, some 149, some 150], [], [], [], [some 1, some 9, some 152, some 153, some 154, some 155, some 156], [], [], [], [], []] : List (List (Option Nat))).getD i []).getD k none)
def TC : tp_T := (157, tgC, rfC)
theorem lC_0 : 0 < TC.1 := by decide
theorem gC_0 : TC.2.1 0 = (9, 0) := rfl
theorem lC_1 : 1 < TC.1 := by decide
theorem gC_1 : TC.2.1 1 = (5, 0) := rfl
theorem lC_2 : 2 < TC.1 := by decide
theorem gC_2 : TC.2.1 2 = (11, 8) := rfl
theorem lC_3 : 3 < TC.1 := by decide
theorem gC_3 : TC.2.1 3 = (11, 4) := rfl
theorem lC_4 : 4 < TC.1 := by decide
theorem gC_4 : TC.2.1 4 = (11, 4) := rfl
theorem lC_5 : 5 < TC.1 := by decide
theorem gC_5 : TC.2.1 5 = (11, 8) := rfl
theorem lC_6 : 6 < TC.1 := by decide
theorem gC_6 : TC.2.1 6 = (11, 8) := rfl
theorem lC_7 : 7 < TC.1 := by decide
theorem gC_7 : TC.2.1 7 = (11, 4) := rfl
theorem lC_8 : 8 < TC.1 := by decide
theorem gC_8 : TC.2.1 8 = (11, 4) := rfl
theorem lC_9 : 9 < TC.1 := by decide
theorem gC_9 : TC.2.1 9 = (8, 0) := rfl
theorem lC_10 : 10 < TC.1 := by decide
theorem gC_10 : TC.2.1 10 = (11, 4) := rfl
theorem lC_11 : 11 < TC.1 := by decide
theorem gC_11 : TC.2.1 11 = (11, 4) := rfl
theorem lC_12 : 12 < TC.1 := by decide
theorem gC_12 : TC.2.1 12 = (11, 4) := rfl
theorem lC_13 : 13 < TC.1 := by decide
theorem gC_13 : TC.2.1 13 = (11, 8) := rfl
theorem lC_14 : 14 < TC.1 := by decide
theorem gC_14 : TC.2.1 14 = (15, 2) := rfl
theorem lC_15 : 15 < TC.1 := by decide
theorem gC_15 : TC.2.1 15 = (2, 0) := rfl
theorem lC_16 : 16 < TC.1 := by decide
theorem gC_16 : TC.2.1 16 = (8, 0) := rfl
theorem lC_17 : 17 < TC.1 := by decide
theorem gC_17 : TC.2.1 17 = (11, 4) := rfl
theorem lC_18 : 18 < TC.1 := by decide
theorem gC_18 : TC.2.1 18 = (11, 4) := rfl
theorem lC_19 : 19 < TC.1 := by decide
theorem gC_19 : TC.2.1 19 = (11, 4) := rfl
theorem lC_20 : 20 < TC.1 := by decide
theorem gC_20 : TC.2.1 20 = (11, 8) := rfl
theorem lC_21 : 21 < TC.1 := by decide
theorem gC_21 : TC.2.1 21 = (2, 0) := rfl
theorem lC_22 : 22 < TC.1 := by decide
theorem gC_22 : TC.2.1 22 = (8, 0) := rfl
theorem lC_23 : 23 < TC.1 := by decide
theorem gC_23 : TC.2.1 23 = (11, 4) := rfl
theorem lC_24 : 24 < TC.1 := by decide
theorem gC_24 : TC.2.1 24 = (11, 4) := rfl
theorem lC_25 : 25 < TC.1 := by decide
theorem gC_25 : TC.2.1 25 = (11, 4) := rfl
theorem lC_26 : 26 < TC.1 := by decide
theorem gC_26 : TC.2.1 26 = (11, 8) := rfl
theorem lC_27 : 27 < TC.1 := by decide
theorem gC_27 : TC.2.1 27 = (6, 0) := rfl
theorem lC_28 : 28 < TC.1 := by decide
theorem gC_28 : TC.2.1 28 = (5, 0) := rfl
theorem lC_29 : 29 < TC.1 := by decide
theorem gC_29 : TC.2.1 29 = (11, 8) := rfl
theorem lC_30 : 30 < TC.1 := by decide
theorem gC_30 : TC.2.1 30 = (11, 4) := rfl
theorem lC_31 : 31 < TC.1 := by decide
theorem gC_31 : TC.2.1 31 = (11, 4) := rfl
theorem lC_32 : 32 < TC.1 := by decide
theorem gC_32 : TC.2.1 32 = (11, 8) := rfl
theorem lC_33 : 33 < TC.1 := by decide
theorem gC_33 : TC.2.1 33 = (11, 8) := rfl
theorem lC_34 : 34 < TC.1 := by decide
theorem gC_34 : TC.2.1 34 = (11, 4) := rfl
theorem lC_35 : 35 < TC.1 := by decide
theorem gC_35 : TC.2.1 35 = (11, 4) := rfl
theorem lC_36 : 36 < TC.1 := by decide
theorem gC_36 : TC.2.1 36 = (12, 240) := rfl
theorem lC_37 : 37 < TC.1 := by decide
theorem gC_37 : TC.2.1 37 = (4, 0) := rfl
theorem lC_38 : 38 < TC.1 := by decide
theorem gC_38 : TC.2.1 38 = (14, 20) := rfl
theorem lC_39 : 39 < TC.1 := by decide
theorem gC_39 : TC.2.1 39 = (8, 0) := rfl
theorem lC_40 : 40 < TC.1 := by decide
theorem gC_40 : TC.2.1 40 = (11, 4) := rfl
theorem lC_41 : 41 < TC.1 := by decide
theorem gC_41 : TC.2.1 41 = (11, 4) := rfl
theorem lC_42 : 42 < TC.1 := by decide
theorem gC_42 : TC.2.1 42 = (11, 4) := rfl
theorem lC_43 : 43 < TC.1 := by decide
theorem gC_43 : TC.2.1 43 = (11, 8) := rfl
theorem lC_44 : 44 < TC.1 := by decide
theorem gC_44 : TC.2.1 44 = (8, 0) := rfl
theorem lC_45 : 45 < TC.1 := by decide
theorem gC_45 : TC.2.1 45 = (11, 4) := rfl
theorem lC_46 : 46 < TC.1 := by decide
theorem gC_46 : TC.2.1 46 = (11, 4) := rfl
theorem lC_47 : 47 < TC.1 := by decide
theorem gC_47 : TC.2.1 47 = (11, 4) := rfl
theorem lC_48 : 48 < TC.1 := by decide
theorem gC_48 : TC.2.1 48 = (11, 8) := rfl
theorem lC_49 : 49 < TC.1 := by decide
theorem gC_49 : TC.2.1 49 = (8, 0) := rfl
theorem lC_50 : 50 < TC.1 := by decide
theorem gC_50 : TC.2.1 50 = (11, 4) := rfl
theorem lC_51 : 51 < TC.1 := by decide
theorem gC_51 : TC.2.1 51 = (11, 4) := rfl
theorem lC_52 : 52 < TC.1 := by decide
theorem gC_52 : TC.2.1 52 = (11, 4) := rfl
theorem lC_53 : 53 < TC.1 := by decide
theorem gC_53 : TC.2.1 53 = (11, 8) := rfl
theorem lC_54 : 54 < TC.1 := by decide
theorem gC_54 : TC.2.1 54 = (8, 0) := rfl
theorem lC_55 : 55 < TC.1 := by decide
theorem gC_55 : TC.2.1 55 = (11, 4) := rfl
theorem lC_56 : 56 < TC.1 := by decide
theorem gC_56 : TC.2.1 56 = (11, 4) := rfl
theorem lC_57 : 57 < TC.1 := by decide
theorem gC_57 : TC.2.1 57 = (11, 4) := rfl
theorem lC_58 : 58 < TC.1 := by decide
theorem gC_58 : TC.2.1 58 = (11, 8) := rfl
theorem lC_59 : 59 < TC.1 := by decide
theorem gC_59 : TC.2.1 59 = (8, 0) := rfl
theorem lC_60 : 60 < TC.1 := by decide
theorem gC_60 : TC.2.1 60 = (11, 4) := rfl
theorem lC_61 : 61 < TC.1 := by decide
theorem gC_61 : TC.2.1 61 = (11, 4) := rfl
theorem lC_62 : 62 < TC.1 := by decide
theorem gC_62 : TC.2.1 62 = (11, 4) := rfl
theorem lC_63 : 63 < TC.1 := by decide
theorem gC_63 : TC.2.1 63 = (11, 8) := rfl
theorem lC_64 : 64 < TC.1 := by decide
theorem gC_64 : TC.2.1 64 = (8, 0) := rfl
theorem lC_65 : 65 < TC.1 := by decide
theorem gC_65 : TC.2.1 65 = (11, 4) := rfl
theorem lC_66 : 66 < TC.1 := by decide
theorem gC_66 : TC.2.1 66 = (11, 4) := rfl
theorem lC_67 : 67 < TC.1 := by decide
theorem gC_67 : TC.2.1 67 = (11, 4) := rfl
theorem lC_68 : 68 < TC.1 := by decide
theorem gC_68 : TC.2.1 68 = (11, 8) := rfl
theorem lC_69 : 69 < TC.1 := by decide
theorem gC_69 : TC.2.1 69 = (8, 0) := rfl
theorem lC_70 : 70 < TC.1 := by decide
theorem gC_70 : TC.2.1 70 = (11, 4) := rfl
theorem lC_71 : 71 < TC.1 := by decide
theorem gC_71 : TC.2.1 71 = (11, 4) := rfl
theorem lC_72 : 72 < TC.1 := by decide
theorem gC_72 : TC.2.1 72 = (11, 4) := rfl
theorem lC_73 : 73 < TC.1 := by decide
theorem gC_73 : TC.2.1 73 = (11, 8) := rfl
theorem lC_74 : 74 < TC.1 := by decide
theorem gC_74 : TC.2.1 74 = (8, 0) := rfl
theorem lC_75 : 75 < TC.1 := by decide
theorem gC_75 : TC.2.1 75 = (11, 4) := rfl
theorem lC_76 : 76 < TC.1 := by decide
theorem gC_76 : TC.2.1 76 = (11, 4) := rfl
theorem lC_77 : 77 < TC.1 := by decide
theorem gC_77 : TC.2.1 77 = (11, 4) := rfl
theorem lC_78 : 78 < TC.1 := by decide
theorem gC_78 : TC.2.1 78 = (11, 8) := rfl
theorem lC_79 : 79 < TC.1 := by decide
theorem gC_79 : TC.2.1 79 = (8, 0) := rfl
theorem lC_80 : 80 < TC.1 := by decide
theorem gC_80 : TC.2.1 80 = (11, 4) := rfl
theorem lC_81 : 81 < TC.1 := by decide
theorem gC_81 : TC.2.1 81 = (11, 4) := rfl
theorem lC_82 : 82 < TC.1 := by decide
theorem gC_82 : TC.2.1 82 = (11, 4) := rfl
theorem lC_83 : 83 < TC.1 := by decide
theorem gC_83 : TC.2.1 83 = (11, 8) := rfl
theorem lC_84 : 84 < TC.1 := by decide
theorem gC_84 : TC.2.1 84 = (8, 0) := rfl
theorem lC_85 : 85 < TC.1 := by decide
theorem gC_85 : TC.2.1 85 = (11, 4) := rfl
theorem lC_86 : 86 < TC.1 := by decide
theorem gC_86 : TC.2.1 86 = (11, 4) := rfl
theorem lC_87 : 87 < TC.1 := by decide
theorem gC_87 : TC.2.1 87 = (11, 4) := rfl
theorem lC_88 : 88 < TC.1 := by decide
theorem gC_88 : TC.2.1 88 = (11, 8) := rfl
theorem lC_89 : 89 < TC.1 := by decide
theorem gC_89 : TC.2.1 89 = (8, 0) := rfl
theorem lC_90 : 90 < TC.1 := by decide
theorem gC_90 : TC.2.1 90 = (11, 4) := rfl
theorem lC_91 : 91 < TC.1 := by decide
theorem gC_91 : TC.2.1 91 = (11, 4) := rfl
theorem lC_92 : 92 < TC.1 := by decide
theorem gC_92 : TC.2.1 92 = (11, 4) := rfl
theorem lC_93 : 93 < TC.1 := by decide
theorem gC_93 : TC.2.1 93 = (11, 8) := rfl
theorem lC_94 : 94 < TC.1 := by decide
theorem gC_94 : TC.2.1 94 = (8, 0) := rfl
theorem lC_95 : 95 < TC.1 := by decide
theorem gC_95 : TC.2.1 95 = (11, 4) := rfl
theorem lC_96 : 96 < TC.1 := by decide
theorem gC_96 : TC.2.1 96 = (11, 4) := rfl
theorem lC_97 : 97 < TC.1 := by decide
theorem gC_97 : TC.2.1 97 = (11, 4) := rfl
theorem lC_98 : 98 < TC.1 := by decide
theorem gC_98 : TC.2.1 98 = (11, 8) := rfl
theorem lC_99 : 99 < TC.1 := by decide
theorem gC_99 : TC.2.1 99 = (8, 0) := rfl
theorem lC_100 : 100 < TC.1 := by decide
theorem gC_100 : TC.2.1 100 = (11, 4) := rfl
theorem lC_101 : 101 < TC.1 := by decide
theorem gC_101 : TC.2.1 101 = (11, 4) := rfl
theorem lC_102 : 102 < TC.1 := by decide
theorem gC_102 : TC.2.1 102 = (11, 4) := rfl
theorem lC_103 : 103 < TC.1 := by decide
theorem gC_103 : TC.2.1 103 = (11, 8) := rfl
theorem lC_104 : 104 < TC.1 := by decide
theorem gC_104 : TC.2.1 104 = (8, 0) := rfl
theorem lC_105 : 105 < TC.1 := by decide
theorem gC_105 : TC.2.1 105 = (11, 4) := rfl
theorem lC_106 : 106 < TC.1 := by decide
theorem gC_106 : TC.2.1 106 = (11, 4) := rfl
theorem lC_107 : 107 < TC.1 := by decide
theorem gC_107 : TC.2.1 107 = (11, 4) := rfl
theorem lC_108 : 108 < TC.1 := by decide
theorem gC_108 : TC.2.1 108 = (11, 8) := rfl
theorem lC_109 : 109 < TC.1 := by decide
theorem gC_109 : TC.2.1 109 = (8, 0) := rfl
theorem lC_110 : 110 < TC.1 := by decide
theorem gC_110 : TC.2.1 110 = (11, 4) := rfl
theorem lC_111 : 111 < TC.1 := by decide
theorem gC_111 : TC.2.1 111 = (11, 4) := rfl
theorem lC_112 : 112 < TC.1 := by decide
theorem gC_112 : TC.2.1 112 = (11, 4) := rfl
theorem lC_113 : 113 < TC.1 := by decide
theorem gC_113 : TC.2.1 113 = (11, 8) := rfl
theorem lC_114 : 114 < TC.1 := by decide
theorem gC_114 : TC.2.1 114 = (8, 0) := rfl
theorem lC_115 : 115 < TC.1 := by decide
theorem gC_115 : TC.2.1 115 = (11, 4) := rfl
theorem lC_116 : 116 < TC.1 := by decide
theorem gC_116 : TC.2.1 116 = (11, 4) := rfl
theorem lC_117 : 117 < TC.1 := by decide
theorem gC_117 : TC.2.1 117 = (11, 4) := rfl
theorem lC_118 : 118 < TC.1 := by decide
theorem gC_118 : TC.2.1 118 = (11, 8) := rfl
theorem lC_119 : 119 < TC.1 := by decide
theorem gC_119 : TC.2.1 119 = (8, 0) := rfl
theorem lC_120 : 120 < TC.1 := by decide
theorem gC_120 : TC.2.1 120 = (11, 4) := rfl
theorem lC_121 : 121 < TC.1 := by decide
theorem gC_121 : TC.2.1 121 = (11, 4) := rfl
theorem lC_122 : 122 < TC.1 := by decide
theorem gC_122 : TC.2.1 122 = (11, 4) := rfl
theorem lC_123 : 123 < TC.1 := by decide
theorem gC_123 : TC.2.1 123 = (11, 8) := rfl
theorem lC_124 : 124 < TC.1 := by decide
theorem gC_124 : TC.2.1 124 = (8, 0) := rfl
theorem lC_125 : 125 < TC.1 := by decide
theorem gC_125 : TC.2.1 125 = (11, 4) := rfl
theorem lC_126 : 126 < TC.1 := by decide
theorem gC_126 : TC.2.1 126 = (11, 4) := rfl
theorem lC_127 : 127 < TC.1 := by decide
theorem gC_127 : TC.2.1 127 = (11, 4) := rfl
theorem lC_128 : 128 < TC.1 := by decide
theorem gC_128 : TC.2.1 128 = (11, 8) := rfl
theorem lC_129 : 129 < TC.1 := by decide
theorem gC_129 : TC.2.1 129 = (8, 0) := rfl
theorem lC_130 : 130 < TC.1 := by decide
theorem gC_130 : TC.2.1 130 = (11, 4) := rfl
theorem lC_131 : 131 < TC.1 := by decide
theorem gC_131 : TC.2.1 131 = (11, 4) := rfl
theorem lC_132 : 132 < TC.1 := by decide
theorem gC_132 : TC.2.1 132 = (11, 4) := rfl
theorem lC_133 : 133 < TC.1 := by decide
theorem gC_133 : TC.2.1 133 = (11, 8) := rfl
theorem lC_134 : 134 < TC.1 := by decide
theorem gC_134 : TC.2.1 134 = (8, 0) := rfl
theorem lC_135 : 135 < TC.1 := by decide
theorem gC_135 : TC.2.1 135 = (11, 4) := rfl
theorem lC_136 : 136 < TC.1 := by decide
theorem gC_136 : TC.2.1 136 = (11, 4) := rfl
theorem lC_137 : 137 < TC.1 := by decide
theorem gC_137 : TC.2.1 137 = (11, 4) := rfl
theorem lC_138 : 138 < TC.1 := by decide
theorem gC_138 : TC.2.1 138 = (11, 8) := rfl
theorem lC_139 : 139 < TC.1 := by decide
theorem gC_139 : TC.2.1 139 = (0, 0) := rfl
theorem lC_140 : 140 < TC.1 := by decide
theorem gC_140 : TC.2.1 140 = (11, 4) := rfl
theorem lC_141 : 141 < TC.1 := by decide
theorem gC_141 : TC.2.1 141 = (1, 0) := rfl
theorem lC_142 : 142 < TC.1 := by decide
theorem gC_142 : TC.2.1 142 = (11, 84) := rfl
theorem lC_143 : 143 < TC.1 := by decide
theorem gC_143 : TC.2.1 143 = (11, 4) := rfl
theorem lC_144 : 144 < TC.1 := by decide
theorem gC_144 : TC.2.1 144 = (11, 16) := rfl
theorem lC_145 : 145 < TC.1 := by decide
theorem gC_145 : TC.2.1 145 = (11, 4) := rfl
theorem lC_146 : 146 < TC.1 := by decide
theorem gC_146 : TC.2.1 146 = (11, 4) := rfl
theorem lC_147 : 147 < TC.1 := by decide
theorem gC_147 : TC.2.1 147 = (7, 0) := rfl
theorem lC_148 : 148 < TC.1 := by decide
theorem gC_148 : TC.2.1 148 = (11, 4) := rfl
theorem lC_149 : 149 < TC.1 := by decide
theorem gC_149 : TC.2.1 149 = (11, 4) := rfl
theorem lC_150 : 150 < TC.1 := by decide
theorem gC_150 : TC.2.1 150 = (11, 4) := rfl
theorem lC_151 : 151 < TC.1 := by decide
theorem gC_151 : TC.2.1 151 = (3, 0) := rfl
theorem lC_152 : 152 < TC.1 := by decide
theorem gC_152 : TC.2.1 152 = (11, 6) := rfl
theorem lC_153 : 153 < TC.1 := by decide
theorem gC_153 : TC.2.1 153 = (11, 6) := rfl
theorem lC_154 : 154 < TC.1 := by decide
theorem gC_154 : TC.2.1 154 = (13, 6) := rfl
theorem lC_155 : 155 < TC.1 := by decide
theorem gC_155 : TC.2.1 155 = (11, 15) := rfl
theorem lC_156 : 156 < TC.1 := by decide
theorem gC_156 : TC.2.1 156 = (11, 15) := rfl
theorem rC_1_6 : TC.2.2 1 6 = some 2 := rfl
theorem rC_1_7 : TC.2.2 1 7 = some 3 := rfl
theorem rC_1_8 : TC.2.2 1 8 = some 4 := rfl
theorem rC_1_9 : TC.2.2 1 9 = some 5 := rfl
theorem rC_1_10 : TC.2.2 1 10 = some 6 := rfl
theorem rC_1_11 : TC.2.2 1 11 = some 7 := rfl
theorem rC_1_12 : TC.2.2 1 12 = some 8 := rfl
theorem rC_9_2 : TC.2.2 9 2 = some 10 := rfl
theorem rC_9_3 : TC.2.2 9 3 = some 11 := rfl
theorem rC_9_4 : TC.2.2 9 4 = some 12 := rfl
theorem rC_9_5 : TC.2.2 9 5 = some 13 := rfl
theorem rC_16_2 : TC.2.2 16 2 = some 17 := rfl
theorem rC_16_3 : TC.2.2 16 3 = some 18 := rfl
theorem rC_16_4 : TC.2.2 16 4 = some 19 := rfl
theorem rC_16_5 : TC.2.2 16 5 = some 20 := rfl
theorem rC_15_0 : TC.2.2 15 0 = some 16 := rfl
theorem rC_14_0 : TC.2.2 14 0 = some 15 := rfl
theorem rC_22_2 : TC.2.2 22 2 = some 23 := rfl
theorem rC_22_3 : TC.2.2 22 3 = some 24 := rfl
theorem rC_22_4 : TC.2.2 22 4 = some 25 := rfl
theorem rC_22_5 : TC.2.2 22 5 = some 26 := rfl
theorem rC_21_0 : TC.2.2 21 0 = some 22 := rfl
theorem rC_14_1 : TC.2.2 14 1 = some 21 := rfl
theorem rC_28_6 : TC.2.2 28 6 = some 29 := rfl
theorem rC_28_7 : TC.2.2 28 7 = some 30 := rfl
theorem rC_28_8 : TC.2.2 28 8 = some 31 := rfl
theorem rC_28_9 : TC.2.2 28 9 = some 32 := rfl
theorem rC_28_10 : TC.2.2 28 10 = some 33 := rfl
theorem rC_28_11 : TC.2.2 28 11 = some 34 := rfl
theorem rC_28_12 : TC.2.2 28 12 = some 35 := rfl
theorem rC_27_0 : TC.2.2 27 0 = some 28 := rfl
theorem rC_27_1 : TC.2.2 27 1 = some 36 := rfl
theorem rC_37_0 : TC.2.2 37 0 = some 38 := rfl
theorem rC_39_2 : TC.2.2 39 2 = some 40 := rfl
theorem rC_39_3 : TC.2.2 39 3 = some 41 := rfl
theorem rC_39_4 : TC.2.2 39 4 = some 42 := rfl
theorem rC_39_5 : TC.2.2 39 5 = some 43 := rfl
theorem rC_38_0 : TC.2.2 38 0 = some 39 := rfl
theorem rC_44_2 : TC.2.2 44 2 = some 45 := rfl
theorem rC_44_3 : TC.2.2 44 3 = some 46 := rfl
theorem rC_44_4 : TC.2.2 44 4 = some 47 := rfl
theorem rC_44_5 : TC.2.2 44 5 = some 48 := rfl
theorem rC_38_1 : TC.2.2 38 1 = some 44 := rfl
theorem rC_49_2 : TC.2.2 49 2 = some 50 := rfl
theorem rC_49_3 : TC.2.2 49 3 = some 51 := rfl
theorem rC_49_4 : TC.2.2 49 4 = some 52 := rfl
theorem rC_49_5 : TC.2.2 49 5 = some 53 := rfl
theorem rC_38_2 : TC.2.2 38 2 = some 49 := rfl
theorem rC_54_2 : TC.2.2 54 2 = some 55 := rfl
theorem rC_54_3 : TC.2.2 54 3 = some 56 := rfl
theorem rC_54_4 : TC.2.2 54 4 = some 57 := rfl
theorem rC_54_5 : TC.2.2 54 5 = some 58 := rfl
theorem rC_38_3 : TC.2.2 38 3 = some 54 := rfl
theorem rC_59_2 : TC.2.2 59 2 = some 60 := rfl
theorem rC_59_3 : TC.2.2 59 3 = some 61 := rfl
theorem rC_59_4 : TC.2.2 59 4 = some 62 := rfl
theorem rC_59_5 : TC.2.2 59 5 = some 63 := rfl
theorem rC_38_4 : TC.2.2 38 4 = some 59 := rfl
theorem rC_64_2 : TC.2.2 64 2 = some 65 := rfl
theorem rC_64_3 : TC.2.2 64 3 = some 66 := rfl
theorem rC_64_4 : TC.2.2 64 4 = some 67 := rfl
theorem rC_64_5 : TC.2.2 64 5 = some 68 := rfl
theorem rC_38_5 : TC.2.2 38 5 = some 64 := rfl
theorem rC_69_2 : TC.2.2 69 2 = some 70 := rfl
theorem rC_69_3 : TC.2.2 69 3 = some 71 := rfl
theorem rC_69_4 : TC.2.2 69 4 = some 72 := rfl
theorem rC_69_5 : TC.2.2 69 5 = some 73 := rfl
theorem rC_38_6 : TC.2.2 38 6 = some 69 := rfl
theorem rC_74_2 : TC.2.2 74 2 = some 75 := rfl
theorem rC_74_3 : TC.2.2 74 3 = some 76 := rfl
theorem rC_74_4 : TC.2.2 74 4 = some 77 := rfl
theorem rC_74_5 : TC.2.2 74 5 = some 78 := rfl
theorem rC_38_7 : TC.2.2 38 7 = some 74 := rfl
theorem rC_79_2 : TC.2.2 79 2 = some 80 := rfl
theorem rC_79_3 : TC.2.2 79 3 = some 81 := rfl
theorem rC_79_4 : TC.2.2 79 4 = some 82 := rfl
theorem rC_79_5 : TC.2.2 79 5 = some 83 := rfl
theorem rC_38_8 : TC.2.2 38 8 = some 79 := rfl
theorem rC_84_2 : TC.2.2 84 2 = some 85 := rfl
theorem rC_84_3 : TC.2.2 84 3 = some 86 := rfl
theorem rC_84_4 : TC.2.2 84 4 = some 87 := rfl
theorem rC_84_5 : TC.2.2 84 5 = some 88 := rfl
theorem rC_38_9 : TC.2.2 38 9 = some 84 := rfl
theorem rC_89_2 : TC.2.2 89 2 = some 90 := rfl
theorem rC_89_3 : TC.2.2 89 3 = some 91 := rfl
theorem rC_89_4 : TC.2.2 89 4 = some 92 := rfl
theorem rC_89_5 : TC.2.2 89 5 = some 93 := rfl
theorem rC_38_10 : TC.2.2 38 10 = some 89 := rfl
theorem rC_94_2 : TC.2.2 94 2 = some 95 := rfl
theorem rC_94_3 : TC.2.2 94 3 = some 96 := rfl
theorem rC_94_4 : TC.2.2 94 4 = some 97 := rfl
theorem rC_94_5 : TC.2.2 94 5 = some 98 := rfl
theorem rC_38_11 : TC.2.2 38 11 = some 94 := rfl
theorem rC_99_2 : TC.2.2 99 2 = some 100 := rfl
theorem rC_99_3 : TC.2.2 99 3 = some 101 := rfl
theorem rC_99_4 : TC.2.2 99 4 = some 102 := rfl
theorem rC_99_5 : TC.2.2 99 5 = some 103 := rfl
theorem rC_38_12 : TC.2.2 38 12 = some 99 := rfl
theorem rC_104_2 : TC.2.2 104 2 = some 105 := rfl
theorem rC_104_3 : TC.2.2 104 3 = some 106 := rfl
theorem rC_104_4 : TC.2.2 104 4 = some 107 := rfl
theorem rC_104_5 : TC.2.2 104 5 = some 108 := rfl
theorem rC_38_13 : TC.2.2 38 13 = some 104 := rfl
theorem rC_109_2 : TC.2.2 109 2 = some 110 := rfl
theorem rC_109_3 : TC.2.2 109 3 = some 111 := rfl
theorem rC_109_4 : TC.2.2 109 4 = some 112 := rfl
theorem rC_109_5 : TC.2.2 109 5 = some 113 := rfl
theorem rC_38_14 : TC.2.2 38 14 = some 109 := rfl
theorem rC_114_2 : TC.2.2 114 2 = some 115 := rfl
theorem rC_114_3 : TC.2.2 114 3 = some 116 := rfl
theorem rC_114_4 : TC.2.2 114 4 = some 117 := rfl
theorem rC_114_5 : TC.2.2 114 5 = some 118 := rfl
theorem rC_38_15 : TC.2.2 38 15 = some 114 := rfl
theorem rC_119_2 : TC.2.2 119 2 = some 120 := rfl
theorem rC_119_3 : TC.2.2 119 3 = some 121 := rfl
theorem rC_119_4 : TC.2.2 119 4 = some 122 := rfl
theorem rC_119_5 : TC.2.2 119 5 = some 123 := rfl
theorem rC_38_16 : TC.2.2 38 16 = some 119 := rfl
theorem rC_124_2 : TC.2.2 124 2 = some 125 := rfl
theorem rC_124_3 : TC.2.2 124 3 = some 126 := rfl
theorem rC_124_4 : TC.2.2 124 4 = some 127 := rfl
theorem rC_124_5 : TC.2.2 124 5 = some 128 := rfl
theorem rC_38_17 : TC.2.2 38 17 = some 124 := rfl
theorem rC_129_2 : TC.2.2 129 2 = some 130 := rfl
theorem rC_129_3 : TC.2.2 129 3 = some 131 := rfl
theorem rC_129_4 : TC.2.2 129 4 = some 132 := rfl
theorem rC_129_5 : TC.2.2 129 5 = some 133 := rfl
theorem rC_38_18 : TC.2.2 38 18 = some 129 := rfl
theorem rC_134_2 : TC.2.2 134 2 = some 135 := rfl
theorem rC_134_3 : TC.2.2 134 3 = some 136 := rfl
theorem rC_134_4 : TC.2.2 134 4 = some 137 := rfl
theorem rC_134_5 : TC.2.2 134 5 = some 138 := rfl
theorem rC_38_19 : TC.2.2 38 19 = some 134 := rfl
theorem rC_139_2 : TC.2.2 139 2 = some 140 := rfl
theorem rC_139_0 : TC.2.2 139 0 = some 1 := rfl
theorem rC_139_1 : TC.2.2 139 1 = some 9 := rfl
theorem rC_141_2 : TC.2.2 141 2 = some 142 := rfl
theorem rC_141_3 : TC.2.2 141 3 = some 143 := rfl
theorem rC_141_4 : TC.2.2 141 4 = some 144 := rfl
theorem rC_141_5 : TC.2.2 141 5 = some 145 := rfl
theorem rC_141_6 : TC.2.2 141 6 = some 146 := rfl
theorem rC_141_0 : TC.2.2 141 0 = some 1 := rfl
theorem rC_141_1 : TC.2.2 141 1 = some 9 := rfl
theorem rC_147_2 : TC.2.2 147 2 = some 148 := rfl
theorem rC_147_3 : TC.2.2 147 3 = some 149 := rfl
theorem rC_147_4 : TC.2.2 147 4 = some 150 := rfl
theorem rC_147_0 : TC.2.2 147 0 = some 1 := rfl
theorem rC_147_1 : TC.2.2 147 1 = some 9 := rfl
theorem rC_151_2 : TC.2.2 151 2 = some 152 := rfl
theorem rC_151_3 : TC.2.2 151 3 = some 153 := rfl
theorem rC_151_4 : TC.2.2 151 4 = some 154 := rfl
theorem rC_151_5 : TC.2.2 151 5 = some 155 := rfl
theorem rC_151_6 : TC.2.2 151 6 = some 156 := rfl
theorem rC_151_0 : TC.2.2 151 0 = some 1 := rfl
theorem rC_151_1 : TC.2.2 151 1 = some 9 := rfl
theorem rC_0_0 : TC.2.2 0 0 = some 27 := rfl
theorem rC_0_1 : TC.2.2 0 1 = some 1 := rfl
theorem rC_0_2 : TC.2.2 0 2 = some 9 := rfl
theorem rC_0_3 : TC.2.2 0 3 = some 37 := rfl
theorem rC_0_4 : TC.2.2 0 4 = some 139 := rfl
theorem rC_0_5 : TC.2.2 0 5 = some 141 := rfl
theorem rC_0_6 : TC.2.2 0 6 = some 147 := rfl
theorem rC_0_7 : TC.2.2 0 7 = some 151 := rfl
theorem rC_0_8 : TC.2.2 0 8 = some 14 := rfl
def tgM (i : Nat) : Nat × Nat := ([(10, 0), (11, 1416), (13, 2), (11, 8), (11, 4), (11, 8), (11, 8), (11, 4), (11, 4), (11, 240), (11, 8), (11, 8), (11, 16), (11, 8), (11, 4), (13, 4), (11, 9), (11, 4), (11, 4), (11, 4), (11, 4), (11, 6), (11, 6), (13, 6), (11, 15), (11, 15)] : List (Nat × Nat)).getD i (0, 0)
def rfM (i k : Nat) : Option Nat := ((([[some 1, some 2, none, none, none, none, some 3, none, some 4, none, some 5, some 6, none, some 7, some 8, some 9, none, none, none, none, none, none, none, none, none, some 10, none, some 11, none, some 12, none, some 13, some 14, some 15, some 16, some 17, some 18, some 19, some 20, none, some 21, some 22, some 23, none, some 24, some 25], [], [], [], [], [], [], [], [], [], [], [], [], [], [], [], [], [], [], [], [], [], [], [], [], []] : List (List (Option Nat))).getD i []).getD k none)
def TM : tp_T := (26, tgM, rfM)
theorem lM_0 : 0 < TM.1 := by decide
theorem gM_0 : TM.2.1 0 = (10, 0) := rfl
theorem lM_1 : 1 < TM.1 := by decide
theorem gM_1 : TM.2.1 1 = (11, 1416) := rfl
theorem lM_2 : 2 < TM.1 := by decide
theorem gM_2 : TM.2.1 2 = (13, 2) := rfl
theorem lM_3 : 3 < TM.1 := by decide
theorem gM_3 : TM.2.1 3 = (11, 8) := rfl
theorem lM_4 : 4 < TM.1 := by decide
theorem gM_4 : TM.2.1 4 = (11, 4) := rfl
theorem lM_5 : 5 < TM.1 := by decide
theorem gM_5 : TM.2.1 5 = (11, 8) := rfl
theorem lM_6 : 6 < TM.1 := by decide
theorem gM_6 : TM.2.1 6 = (11, 8) := rfl
theorem lM_7 : 7 < TM.1 := by decide
theorem gM_7 : TM.2.1 7 = (11, 4) := rfl
theorem lM_8 : 8 < TM.1 := by decide
theorem gM_8 : TM.2.1 8 = (11, 4) := rfl
theorem lM_9 : 9 < TM.1 := by decide
theorem gM_9 : TM.2.1 9 = (11, 240) := rfl
theorem lM_10 : 10 < TM.1 := by decide
theorem gM_10 : TM.2.1 10 = (11, 8) := rfl
theorem lM_11 : 11 < TM.1 := by decide
theorem gM_11 : TM.2.1 11 = (11, 8) := rfl
theorem lM_12 : 12 < TM.1 := by decide
theorem gM_12 : TM.2.1 12 = (11, 16) := rfl
theorem lM_13 : 13 < TM.1 := by decide
theorem gM_13 : TM.2.1 13 = (11, 8) := rfl
theorem lM_14 : 14 < TM.1 := by decide
theorem gM_14 : TM.2.1 14 = (11, 4) := rfl
theorem lM_15 : 15 < TM.1 := by decide
theorem gM_15 : TM.2.1 15 = (13, 4) := rfl
theorem lM_16 : 16 < TM.1 := by decide
theorem gM_16 : TM.2.1 16 = (11, 9) := rfl
theorem lM_17 : 17 < TM.1 := by decide
theorem gM_17 : TM.2.1 17 = (11, 4) := rfl
theorem lM_18 : 18 < TM.1 := by decide
theorem gM_18 : TM.2.1 18 = (11, 4) := rfl
theorem lM_19 : 19 < TM.1 := by decide
theorem gM_19 : TM.2.1 19 = (11, 4) := rfl
theorem lM_20 : 20 < TM.1 := by decide
theorem gM_20 : TM.2.1 20 = (11, 4) := rfl
theorem lM_21 : 21 < TM.1 := by decide
theorem gM_21 : TM.2.1 21 = (11, 6) := rfl
theorem lM_22 : 22 < TM.1 := by decide
theorem gM_22 : TM.2.1 22 = (11, 6) := rfl
theorem lM_23 : 23 < TM.1 := by decide
theorem gM_23 : TM.2.1 23 = (13, 6) := rfl
theorem lM_24 : 24 < TM.1 := by decide
theorem gM_24 : TM.2.1 24 = (11, 15) := rfl
theorem lM_25 : 25 < TM.1 := by decide
theorem gM_25 : TM.2.1 25 = (11, 15) := rfl
theorem rM_0_0 : TM.2.2 0 0 = some 1 := rfl
theorem rM_0_1 : TM.2.2 0 1 = some 2 := rfl
theorem rM_0_6 : TM.2.2 0 6 = some 3 := rfl
theorem rM_0_8 : TM.2.2 0 8 = some 4 := rfl
theorem rM_0_10 : TM.2.2 0 10 = some 5 := rfl
theorem rM_0_11 : TM.2.2 0 11 = some 6 := rfl
theorem rM_0_13 : TM.2.2 0 13 = some 7 := rfl
theorem rM_0_14 : TM.2.2 0 14 = some 8 := rfl
theorem rM_0_15 : TM.2.2 0 15 = some 9 := rfl
theorem rM_0_25 : TM.2.2 0 25 = some 10 := rfl
theorem rM_0_27 : TM.2.2 0 27 = some 11 := rfl
theorem rM_0_29 : TM.2.2 0 29 = some 12 := rfl
theorem rM_0_31 : TM.2.2 0 31 = some 13 := rfl
theorem rM_0_32 : TM.2.2 0 32 = some 14 := rfl
theorem rM_0_33 : TM.2.2 0 33 = some 15 := rfl
theorem rM_0_34 : TM.2.2 0 34 = some 16 := rfl
theorem rM_0_35 : TM.2.2 0 35 = some 17 := rfl
theorem rM_0_36 : TM.2.2 0 36 = some 18 := rfl
theorem rM_0_37 : TM.2.2 0 37 = some 19 := rfl
theorem rM_0_38 : TM.2.2 0 38 = some 20 := rfl
theorem rM_0_40 : TM.2.2 0 40 = some 21 := rfl
theorem rM_0_41 : TM.2.2 0 41 = some 22 := rfl
theorem rM_0_42 : TM.2.2 0 42 = some 23 := rfl
theorem rM_0_44 : TM.2.2 0 44 = some 24 := rfl
theorem rM_0_45 : TM.2.2 0 45 = some 25 := rfl
def isSt (o : Nat) : Prop := ((o < TC.1 ∧ o + 1 < TC.1 ∧ o + 2 < TC.1 ∧ o + 3 < TC.1 ∧ o + 4 < TC.1) ∧ (TC.2.1 o = (8, 0) ∧ TC.2.1 (o + 1) = (11, 4) ∧ TC.2.1 (o + 2) = (11, 4) ∧ TC.2.1 (o + 3) = (11, 4) ∧ TC.2.1 (o + 4) = (11, 8))) ∧ (TC.2.2 o 2 = some (o + 1) ∧ TC.2.2 o 3 = some (o + 2) ∧ TC.2.2 o 4 = some (o + 3) ∧ TC.2.2 o 5 = some (o + 4))
theorem st_l0 {o : Nat} (h : isSt o) : o < TC.1 := h.1.1.1
theorem st_l1 {o : Nat} (h : isSt o) : o + 1 < TC.1 := h.1.1.2.1
theorem st_l2 {o : Nat} (h : isSt o) : o + 2 < TC.1 := h.1.1.2.2.1
theorem st_l3 {o : Nat} (h : isSt o) : o + 3 < TC.1 := h.1.1.2.2.2.1
theorem st_l4 {o : Nat} (h : isSt o) : o + 4 < TC.1 := h.1.1.2.2.2.2
theorem st_g0 {o : Nat} (h : isSt o) : TC.2.1 o = (8, 0) := h.1.2.1
theorem st_g1 {o : Nat} (h : isSt o) : TC.2.1 (o + 1) = (11, 4) := h.1.2.2.1
theorem st_g2 {o : Nat} (h : isSt o) : TC.2.1 (o + 2) = (11, 4) := h.1.2.2.2.1
theorem st_g3 {o : Nat} (h : isSt o) : TC.2.1 (o + 3) = (11, 4) := h.1.2.2.2.2.1
theorem st_g4 {o : Nat} (h : isSt o) : TC.2.1 (o + 4) = (11, 8) := h.1.2.2.2.2.2
theorem st_r2 {o : Nat} (h : isSt o) : TC.2.2 o 2 = some (o + 1) := h.2.1
theorem st_r3 {o : Nat} (h : isSt o) : TC.2.2 o 3 = some (o + 2) := h.2.2.1
theorem st_r4 {o : Nat} (h : isSt o) : TC.2.2 o 4 = some (o + 3) := h.2.2.2.1
theorem st_r5 {o : Nat} (h : isSt o) : TC.2.2 o 5 = some (o + 4) := h.2.2.2.2
theorem stC_9 : isSt 9 := by unfold isSt; decide
theorem stC_16 : isSt 16 := by unfold isSt; decide
theorem stC_22 : isSt 22 := by unfold isSt; decide
theorem stC_39 : isSt 39 := by unfold isSt; decide
theorem stC_44 : isSt 44 := by unfold isSt; decide
theorem stC_49 : isSt 49 := by unfold isSt; decide
theorem stC_54 : isSt 54 := by unfold isSt; decide
theorem stC_59 : isSt 59 := by unfold isSt; decide
theorem stC_64 : isSt 64 := by unfold isSt; decide
theorem stC_69 : isSt 69 := by unfold isSt; decide
theorem stC_74 : isSt 74 := by unfold isSt; decide
theorem stC_79 : isSt 79 := by unfold isSt; decide
theorem stC_84 : isSt 84 := by unfold isSt; decide
theorem stC_89 : isSt 89 := by unfold isSt; decide
theorem stC_94 : isSt 94 := by unfold isSt; decide
theorem stC_99 : isSt 99 := by unfold isSt; decide
theorem stC_104 : isSt 104 := by unfold isSt; decide
theorem stC_109 : isSt 109 := by unfold isSt; decide
theorem stC_114 : isSt 114 := by unfold isSt; decide
theorem stC_119 : isSt 119 := by unfold isSt; decide
theorem stC_124 : isSt 124 := by unfold isSt; decide
theorem stC_129 : isSt 129 := by unfold isSt; decide
theorem stC_134 : isSt 134 := by unfold isSt; decide
def isIm (o : Nat) : Prop := (o < TC.1 ∧ o + 1 < TC.1) ∧ (TC.2.1 o = (2, 0) ∧ TC.2.1 (o + 1) = (8, 0)) ∧ TC.2.2 o 0 = some (o + 1)
theorem im_l0 {o : Nat} (h : isIm o) : o < TC.1 := h.1.1
theorem im_l1 {o : Nat} (h : isIm o) : o + 1 < TC.1 := h.1.2
theorem im_g0 {o : Nat} (h : isIm o) : TC.2.1 o = (2, 0) := h.2.1.1
theorem im_g1 {o : Nat} (h : isIm o) : TC.2.1 (o + 1) = (8, 0) := h.2.1.2
theorem im_r0 {o : Nat} (h : isIm o) : TC.2.2 o 0 = some (o + 1) := h.2.2
theorem vp_in_lt {i : Int32} {n : Nat} (h : vp_in i n) : i.toNatClampNeg < n := Nat.not_le.mp fun q => h (Or.inr q)
theorem past_all : ∀ j, j < 20 → isSt (39 + 5 * j) ∧ TC.2.2 38 j = some (39 + 5 * j) := by unfold isSt; decide +kernel
theorem past_ok {i : Int32} (h : vp_in i 20) : isSt (39 + 5 * i.toNatClampNeg) := (past_all _ (vp_in_lt h)).1
theorem past_rf {i : Int32} (h : vp_in i 20) : TC.2.2 38 i.toNatClampNeg = some (39 + 5 * i.toNatClampNeg) := (past_all _ (vp_in_lt h)).2
theorem imgs_all : ∀ j, j < 2 → isIm (15 + 6 * j) ∧ TC.2.2 14 j = some (15 + 6 * j) := by unfold isIm; decide +kernel
theorem imgs_ok {i : Int32} (h : vp_in i 2) : isIm (15 + 6 * i.toNatClampNeg) := (imgs_all _ (vp_in_lt h)).1
theorem imgs_rf {i : Int32} (h : vp_in i 2) : TC.2.2 14 i.toNatClampNeg = some (15 + 6 * i.toNatClampNeg) := (imgs_all _ (vp_in_lt h)).2

section
-- ===== PART A: goes FIRST, ahead of the names: the tables' words, and 'selects' of the private methods out of them =====
/-- a private method of a class that the tables say can be made, by its rows of tables_1 -/
def lw_okq (q : MethodName × Nat) : Prop := (q.1.cls ≠ "java/lang/invoke/MethodHandle" ∧ q.1.cls ≠ "java/lang/invoke/VarHandle") ∧ Cond.instantiable q.1.cls q.2 ∈ tables_1 ∧ Cond.privateMethod q.1 ∈ tables_1 ∧ Cond.instanceMethod q.1 ∈ tables_1
theorem lw_p0 : lw_okq (⟨"TrayLands", "refusalOfMinutes", "(I)I"⟩, 9) := ⟨⟨by decide +kernel, by decide +kernel⟩, List.mem_of_getElem? (i := 16) (by decide +kernel), List.mem_of_getElem? (i := 550) (by decide +kernel), List.mem_of_getElem? (i := 551) (by decide +kernel)⟩
theorem lw_p1 : lw_okq (⟨"TrayLandsModel", "here", "()I"⟩, 46) := ⟨⟨by decide +kernel, by decide +kernel⟩, List.mem_of_getElem? (i := 918) (by decide +kernel), List.mem_of_getElem? (i := 1077) (by decide +kernel), List.mem_of_getElem? (i := 1078) (by decide +kernel)⟩
theorem lw_p2 : lw_okq (⟨"TrayLandsModel", "letterAt", "(I)I"⟩, 46) := ⟨⟨by decide +kernel, by decide +kernel⟩, List.mem_of_getElem? (i := 918) (by decide +kernel), List.mem_of_getElem? (i := 1081) (by decide +kernel), List.mem_of_getElem? (i := 1082) (by decide +kernel)⟩
theorem lw_p3 : lw_okq (⟨"TrayLandsModel", "takesClause", "()Z"⟩, 46) := ⟨⟨by decide +kernel, by decide +kernel⟩, List.mem_of_getElem? (i := 918) (by decide +kernel), List.mem_of_getElem? (i := 1085) (by decide +kernel), List.mem_of_getElem? (i := 1086) (by decide +kernel)⟩
theorem lw_p4 : lw_okq (⟨"TrayLandsModel", "fails", "(II)Z"⟩, 46) := ⟨⟨by decide +kernel, by decide +kernel⟩, List.mem_of_getElem? (i := 918) (by decide +kernel), List.mem_of_getElem? (i := 1089) (by decide +kernel), List.mem_of_getElem? (i := 1090) (by decide +kernel)⟩
theorem lw_p5 : lw_okq (⟨"TrayLandsModel", "takesWords", "(I)Z"⟩, 46) := ⟨⟨by decide +kernel, by decide +kernel⟩, List.mem_of_getElem? (i := 918) (by decide +kernel), List.mem_of_getElem? (i := 1093) (by decide +kernel), List.mem_of_getElem? (i := 1094) (by decide +kernel)⟩
theorem lw_p6 : lw_okq (⟨"TrayLandsModel", "takesHotel", "()Z"⟩, 46) := ⟨⟨by decide +kernel, by decide +kernel⟩, List.mem_of_getElem? (i := 918) (by decide +kernel), List.mem_of_getElem? (i := 1097) (by decide +kernel), List.mem_of_getElem? (i := 1098) (by decide +kernel)⟩
theorem lw_p7 : lw_okq (⟨"TrayLandsModel", "takesNumber", "(II)Z"⟩, 46) := ⟨⟨by decide +kernel, by decide +kernel⟩, List.mem_of_getElem? (i := 918) (by decide +kernel), List.mem_of_getElem? (i := 1101) (by decide +kernel), List.mem_of_getElem? (i := 1102) (by decide +kernel)⟩
theorem lw_p8 : lw_okq (⟨"TrayLandsModel", "takesPassage", "()Z"⟩, 46) := ⟨⟨by decide +kernel, by decide +kernel⟩, List.mem_of_getElem? (i := 918) (by decide +kernel), List.mem_of_getElem? (i := 1107) (by decide +kernel), List.mem_of_getElem? (i := 1108) (by decide +kernel)⟩
theorem lw_p9 : lw_okq (⟨"TrayLandsModel", "takesWaiter", "()Z"⟩, 46) := ⟨⟨by decide +kernel, by decide +kernel⟩, List.mem_of_getElem? (i := 918) (by decide +kernel), List.mem_of_getElem? (i := 1114) (by decide +kernel), List.mem_of_getElem? (i := 1115) (by decide +kernel)⟩
theorem lw_p10 : lw_okq (⟨"TrayLandsModel", "takesThing", "()Z"⟩, 46) := ⟨⟨by decide +kernel, by decide +kernel⟩, List.mem_of_getElem? (i := 918) (by decide +kernel), List.mem_of_getElem? (i := 1118) (by decide +kernel), List.mem_of_getElem? (i := 1119) (by decide +kernel)⟩
theorem lw_p11 : lw_okq (⟨"TrayLandsModel", "takesOrder", "()Z"⟩, 46) := ⟨⟨by decide +kernel, by decide +kernel⟩, List.mem_of_getElem? (i := 918) (by decide +kernel), List.mem_of_getElem? (i := 1122) (by decide +kernel), List.mem_of_getElem? (i := 1123) (by decide +kernel)⟩
theorem lw_p12 : lw_okq (⟨"TrayLandsModel", "takes", "(I)Z"⟩, 46) := ⟨⟨by decide +kernel, by decide +kernel⟩, List.mem_of_getElem? (i := 918) (by decide +kernel), List.mem_of_getElem? (i := 1126) (by decide +kernel), List.mem_of_getElem? (i := 1127) (by decide +kernel)⟩
theorem lw_p13 : lw_okq (⟨"TrayLandsModel", "thingsAt", "(II)I"⟩, 46) := ⟨⟨by decide +kernel, by decide +kernel⟩, List.mem_of_getElem? (i := 918) (by decide +kernel), List.mem_of_getElem? (i := 1138) (by decide +kernel), List.mem_of_getElem? (i := 1139) (by decide +kernel)⟩
theorem lw_p14 : lw_okq (⟨"TrayLandsModel", "worthOf", "(I)I"⟩, 46) := ⟨⟨by decide +kernel, by decide +kernel⟩, List.mem_of_getElem? (i := 918) (by decide +kernel), List.mem_of_getElem? (i := 1142) (by decide +kernel), List.mem_of_getElem? (i := 1143) (by decide +kernel)⟩
theorem lw_p15 : lw_okq (⟨"TrayLandsModel", "isRoom", "(I)Z"⟩, 46) := ⟨⟨by decide +kernel, by decide +kernel⟩, List.mem_of_getElem? (i := 918) (by decide +kernel), List.mem_of_getElem? (i := 1150) (by decide +kernel), List.mem_of_getElem? (i := 1151) (by decide +kernel)⟩
def lw_privs_1 : List (MethodName × Nat) := [(⟨"TrayLands", "refusalOfMinutes", "(I)I"⟩, 9), (⟨"TrayLandsModel", "here", "()I"⟩, 46), (⟨"TrayLandsModel", "letterAt", "(I)I"⟩, 46), (⟨"TrayLandsModel", "takesClause", "()Z"⟩, 46), (⟨"TrayLandsModel", "fails", "(II)Z"⟩, 46), (⟨"TrayLandsModel", "takesWords", "(I)Z"⟩, 46), (⟨"TrayLandsModel", "takesHotel", "()Z"⟩, 46), (⟨"TrayLandsModel", "takesNumber", "(II)Z"⟩, 46), (⟨"TrayLandsModel", "takesPassage", "()Z"⟩, 46), (⟨"TrayLandsModel", "takesWaiter", "()Z"⟩, 46), (⟨"TrayLandsModel", "takesThing", "()Z"⟩, 46), (⟨"TrayLandsModel", "takesOrder", "()Z"⟩, 46), (⟨"TrayLandsModel", "takes", "(I)Z"⟩, 46), (⟨"TrayLandsModel", "thingsAt", "(II)I"⟩, 46), (⟨"TrayLandsModel", "worthOf", "(I)I"⟩, 46), (⟨"TrayLandsModel", "isRoom", "(I)Z"⟩, 46)]
theorem lw_r1 : ∀ q ∈ lw_privs_1, lw_okq q := List.forall_mem_cons.mpr ⟨lw_p0, List.forall_mem_cons.mpr ⟨lw_p1, List.forall_mem_cons.mpr ⟨lw_p2, List.forall_mem_cons.mpr ⟨lw_p3, List.forall_mem_cons.mpr ⟨lw_p4, List.forall_mem_cons.mpr ⟨lw_p5, List.forall_mem_cons.mpr ⟨lw_p6, List.forall_mem_cons.mpr ⟨lw_p7, List.forall_mem_cons.mpr ⟨lw_p8, List.forall_mem_cons.mpr ⟨lw_p9, List.forall_mem_cons.mpr ⟨lw_p10, List.forall_mem_cons.mpr ⟨lw_p11, List.forall_mem_cons.mpr ⟨lw_p12, List.forall_mem_cons.mpr ⟨lw_p13, List.forall_mem_cons.mpr ⟨lw_p14, List.forall_mem_cons.mpr ⟨lw_p15, fun _ h => absurd h List.not_mem_nil⟩⟩⟩⟩⟩⟩⟩⟩⟩⟩⟩⟩⟩⟩⟩⟩
theorem lw_p16 : lw_okq (⟨"TrayLandsModel", "isWaiter", "(I)Z"⟩, 46) := ⟨⟨by decide +kernel, by decide +kernel⟩, List.mem_of_getElem? (i := 918) (by decide +kernel), List.mem_of_getElem? (i := 1159) (by decide +kernel), List.mem_of_getElem? (i := 1160) (by decide +kernel)⟩
theorem lw_p17 : lw_okq (⟨"TrayLandsModel", "onTray", "(II)I"⟩, 46) := ⟨⟨by decide +kernel, by decide +kernel⟩, List.mem_of_getElem? (i := 918) (by decide +kernel), List.mem_of_getElem? (i := 1163) (by decide +kernel), List.mem_of_getElem? (i := 1164) (by decide +kernel)⟩
theorem lw_p18 : lw_okq (⟨"TrayLandsModel", "weightOf", "(I)I"⟩, 46) := ⟨⟨by decide +kernel, by decide +kernel⟩, List.mem_of_getElem? (i := 918) (by decide +kernel), List.mem_of_getElem? (i := 1167) (by decide +kernel), List.mem_of_getElem? (i := 1168) (by decide +kernel)⟩
theorem lw_p19 : lw_okq (⟨"TrayLandsModel", "differs", "(II)I"⟩, 46) := ⟨⟨by decide +kernel, by decide +kernel⟩, List.mem_of_getElem? (i := 918) (by decide +kernel), List.mem_of_getElem? (i := 1171) (by decide +kernel), List.mem_of_getElem? (i := 1172) (by decide +kernel)⟩
theorem lw_p20 : lw_okq (⟨"TrayLandsModel", "isThing", "(I)Z"⟩, 46) := ⟨⟨by decide +kernel, by decide +kernel⟩, List.mem_of_getElem? (i := 918) (by decide +kernel), List.mem_of_getElem? (i := 1179) (by decide +kernel), List.mem_of_getElem? (i := 1180) (by decide +kernel)⟩
theorem lw_p21 : lw_okq (⟨"TrayLandsModel", "whose", "(I)I"⟩, 46) := ⟨⟨by decide +kernel, by decide +kernel⟩, List.mem_of_getElem? (i := 918) (by decide +kernel), List.mem_of_getElem? (i := 1183) (by decide +kernel), List.mem_of_getElem? (i := 1184) (by decide +kernel)⟩
theorem lw_p22 : lw_okq (⟨"TrayLandsModel", "copy", "(II)V"⟩, 46) := ⟨⟨by decide +kernel, by decide +kernel⟩, List.mem_of_getElem? (i := 918) (by decide +kernel), List.mem_of_getElem? (i := 1192) (by decide +kernel), List.mem_of_getElem? (i := 1193) (by decide +kernel)⟩
theorem lw_p23 : lw_okq (⟨"TrayLandsModel", "minds", "()V"⟩, 46) := ⟨⟨by decide +kernel, by decide +kernel⟩, List.mem_of_getElem? (i := 918) (by decide +kernel), List.mem_of_getElem? (i := 1201) (by decide +kernel), List.mem_of_getElem? (i := 1202) (by decide +kernel)⟩
theorem lw_p24 : lw_okq (⟨"TrayLandsModel", "passes", "(I)V"⟩, 46) := ⟨⟨by decide +kernel, by decide +kernel⟩, List.mem_of_getElem? (i := 918) (by decide +kernel), List.mem_of_getElem? (i := 1205) (by decide +kernel), List.mem_of_getElem? (i := 1206) (by decide +kernel)⟩
theorem lw_p25 : lw_okq (⟨"TrayLandsModel", "walks", "(II)V"⟩, 46) := ⟨⟨by decide +kernel, by decide +kernel⟩, List.mem_of_getElem? (i := 918) (by decide +kernel), List.mem_of_getElem? (i := 1209) (by decide +kernel), List.mem_of_getElem? (i := 1210) (by decide +kernel)⟩
theorem lw_p26 : lw_okq (⟨"TrayLandsModel", "haveMet", "(III)Z"⟩, 46) := ⟨⟨by decide +kernel, by decide +kernel⟩, List.mem_of_getElem? (i := 918) (by decide +kernel), List.mem_of_getElem? (i := 1213) (by decide +kernel), List.mem_of_getElem? (i := 1214) (by decide +kernel)⟩
theorem lw_p27 : lw_okq (⟨"TrayLandsModel", "spills", "(II)V"⟩, 46) := ⟨⟨by decide +kernel, by decide +kernel⟩, List.mem_of_getElem? (i := 918) (by decide +kernel), List.mem_of_getElem? (i := 1217) (by decide +kernel), List.mem_of_getElem? (i := 1218) (by decide +kernel)⟩
theorem lw_p28 : lw_okq (⟨"TrayLandsModel", "areTwo", "(II)Z"⟩, 46) := ⟨⟨by decide +kernel, by decide +kernel⟩, List.mem_of_getElem? (i := 918) (by decide +kernel), List.mem_of_getElem? (i := 1238) (by decide +kernel), List.mem_of_getElem? (i := 1239) (by decide +kernel)⟩
theorem lw_p29 : lw_okq (⟨"TrayLandsModel", "draw", "(I)I"⟩, 46) := ⟨⟨by decide +kernel, by decide +kernel⟩, List.mem_of_getElem? (i := 918) (by decide +kernel), List.mem_of_getElem? (i := 1246) (by decide +kernel), List.mem_of_getElem? (i := 1247) (by decide +kernel)⟩
theorem lw_p30 : lw_okq (⟨"TrayLandsModel", "tries", "()V"⟩, 46) := ⟨⟨by decide +kernel, by decide +kernel⟩, List.mem_of_getElem? (i := 918) (by decide +kernel), List.mem_of_getElem? (i := 1265) (by decide +kernel), List.mem_of_getElem? (i := 1266) (by decide +kernel)⟩
theorem lw_p31 : lw_okq (⟨"TrayLandsModel", "walksAll", "()V"⟩, 46) := ⟨⟨by decide +kernel, by decide +kernel⟩, List.mem_of_getElem? (i := 918) (by decide +kernel), List.mem_of_getElem? (i := 1269) (by decide +kernel), List.mem_of_getElem? (i := 1270) (by decide +kernel)⟩
def lw_privs_2 : List (MethodName × Nat) := [(⟨"TrayLandsModel", "isWaiter", "(I)Z"⟩, 46), (⟨"TrayLandsModel", "onTray", "(II)I"⟩, 46), (⟨"TrayLandsModel", "weightOf", "(I)I"⟩, 46), (⟨"TrayLandsModel", "differs", "(II)I"⟩, 46), (⟨"TrayLandsModel", "isThing", "(I)Z"⟩, 46), (⟨"TrayLandsModel", "whose", "(I)I"⟩, 46), (⟨"TrayLandsModel", "copy", "(II)V"⟩, 46), (⟨"TrayLandsModel", "minds", "()V"⟩, 46), (⟨"TrayLandsModel", "passes", "(I)V"⟩, 46), (⟨"TrayLandsModel", "walks", "(II)V"⟩, 46), (⟨"TrayLandsModel", "haveMet", "(III)Z"⟩, 46), (⟨"TrayLandsModel", "spills", "(II)V"⟩, 46), (⟨"TrayLandsModel", "areTwo", "(II)Z"⟩, 46), (⟨"TrayLandsModel", "draw", "(I)I"⟩, 46), (⟨"TrayLandsModel", "tries", "()V"⟩, 46), (⟨"TrayLandsModel", "walksAll", "()V"⟩, 46)]
theorem lw_r2 : ∀ q ∈ lw_privs_2, lw_okq q := List.forall_mem_cons.mpr ⟨lw_p16, List.forall_mem_cons.mpr ⟨lw_p17, List.forall_mem_cons.mpr ⟨lw_p18, List.forall_mem_cons.mpr ⟨lw_p19, List.forall_mem_cons.mpr ⟨lw_p20, List.forall_mem_cons.mpr ⟨lw_p21, List.forall_mem_cons.mpr ⟨lw_p22, List.forall_mem_cons.mpr ⟨lw_p23, List.forall_mem_cons.mpr ⟨lw_p24, List.forall_mem_cons.mpr ⟨lw_p25, List.forall_mem_cons.mpr ⟨lw_p26, List.forall_mem_cons.mpr ⟨lw_p27, List.forall_mem_cons.mpr ⟨lw_p28, List.forall_mem_cons.mpr ⟨lw_p29, List.forall_mem_cons.mpr ⟨lw_p30, List.forall_mem_cons.mpr ⟨lw_p31, fun _ h => absurd h List.not_mem_nil⟩⟩⟩⟩⟩⟩⟩⟩⟩⟩⟩⟩⟩⟩⟩⟩
theorem lw_p32 : lw_okq (⟨"TrayLandsModel", "wayOf", "(II)I"⟩, 46) := ⟨⟨by decide +kernel, by decide +kernel⟩, List.mem_of_getElem? (i := 918) (by decide +kernel), List.mem_of_getElem? (i := 1281) (by decide +kernel), List.mem_of_getElem? (i := 1282) (by decide +kernel)⟩
theorem lw_p33 : lw_okq (⟨"TrayLandsModel", "nextOf", "(II)I"⟩, 46) := ⟨⟨by decide +kernel, by decide +kernel⟩, List.mem_of_getElem? (i := 918) (by decide +kernel), List.mem_of_getElem? (i := 1286) (by decide +kernel), List.mem_of_getElem? (i := 1287) (by decide +kernel)⟩
theorem lw_p34 : lw_okq (⟨"TrayLandsModel", "isApart", "()Z"⟩, 46) := ⟨⟨by decide +kernel, by decide +kernel⟩, List.mem_of_getElem? (i := 918) (by decide +kernel), List.mem_of_getElem? (i := 1294) (by decide +kernel), List.mem_of_getElem? (i := 1295) (by decide +kernel)⟩
theorem lw_p35 : lw_okq (⟨"TrayLandsModel", "servedBy", "(I)I"⟩, 46) := ⟨⟨by decide +kernel, by decide +kernel⟩, List.mem_of_getElem? (i := 918) (by decide +kernel), List.mem_of_getElem? (i := 1302) (by decide +kernel), List.mem_of_getElem? (i := 1303) (by decide +kernel)⟩
theorem lw_p36 : lw_okq (⟨"TrayLandsModel", "spillers", "()I"⟩, 46) := ⟨⟨by decide +kernel, by decide +kernel⟩, List.mem_of_getElem? (i := 918) (by decide +kernel), List.mem_of_getElem? (i := 1332) (by decide +kernel), List.mem_of_getElem? (i := 1333) (by decide +kernel)⟩
theorem lw_p37 : lw_okq (⟨"TrayLandsModel", "comesTo", "(II)I"⟩, 46) := ⟨⟨by decide +kernel, by decide +kernel⟩, List.mem_of_getElem? (i := 918) (by decide +kernel), List.mem_of_getElem? (i := 1336) (by decide +kernel), List.mem_of_getElem? (i := 1337) (by decide +kernel)⟩
def lw_privs_3 : List (MethodName × Nat) := [(⟨"TrayLandsModel", "wayOf", "(II)I"⟩, 46), (⟨"TrayLandsModel", "nextOf", "(II)I"⟩, 46), (⟨"TrayLandsModel", "isApart", "()Z"⟩, 46), (⟨"TrayLandsModel", "servedBy", "(I)I"⟩, 46), (⟨"TrayLandsModel", "spillers", "()I"⟩, 46), (⟨"TrayLandsModel", "comesTo", "(II)I"⟩, 46)]
theorem lw_r3 : ∀ q ∈ lw_privs_3, lw_okq q := List.forall_mem_cons.mpr ⟨lw_p32, List.forall_mem_cons.mpr ⟨lw_p33, List.forall_mem_cons.mpr ⟨lw_p34, List.forall_mem_cons.mpr ⟨lw_p35, List.forall_mem_cons.mpr ⟨lw_p36, List.forall_mem_cons.mpr ⟨lw_p37, fun _ h => absurd h List.not_mem_nil⟩⟩⟩⟩⟩⟩
def lw_privs : List (MethodName × Nat) := lw_privs_1 ++ (lw_privs_2 ++ (lw_privs_3))
def lw_tbl : List Cond := k2_sels lw_privs ++ tables_1
theorem lw_privs_ok : ∀ q ∈ lw_privs, lw_okq q := by
  show ∀ q ∈ lw_privs_1 ++ (lw_privs_2 ++ (lw_privs_3)), lw_okq q
  exact List.forall_mem_append.mpr ⟨lw_r1, List.forall_mem_append.mpr ⟨lw_r2, lw_r3⟩⟩
-- ===== end of PART A; then your names; then what follows =====
end
section
def RX0 : String := "TrayLands$Clock"
def TX0 : u_T := fun k => match k with
  | 0 => ("TrayLands$Clock", "plan", "LTrayLands$Plan;", true)
  | 1 => ("TrayLands$Clock", "now", "LTrayLands$State;", true)
  | 2 => ("TrayLands$Clock", "before", "[I", true)
  | _ => ("TrayLands$Clock", "seedNow", "I", false)
def tyX0 : Nat → FieldType := fun k => match k with
  | 0 => .object "TrayLands$Plan"
  | 1 => .object "TrayLands$State"
  | 2 => .array .int
  | _ => .int
theorem nmX0 : ∀ a, a < 4 → ∀ b, b < 4 → a ≠ b → (TX0 a).2.1 ≠ (TX0 b).2.1 := by decide +kernel
theorem tyX0_ok : ∀ k, k < 4 → parseFieldDescriptor (TX0 k).2.2.1 = some (tyX0 k) := by decide +kernel
abbrev cX0_init : ByteArray := prog_2_method_1_code
def yX0_init : MethodName := ⟨RX0, "<init>", "(LTrayLands$Plan;LTrayLands$State;)V"⟩
abbrev cX0_slant : ByteArray := prog_2_method_2_code
def yX0_slant : MethodName := ⟨RX0, "slant", "(I)I"⟩
abbrev cX0_tick : ByteArray := prog_2_method_3_code
def yX0_tick : MethodName := ⟨RX0, "tick", "()V"⟩
abbrev cX0_countMeetings : ByteArray := prog_2_method_4_code
def yX0_countMeetings : MethodName := ⟨RX0, "countMeetings", "()I"⟩
abbrev cX0_haveMet : ByteArray := prog_2_method_5_code
def yX0_haveMet : MethodName := ⟨RX0, "haveMet", "(II)Z"⟩
abbrev cX0_meetBetween : ByteArray := prog_2_method_6_code
def yX0_meetBetween : MethodName := ⟨RX0, "meetBetween", "(IIII)Z"⟩
abbrev cX0_drawRoute : ByteArray := prog_2_method_7_code
def yX0_drawRoute : MethodName := ⟨RX0, "drawRoute", "()V"⟩
abbrev cX0_draw : ByteArray := prog_2_method_8_code
def yX0_draw : MethodName := ⟨RX0, "draw", "(I)I"⟩
abbrev cX0_memberOf : ByteArray := prog_2_method_9_code
def yX0_memberOf : MethodName := ⟨RX0, "memberOf", "(II)I"⟩
def RX1 : String := "TrayLands$Delays"
def TX1 : u_T := fun k => match k with
  | 0 => ("TrayLands$Delays", "plan", "LTrayLands$Plan;", true)
  | 1 => ("TrayLands$Delays", "now", "LTrayLands$State;", true)
  | 2 => ("TrayLands$Delays", "tracks", "[I", true)
  | 3 => ("TrayLands$Delays", "steps", "[I", true)
  | 4 => ("TrayLands$Delays", "clashes", "[I", true)
  | 5 => ("TrayLands$Delays", "waits", "[I", true)
  | 6 => ("TrayLands$Delays", "best", "[I", true)
  | _ => ("TrayLands$Delays", "soonest", "I", false)
def tyX1 : Nat → FieldType := fun k => match k with
  | 0 => .object "TrayLands$Plan"
  | 1 => .object "TrayLands$State"
  | 2 => .array .int
  | 3 => .array .int
  | 4 => .array .int
  | 5 => .array .int
  | 6 => .array .int
  | _ => .int
theorem nmX1 : ∀ a, a < 8 → ∀ b, b < 8 → a ≠ b → (TX1 a).2.1 ≠ (TX1 b).2.1 := by decide +kernel
theorem tyX1_ok : ∀ k, k < 8 → parseFieldDescriptor (TX1 k).2.2.1 = some (tyX1 k) := by decide +kernel
abbrev cX1_init : ByteArray := prog_3_method_1_code
def yX1_init : MethodName := ⟨RX1, "<init>", "(LTrayLands$Plan;LTrayLands$State;)V"⟩
abbrev cX1_firstMeeting : ByteArray := prog_3_method_2_code
def yX1_firstMeeting : MethodName := ⟨RX1, "firstMeeting", "(II)I"⟩
abbrev cX1_answer : ByteArray := prog_3_method_3_code
def yX1_answer : MethodName := ⟨RX1, "answer", "(I)I"⟩
abbrev cX1_seek : ByteArray := prog_3_method_4_code
def yX1_seek : MethodName := ⟨RX1, "seek", "()V"⟩
abbrev cX1_layTracks : ByteArray := prog_3_method_5_code
def yX1_layTracks : MethodName := ⟨RX1, "layTracks", "()V"⟩
abbrev cX1_trackAt : ByteArray := prog_3_method_6_code
def yX1_trackAt : MethodName := ⟨RX1, "trackAt", "(II)I"⟩
abbrev cX1_meetingOf : ByteArray := prog_3_method_7_code
def yX1_meetingOf : MethodName := ⟨RX1, "meetingOf", "(IIII)I"⟩
abbrev cX1_markClashes : ByteArray := prog_3_method_8_code
def yX1_markClashes : MethodName := ⟨RX1, "markClashes", "()V"⟩
abbrev cX1_setClashes : ByteArray := prog_3_method_9_code
def yX1_setClashes : MethodName := ⟨RX1, "setClashes", "(II)V"⟩
abbrev cX1_haveClash : ByteArray := prog_3_method_10_code
def yX1_haveClash : MethodName := ⟨RX1, "haveClash", "()Z"⟩
abbrev cX1_endOfAll : ByteArray := prog_3_method_11_code
def yX1_endOfAll : MethodName := ⟨RX1, "endOfAll", "()I"⟩
def RX2 : String := "TrayLands$Image"
def TX2 : u_T := fun k => match k with
  | 0 => ("TrayLands$Image", "state", "LTrayLands$State;", true)
  | 1 => ("TrayLands$Image", "seedThen", "I", false)
  | _ => ("TrayLands$Image", "kept", "Z", false)
def tyX2 : Nat → FieldType := fun k => match k with
  | 0 => .object "TrayLands$State"
  | 1 => .int
  | _ => .boolean
theorem nmX2 : ∀ a, a < 3 → ∀ b, b < 3 → a ≠ b → (TX2 a).2.1 ≠ (TX2 b).2.1 := by decide +kernel
theorem tyX2_ok : ∀ k, k < 3 → parseFieldDescriptor (TX2 k).2.2.1 = some (tyX2 k) := by decide +kernel
abbrev cX2_init : ByteArray := prog_4_method_1_code
def yX2_init : MethodName := ⟨RX2, "<init>", "()V"⟩
def RX3 : String := "TrayLands$Notes"
def TX3 : u_T := fun k => match k with
  | 0 => ("TrayLands$Notes", "plan", "LTrayLands$Plan;", true)
  | 1 => ("TrayLands$Notes", "now", "LTrayLands$State;", true)
  | 2 => ("TrayLands$Notes", "seenRooms", "[I", true)
  | 3 => ("TrayLands$Notes", "seenMinutes", "[I", true)
  | 4 => ("TrayLands$Notes", "seenPink", "[Z", true)
  | 5 => ("TrayLands$Notes", "bookWaiters", "[I", true)
  | 6 => ("TrayLands$Notes", "bookRooms", "[I", true)
  | 7 => ("TrayLands$Notes", "seen", "I", false)
  | _ => ("TrayLands$Notes", "written", "I", false)
def tyX3 : Nat → FieldType := fun k => match k with
  | 0 => .object "TrayLands$Plan"
  | 1 => .object "TrayLands$State"
  | 2 => .array .int
  | 3 => .array .int
  | 4 => .array .boolean
  | 5 => .array .int
  | 6 => .array .int
  | 7 => .int
  | _ => .int
theorem nmX3 : ∀ a, a < 9 → ∀ b, b < 9 → a ≠ b → (TX3 a).2.1 ≠ (TX3 b).2.1 := by decide +kernel
theorem tyX3_ok : ∀ k, k < 9 → parseFieldDescriptor (TX3 k).2.2.1 = some (tyX3 k) := by decide +kernel
abbrev cX3_init : ByteArray := prog_5_method_1_code
def yX3_init : MethodName := ⟨RX3, "<init>", "(LTrayLands$Plan;LTrayLands$State;)V"⟩
abbrev cX3_clear : ByteArray := prog_5_method_2_code
def yX3_clear : MethodName := ⟨RX3, "clear", "()V"⟩
abbrev cX3_addSight : ByteArray := prog_5_method_3_code
def yX3_addSight : MethodName := ⟨RX3, "addSight", "(IIZ)Z"⟩
abbrev cX3_addEntry : ByteArray := prog_5_method_4_code
def yX3_addEntry : MethodName := ⟨RX3, "addEntry", "(II)Z"⟩
abbrev cX3_suspects : ByteArray := prog_5_method_5_code
def yX3_suspects : MethodName := ⟨RX3, "suspects", "()I"⟩
abbrev cX3_fitsAllSeen : ByteArray := prog_5_method_6_code
def yX3_fitsAllSeen : MethodName := ⟨RX3, "fitsAllSeen", "(I)Z"⟩
abbrev cX3_bestRoom : ByteArray := prog_5_method_7_code
def yX3_bestRoom : MethodName := ⟨RX3, "bestRoom", "()I"⟩
abbrev cX3_countComingTo : ByteArray := prog_5_method_8_code
def yX3_countComingTo : MethodName := ⟨RX3, "countComingTo", "(II)I"⟩
abbrev cX3_firstWrong : ByteArray := prog_5_method_9_code
def yX3_firstWrong : MethodName := ⟨RX3, "firstWrong", "()I"⟩
def RX4 : String := "TrayLands$Past"
def TX4 : u_T := fun k => match k with
  | 0 => ("TrayLands$Past", "states", "[LTrayLands$State;", true)
  | 1 => ("TrayLands$Past", "next", "I", false)
  | _ => ("TrayLands$Past", "kept", "I", false)
def tyX4 : Nat → FieldType := fun k => match k with
  | 0 => .array (.object "TrayLands$State")
  | 1 => .int
  | _ => .int
theorem nmX4 : ∀ a, a < 3 → ∀ b, b < 3 → a ≠ b → (TX4 a).2.1 ≠ (TX4 b).2.1 := by decide +kernel
theorem tyX4_ok : ∀ k, k < 3 → parseFieldDescriptor (TX4 k).2.2.1 = some (tyX4 k) := by decide +kernel
abbrev cX4_init : ByteArray := prog_6_method_1_code
def yX4_init : MethodName := ⟨RX4, "<init>", "()V"⟩
abbrev cX4_forget : ByteArray := prog_6_method_2_code
def yX4_forget : MethodName := ⟨RX4, "forget", "()V"⟩
abbrev cX4_remember : ByteArray := prog_6_method_3_code
def yX4_remember : MethodName := ⟨RX4, "remember", "(LTrayLands$State;)V"⟩
abbrev cX4_bringBack : ByteArray := prog_6_method_4_code
def yX4_bringBack : MethodName := ⟨RX4, "bringBack", "(LTrayLands$State;)Z"⟩
def RX5 : String := "TrayLands$Plan"
def TX5 : u_T := fun k => match k with
  | 0 => ("TrayLands$Plan", "rooms", "I", false)
  | 1 => ("TrayLands$Plan", "slack", "I", false)
  | 2 => ("TrayLands$Plan", "passages", "I", false)
  | 3 => ("TrayLands$Plan", "waiters", "I", false)
  | 4 => ("TrayLands$Plan", "things", "I", false)
  | 5 => ("TrayLands$Plan", "orders", "I", false)
  | 6 => ("TrayLands$Plan", "joined", "[I", true)
  | 7 => ("TrayLands$Plan", "starts", "[I", true)
  | 8 => ("TrayLands$Plan", "carries", "[I", true)
  | 9 => ("TrayLands$Plan", "weights", "[I", true)
  | 10 => ("TrayLands$Plan", "worths", "[I", true)
  | 11 => ("TrayLands$Plan", "orderRooms", "[I", true)
  | _ => ("TrayLands$Plan", "orderMinutes", "[I", true)
def tyX5 : Nat → FieldType := fun k => match k with
  | 0 => .int
  | 1 => .int
  | 2 => .int
  | 3 => .int
  | 4 => .int
  | 5 => .int
  | 6 => .array .int
  | 7 => .array .int
  | 8 => .array .int
  | 9 => .array .int
  | 10 => .array .int
  | 11 => .array .int
  | _ => .array .int
theorem nmX5 : ∀ a, a < 13 → ∀ b, b < 13 → a ≠ b → (TX5 a).2.1 ≠ (TX5 b).2.1 := by decide +kernel
theorem tyX5_ok : ∀ k, k < 13 → parseFieldDescriptor (TX5 k).2.2.1 = some (tyX5 k) := by decide +kernel
abbrev cX5_init : ByteArray := prog_7_method_1_code
def yX5_init : MethodName := ⟨RX5, "<init>", "()V"⟩
abbrev cX5_clear : ByteArray := prog_7_method_2_code
def yX5_clear : MethodName := ⟨RX5, "clear", "()V"⟩
abbrev cX5_become : ByteArray := prog_7_method_3_code
def yX5_become : MethodName := ⟨RX5, "become", "(LTrayLands$Plan;)V"⟩
abbrev cX5_hasRoom : ByteArray := prog_7_method_4_code
def yX5_hasRoom : MethodName := ⟨RX5, "hasRoom", "(I)Z"⟩
abbrev cX5_hasWaiter : ByteArray := prog_7_method_5_code
def yX5_hasWaiter : MethodName := ⟨RX5, "hasWaiter", "(I)Z"⟩
abbrev cX5_hasTwoWaiters : ByteArray := prog_7_method_6_code
def yX5_hasTwoWaiters : MethodName := ⟨RX5, "hasTwoWaiters", "(II)Z"⟩
abbrev cX5_hasThing : ByteArray := prog_7_method_7_code
def yX5_hasThing : MethodName := ⟨RX5, "hasThing", "(I)Z"⟩
abbrev cX5_hasOrder : ByteArray := prog_7_method_8_code
def yX5_hasOrder : MethodName := ⟨RX5, "hasOrder", "(I)Z"⟩
abbrev cX5_isFull : ByteArray := prog_7_method_9_code
def yX5_isFull : MethodName := ⟨RX5, "isFull", "(I)Z"⟩
abbrev cX5_add : ByteArray := prog_7_method_10_code
def yX5_add : MethodName := ⟨RX5, "add", "(III)V"⟩
abbrev cX5_join : ByteArray := prog_7_method_11_code
def yX5_join : MethodName := ⟨RX5, "join", "(II)V"⟩
abbrev cX5_joinedTo : ByteArray := prog_7_method_12_code
def yX5_joinedTo : MethodName := ⟨RX5, "joinedTo", "(I)I"⟩
abbrev cX5_joinedToAny : ByteArray := prog_7_method_13_code
def yX5_joinedToAny : MethodName := ⟨RX5, "joinedToAny", "(I)I"⟩
abbrev cX5_hasAllRooms : ByteArray := prog_7_method_14_code
def yX5_hasAllRooms : MethodName := ⟨RX5, "hasAllRooms", "(I)Z"⟩
abbrev cX5_canBeGone : ByteArray := prog_7_method_15_code
def yX5_canBeGone : MethodName := ⟨RX5, "canBeGone", "(II)Z"⟩
abbrev cX5_distance : ByteArray := prog_7_method_16_code
def yX5_distance : MethodName := ⟨RX5, "distance", "(II)I"⟩
abbrev cX5_nextTowards : ByteArray := prog_7_method_17_code
def yX5_nextTowards : MethodName := ⟨RX5, "nextTowards", "(II)I"⟩
abbrev cX5_weightOf : ByteArray := prog_7_method_18_code
def yX5_weightOf : MethodName := ⟨RX5, "weightOf", "(I)I"⟩
abbrev cX5_worthOf : ByteArray := prog_7_method_19_code
def yX5_worthOf : MethodName := ⟨RX5, "worthOf", "(I)I"⟩
abbrev cX5_sumOf : ByteArray := prog_7_method_20_code
def yX5_sumOf : MethodName := ⟨RX5, "sumOf", "([II)I"⟩
abbrev cX5_heaviestOf : ByteArray := prog_7_method_21_code
def yX5_heaviestOf : MethodName := ⟨RX5, "heaviestOf", "(I)I"⟩
abbrev cX5_difference : ByteArray := prog_7_method_22_code
def yX5_difference : MethodName := ⟨RX5, "difference", "(II)I"⟩
abbrev cX5_evenestLeft : ByteArray := prog_7_method_23_code
def yX5_evenestLeft : MethodName := ⟨RX5, "evenestLeft", "(I)I"⟩
abbrev cX5_worthiest : ByteArray := prog_7_method_24_code
def yX5_worthiest : MethodName := ⟨RX5, "worthiest", "(II)I"⟩
def RX6 : String := "TrayLands$Reader"
def TX6 : u_T := fun k => match k with
  | 0 => ("TrayLands$Reader", "draft", "LTrayLands$Plan;", true)
  | 1 => ("TrayLands$Reader", "text", "[C", true)
  | 2 => ("TrayLands$Reader", "letters", "I", false)
  | 3 => ("TrayLands$Reader", "faultAt", "I", false)
  | 4 => ("TrayLands$Reader", "faultKind", "I", false)
  | 5 => ("TrayLands$Reader", "spot", "I", false)
  | _ => ("TrayLands$Reader", "numberAt", "I", false)
def tyX6 : Nat → FieldType := fun k => match k with
  | 0 => .object "TrayLands$Plan"
  | 1 => .array .char
  | 2 => .int
  | 3 => .int
  | 4 => .int
  | 5 => .int
  | _ => .int
theorem nmX6 : ∀ a, a < 7 → ∀ b, b < 7 → a ≠ b → (TX6 a).2.1 ≠ (TX6 b).2.1 := by decide +kernel
theorem tyX6_ok : ∀ k, k < 7 → parseFieldDescriptor (TX6 k).2.2.1 = some (tyX6 k) := by decide +kernel
abbrev cX6_init : ByteArray := prog_8_method_1_code
def yX6_init : MethodName := ⟨RX6, "<init>", "()V"⟩
abbrev cX6_append : ByteArray := prog_8_method_2_code
def yX6_append : MethodName := ⟨RX6, "append", "(I)Z"⟩
abbrev cX6_readAll : ByteArray := prog_8_method_3_code
def yX6_readAll : MethodName := ⟨RX6, "readAll", "()I"⟩
abbrev cX6_readClause : ByteArray := prog_8_method_4_code
def yX6_readClause : MethodName := ⟨RX6, "readClause", "()V"⟩
abbrev cX6_faultOfWord : ByteArray := prog_8_method_5_code
def yX6_faultOfWord : MethodName := ⟨RX6, "faultOfWord", "(I)I"⟩
abbrev cX6_readNumber : ByteArray := prog_8_method_6_code
def yX6_readNumber : MethodName := ⟨RX6, "readNumber", "(II)I"⟩
abbrev cX6_readEnd : ByteArray := prog_8_method_7_code
def yX6_readEnd : MethodName := ⟨RX6, "readEnd", "()V"⟩
abbrev cX6_skipBlanks : ByteArray := prog_8_method_8_code
def yX6_skipBlanks : MethodName := ⟨RX6, "skipBlanks", "()V"⟩
abbrev cX6_letterAt : ByteArray := prog_8_method_9_code
def yX6_letterAt : MethodName := ⟨RX6, "letterAt", "(I)I"⟩
abbrev cX6_blame : ByteArray := prog_8_method_10_code
def yX6_blame : MethodName := ⟨RX6, "blame", "(II)V"⟩
abbrev cX6_firstLeast : ByteArray := prog_8_method_11_code
def yX6_firstLeast : MethodName := ⟨RX6, "firstLeast", "(I)I"⟩
abbrev cX6_firstMost : ByteArray := prog_8_method_12_code
def yX6_firstMost : MethodName := ⟨RX6, "firstMost", "(I)I"⟩
abbrev cX6_secondLeast : ByteArray := prog_8_method_13_code
def yX6_secondLeast : MethodName := ⟨RX6, "secondLeast", "(I)I"⟩
abbrev cX6_secondMost : ByteArray := prog_8_method_14_code
def yX6_secondMost : MethodName := ⟨RX6, "secondMost", "(I)I"⟩
abbrev cX6_isFigure : ByteArray := prog_8_method_15_code
def yX6_isFigure : MethodName := ⟨RX6, "isFigure", "(I)Z"⟩
def RX7 : String := "TrayLands$Service"
def TX7 : u_T := fun k => match k with
  | 0 => ("TrayLands$Service", "plan", "LTrayLands$Plan;", true)
  | 1 => ("TrayLands$Service", "now", "LTrayLands$State;", true)
  | 2 => ("TrayLands$Service", "inTime", "[I", true)
  | 3 => ("TrayLands$Service", "takers", "[I", true)
  | 4 => ("TrayLands$Service", "best", "[I", true)
  | _ => ("TrayLands$Service", "most", "I", false)
def tyX7 : Nat → FieldType := fun k => match k with
  | 0 => .object "TrayLands$Plan"
  | 1 => .object "TrayLands$State"
  | 2 => .array .int
  | 3 => .array .int
  | 4 => .array .int
  | _ => .int
theorem nmX7 : ∀ a, a < 6 → ∀ b, b < 6 → a ≠ b → (TX7 a).2.1 ≠ (TX7 b).2.1 := by decide +kernel
theorem tyX7_ok : ∀ k, k < 6 → parseFieldDescriptor (TX7 k).2.2.1 = some (tyX7 k) := by decide +kernel
abbrev cX7_init : ByteArray := prog_9_method_1_code
def yX7_init : MethodName := ⟨RX7, "<init>", "(LTrayLands$Plan;LTrayLands$State;)V"⟩
abbrev cX7_answer : ByteArray := prog_9_method_2_code
def yX7_answer : MethodName := ⟨RX7, "answer", "(I)I"⟩
abbrev cX7_seek : ByteArray := prog_9_method_3_code
def yX7_seek : MethodName := ⟨RX7, "seek", "()V"⟩
abbrev cX7_markInTime : ByteArray := prog_9_method_4_code
def yX7_markInTime : MethodName := ⟨RX7, "markInTime", "()V"⟩
abbrev cX7_ordersTaken : ByteArray := prog_9_method_5_code
def yX7_ordersTaken : MethodName := ⟨RX7, "ordersTaken", "()I"⟩
def RX8 : String := "TrayLands$State"
def TX8 : u_T := fun k => match k with
  | 0 => ("TrayLands$State", "minutes", "I", false)
  | 1 => ("TrayLands$State", "meetings", "I", false)
  | 2 => ("TrayLands$State", "at", "[I", true)
  | 3 => ("TrayLands$State", "routes", "[I", true)
  | 4 => ("TrayLands$State", "treaties", "[I", true)
  | _ => ("TrayLands$State", "places", "[I", true)
def tyX8 : Nat → FieldType := fun k => match k with
  | 0 => .int
  | 1 => .int
  | 2 => .array .int
  | 3 => .array .int
  | 4 => .array .int
  | _ => .array .int
theorem nmX8 : ∀ a, a < 6 → ∀ b, b < 6 → a ≠ b → (TX8 a).2.1 ≠ (TX8 b).2.1 := by decide +kernel
theorem tyX8_ok : ∀ k, k < 6 → parseFieldDescriptor (TX8 k).2.2.1 = some (tyX8 k) := by decide +kernel
abbrev cX8_init : ByteArray := prog_10_method_1_code
def yX8_init : MethodName := ⟨RX8, "<init>", "()V"⟩
abbrev cX8_become : ByteArray := prog_10_method_2_code
def yX8_become : MethodName := ⟨RX8, "become", "(LTrayLands$State;)V"⟩
abbrev cX8_open : ByteArray := prog_10_method_3_code
def yX8_open : MethodName := ⟨RX8, "open", "(LTrayLands$Plan;)V"⟩
abbrev cX8_isSeat : ByteArray := prog_10_method_4_code
def yX8_isSeat : MethodName := ⟨RX8, "isSeat", "(I)Z"⟩
abbrev cX8_roomOf : ByteArray := prog_10_method_5_code
def yX8_roomOf : MethodName := ⟨RX8, "roomOf", "(I)I"⟩
abbrev cX8_routeOf : ByteArray := prog_10_method_6_code
def yX8_routeOf : MethodName := ⟨RX8, "routeOf", "(I)I"⟩
abbrev cX8_treatiesOf : ByteArray := prog_10_method_7_code
def yX8_treatiesOf : MethodName := ⟨RX8, "treatiesOf", "(I)I"⟩
abbrev cX8_placeOf : ByteArray := prog_10_method_8_code
def yX8_placeOf : MethodName := ⟨RX8, "placeOf", "(I)I"⟩
abbrev cX8_bearerOf : ByteArray := prog_10_method_9_code
def yX8_bearerOf : MethodName := ⟨RX8, "bearerOf", "(I)I"⟩
abbrev cX8_thingsAt : ByteArray := prog_10_method_10_code
def yX8_thingsAt : MethodName := ⟨RX8, "thingsAt", "(I)I"⟩
abbrev cX8_thingsOf : ByteArray := prog_10_method_11_code
def yX8_thingsOf : MethodName := ⟨RX8, "thingsOf", "(I)I"⟩
abbrev cX8_isAtHand : ByteArray := prog_10_method_12_code
def yX8_isAtHand : MethodName := ⟨RX8, "isAtHand", "(II)Z"⟩
abbrev cX8_put : ByteArray := prog_10_method_13_code
def yX8_put : MethodName := ⟨RX8, "put", "(II)V"⟩
abbrev cX8_setRoute : ByteArray := prog_10_method_14_code
def yX8_setRoute : MethodName := ⟨RX8, "setRoute", "(II)V"⟩
abbrev cX8_setTreaty : ByteArray := prog_10_method_15_code
def yX8_setTreaty : MethodName := ⟨RX8, "setTreaty", "(IIZ)V"⟩
abbrev cX8_step : ByteArray := prog_10_method_16_code
def yX8_step : MethodName := ⟨RX8, "step", "(I)V"⟩
abbrev cX8_roomAfter : ByteArray := prog_10_method_17_code
def yX8_roomAfter : MethodName := ⟨RX8, "roomAfter", "(II)I"⟩
abbrev cX8_roomsCameTo : ByteArray := prog_10_method_18_code
def yX8_roomsCameTo : MethodName := ⟨RX8, "roomsCameTo", "(II)I"⟩
def RX9 : String := "TrayLands"
def TX9 : u_T := fun k => match k with
  | 0 => ("TrayLands", "reader", "LTrayLands$Reader;", true)
  | 1 => ("TrayLands", "plan", "LTrayLands$Plan;", true)
  | 2 => ("TrayLands", "now", "LTrayLands$State;", true)
  | 3 => ("TrayLands", "past", "LTrayLands$Past;", true)
  | 4 => ("TrayLands", "clock", "LTrayLands$Clock;", true)
  | 5 => ("TrayLands", "delayed", "LTrayLands$Delays;", true)
  | 6 => ("TrayLands", "service", "LTrayLands$Service;", true)
  | 7 => ("TrayLands", "notes", "LTrayLands$Notes;", true)
  | _ => ("TrayLands", "images", "[LTrayLands$Image;", true)
def tyX9 : Nat → FieldType := fun k => match k with
  | 0 => .object "TrayLands$Reader"
  | 1 => .object "TrayLands$Plan"
  | 2 => .object "TrayLands$State"
  | 3 => .object "TrayLands$Past"
  | 4 => .object "TrayLands$Clock"
  | 5 => .object "TrayLands$Delays"
  | 6 => .object "TrayLands$Service"
  | 7 => .object "TrayLands$Notes"
  | _ => .array (.object "TrayLands$Image")
theorem nmX9 : ∀ a, a < 9 → ∀ b, b < 9 → a ≠ b → (TX9 a).2.1 ≠ (TX9 b).2.1 := by decide +kernel
theorem tyX9_ok : ∀ k, k < 9 → parseFieldDescriptor (TX9 k).2.2.1 = some (tyX9 k) := by decide +kernel
abbrev cX9_init : ByteArray := prog_1_method_1_code
def yX9_init : MethodName := ⟨RX9, "<init>", "()V"⟩
abbrev cX9_feed : ByteArray := prog_1_method_2_code
def yX9_feed : MethodName := ⟨RX9, "feed", "(I)I"⟩
abbrev cX9_hotel : ByteArray := prog_1_method_3_code
def yX9_hotel : MethodName := ⟨RX9, "hotel", "()I"⟩
abbrev cX9_fault : ByteArray := prog_1_method_4_code
def yX9_fault : MethodName := ⟨RX9, "fault", "()I"⟩
abbrev cX9_told : ByteArray := prog_1_method_5_code
def yX9_told : MethodName := ⟨RX9, "told", "(I)I"⟩
abbrev cX9_room : ByteArray := prog_1_method_6_code
def yX9_room : MethodName := ⟨RX9, "room", "(I)I"⟩
abbrev cX9_waiter : ByteArray := prog_1_method_7_code
def yX9_waiter : MethodName := ⟨RX9, "waiter", "(II)I"⟩
abbrev cX9_thing : ByteArray := prog_1_method_8_code
def yX9_thing : MethodName := ⟨RX9, "thing", "(II)I"⟩
abbrev cX9_minute : ByteArray := prog_1_method_9_code
def yX9_minute : MethodName := ⟨RX9, "minute", "(I)I"⟩
abbrev cX9_route : ByteArray := prog_1_method_10_code
def yX9_route : MethodName := ⟨RX9, "route", "(II)I"⟩
abbrev cX9_lay : ByteArray := prog_1_method_11_code
def yX9_lay : MethodName := ⟨RX9, "lay", "(III)I"⟩
abbrev cX9_takeOff : ByteArray := prog_1_method_12_code
def yX9_takeOff : MethodName := ⟨RX9, "takeOff", "(I)I"⟩
abbrev cX9_treaty : ByteArray := prog_1_method_13_code
def yX9_treaty : MethodName := ⟨RX9, "treaty", "(IIZ)I"⟩
abbrev cX9_drift : ByteArray := prog_1_method_14_code
def yX9_drift : MethodName := ⟨RX9, "drift", "(I)I"⟩
abbrev cX9_undo : ByteArray := prog_1_method_15_code
def yX9_undo : MethodName := ⟨RX9, "undo", "()I"⟩
abbrev cX9_where : ByteArray := prog_1_method_16_code
def yX9_where : MethodName := ⟨RX9, "where", "(II)I"⟩
abbrev cX9_meets : ByteArray := prog_1_method_17_code
def yX9_meets : MethodName := ⟨RX9, "meets", "(II)I"⟩
abbrev cX9_way : ByteArray := prog_1_method_18_code
def yX9_way : MethodName := ⟨RX9, "way", "(III)I"⟩
abbrev cX9_delays : ByteArray := prog_1_method_19_code
def yX9_delays : MethodName := ⟨RX9, "delays", "(I)I"⟩
abbrev cX9_served : ByteArray := prog_1_method_20_code
def yX9_served : MethodName := ⟨RX9, "served", "(I)I"⟩
abbrev cX9_evened : ByteArray := prog_1_method_21_code
def yX9_evened : MethodName := ⟨RX9, "evened", "(II)I"⟩
abbrev cX9_packed : ByteArray := prog_1_method_22_code
def yX9_packed : MethodName := ⟨RX9, "packed", "(II)I"⟩
abbrev cX9_covered : ByteArray := prog_1_method_23_code
def yX9_covered : MethodName := ⟨RX9, "covered", "(II)I"⟩
abbrev cX9_calm : ByteArray := prog_1_method_24_code
def yX9_calm : MethodName := ⟨RX9, "calm", "(II)I"⟩
abbrev cX9_see : ByteArray := prog_1_method_25_code
def yX9_see : MethodName := ⟨RX9, "see", "(IIZ)I"⟩
abbrev cX9_spiller : ByteArray := prog_1_method_26_code
def yX9_spiller : MethodName := ⟨RX9, "spiller", "()I"⟩
abbrev cX9_look : ByteArray := prog_1_method_27_code
def yX9_look : MethodName := ⟨RX9, "look", "()I"⟩
abbrev cX9_write : ByteArray := prog_1_method_28_code
def yX9_write : MethodName := ⟨RX9, "write", "(II)I"⟩
abbrev cX9_tear : ByteArray := prog_1_method_29_code
def yX9_tear : MethodName := ⟨RX9, "tear", "()I"⟩
abbrev cX9_judge : ByteArray := prog_1_method_30_code
def yX9_judge : MethodName := ⟨RX9, "judge", "()I"⟩
abbrev cX9_seed : ByteArray := prog_1_method_31_code
def yX9_seed : MethodName := ⟨RX9, "seed", "(I)I"⟩
abbrev cX9_keep : ByteArray := prog_1_method_32_code
def yX9_keep : MethodName := ⟨RX9, "keep", "(I)I"⟩
abbrev cX9_goBack : ByteArray := prog_1_method_33_code
def yX9_goBack : MethodName := ⟨RX9, "goBack", "(I)I"⟩
abbrev cX9_refusalOfMinutes : ByteArray := prog_1_method_34_code
def yX9_refusalOfMinutes : MethodName := ⟨RX9, "refusalOfMinutes", "(I)I"⟩
abbrev cX9_isForeseen : ByteArray := prog_1_method_35_code
def yX9_isForeseen : MethodName := ⟨RX9, "isForeseen", "(II)Z"⟩
abbrev cX9_has : ByteArray := prog_1_method_36_code
def yX9_has : MethodName := ⟨RX9, "has", "(II)Z"⟩
abbrev cX9_sideOf : ByteArray := prog_1_method_37_code
def yX9_sideOf : MethodName := ⟨RX9, "sideOf", "(II)I"⟩
abbrev cX9_stepsOf : ByteArray := prog_1_method_38_code
def yX9_stepsOf : MethodName := ⟨RX9, "stepsOf", "(I)I"⟩
abbrev cX9_turnedRound : ByteArray := prog_1_method_39_code
def yX9_turnedRound : MethodName := ⟨RX9, "turnedRound", "(I)I"⟩
abbrev cX9_spell : ByteArray := prog_1_method_40_code
def yX9_spell : MethodName := ⟨RX9, "spell", "(II[II)V"⟩
abbrev cX9_power : ByteArray := prog_1_method_41_code
def yX9_power : MethodName := ⟨RX9, "power", "(II)I"⟩
def RX10 : String := "TrayLandsModel"
def TX10 : u_T := fun k => match k with
  | 0 => ("TrayLandsModel", "w", "[I", true)
  | 1 => ("TrayLandsModel", "isKept", "[Z", true)
  | 2 => ("TrayLandsModel", "undoes", "I", false)
  | 3 => ("TrayLandsModel", "rooms", "I", false)
  | 4 => ("TrayLandsModel", "even", "I", false)
  | 5 => ("TrayLandsModel", "passages", "I", false)
  | 6 => ("TrayLandsModel", "joined", "[I", true)
  | 7 => ("TrayLandsModel", "waiters", "I", false)
  | 8 => ("TrayLandsModel", "carries", "[I", true)
  | 9 => ("TrayLandsModel", "things", "I", false)
  | 10 => ("TrayLandsModel", "weighs", "[I", true)
  | 11 => ("TrayLandsModel", "worth", "[I", true)
  | 12 => ("TrayLandsModel", "orders", "I", false)
  | 13 => ("TrayLandsModel", "orderRoom", "[I", true)
  | 14 => ("TrayLandsModel", "orderBy", "[I", true)
  | 15 => ("TrayLandsModel", "text", "[I", true)
  | 16 => ("TrayLandsModel", "texted", "I", false)
  | 17 => ("TrayLandsModel", "at", "I", false)
  | 18 => ("TrayLandsModel", "start", "I", false)
  | 19 => ("TrayLandsModel", "number", "I", false)
  | 20 => ("TrayLandsModel", "faulty", "I", false)
  | 21 => ("TrayLandsModel", "faultAt", "I", false)
  | 22 => ("TrayLandsModel", "readRooms", "I", false)
  | 23 => ("TrayLandsModel", "readEven", "I", false)
  | 24 => ("TrayLandsModel", "readPassages", "I", false)
  | 25 => ("TrayLandsModel", "readJoined", "[I", true)
  | 26 => ("TrayLandsModel", "readWaiters", "I", false)
  | 27 => ("TrayLandsModel", "readWaiter", "[I", true)
  | 28 => ("TrayLandsModel", "readThings", "I", false)
  | 29 => ("TrayLandsModel", "readThing", "[I", true)
  | 30 => ("TrayLandsModel", "readOrders", "I", false)
  | 31 => ("TrayLandsModel", "readOrder", "[I", true)
  | 32 => ("TrayLandsModel", "was", "[I", true)
  | 33 => ("TrayLandsModel", "went", "[Z", true)
  | 34 => ("TrayLandsModel", "figures", "[I", true)
  | 35 => ("TrayLandsModel", "waits", "[I", true)
  | 36 => ("TrayLandsModel", "bestWaits", "[I", true)
  | 37 => ("TrayLandsModel", "given", "[I", true)
  | 38 => ("TrayLandsModel", "bestGiven", "[I", true)
  | 39 => ("TrayLandsModel", "seen", "I", false)
  | 40 => ("TrayLandsModel", "seenRoom", "[I", true)
  | 41 => ("TrayLandsModel", "seenBehind", "[I", true)
  | 42 => ("TrayLandsModel", "seenPink", "[Z", true)
  | 43 => ("TrayLandsModel", "booked", "I", false)
  | 44 => ("TrayLandsModel", "bookOf", "[I", true)
  | _ => ("TrayLandsModel", "bookRoom", "[I", true)
def tyX10 : Nat → FieldType := fun k => match k with
  | 0 => .array .int
  | 1 => .array .boolean
  | 2 => .int
  | 3 => .int
  | 4 => .int
  | 5 => .int
  | 6 => .array .int
  | 7 => .int
  | 8 => .array .int
  | 9 => .int
  | 10 => .array .int
  | 11 => .array .int
  | 12 => .int
  | 13 => .array .int
  | 14 => .array .int
  | 15 => .array .int
  | 16 => .int
  | 17 => .int
  | 18 => .int
  | 19 => .int
  | 20 => .int
  | 21 => .int
  | 22 => .int
  | 23 => .int
  | 24 => .int
  | 25 => .array .int
  | 26 => .int
  | 27 => .array .int
  | 28 => .int
  | 29 => .array .int
  | 30 => .int
  | 31 => .array .int
  | 32 => .array .int
  | 33 => .array .boolean
  | 34 => .array .int
  | 35 => .array .int
  | 36 => .array .int
  | 37 => .array .int
  | 38 => .array .int
  | 39 => .int
  | 40 => .array .int
  | 41 => .array .int
  | 42 => .array .boolean
  | 43 => .int
  | 44 => .array .int
  | _ => .array .int
theorem nmX10 : ∀ a, a < 46 → ∀ b, b < 46 → a ≠ b → (TX10 a).2.1 ≠ (TX10 b).2.1 := by decide +kernel
theorem tyX10_ok : ∀ k, k < 46 → parseFieldDescriptor (TX10 k).2.2.1 = some (tyX10 k) := by decide +kernel
abbrev cX10_init : ByteArray := prog_12_method_1_code
def yX10_init : MethodName := ⟨RX10, "<init>", "()V"⟩
abbrev cX10_in : ByteArray := prog_12_method_3_code
def yX10_in : MethodName := ⟨RX10, "in", "(JJJ)Z"⟩
abbrev cX10_has : ByteArray := prog_12_method_4_code
def yX10_has : MethodName := ⟨RX10, "has", "(II)Z"⟩
abbrev cX10_ones : ByteArray := prog_12_method_5_code
def yX10_ones : MethodName := ⟨RX10, "ones", "(I)I"⟩
abbrev cX10_copy : ByteArray := prog_12_method_6_code
def yX10_copy : MethodName := ⟨RX10, "copy", "(II)V"⟩
abbrev cX10_isRoom : ByteArray := prog_12_method_7_code
def yX10_isRoom : MethodName := ⟨RX10, "isRoom", "(I)Z"⟩
abbrev cX10_isWaiter : ByteArray := prog_12_method_8_code
def yX10_isWaiter : MethodName := ⟨RX10, "isWaiter", "(I)Z"⟩
abbrev cX10_areTwo : ByteArray := prog_12_method_9_code
def yX10_areTwo : MethodName := ⟨RX10, "areTwo", "(II)Z"⟩
abbrev cX10_isThing : ByteArray := prog_12_method_10_code
def yX10_isThing : MethodName := ⟨RX10, "isThing", "(I)Z"⟩
abbrev cX10_feed : ByteArray := prog_12_method_11_code
def yX10_feed : MethodName := ⟨RX10, "feed", "(I)I"⟩
abbrev cX10_letterAt : ByteArray := prog_12_method_12_code
def yX10_letterAt : MethodName := ⟨RX10, "letterAt", "(I)I"⟩
abbrev cX10_here : ByteArray := prog_12_method_13_code
def yX10_here : MethodName := ⟨RX10, "here", "()I"⟩
abbrev cX10_fails : ByteArray := prog_12_method_14_code
def yX10_fails : MethodName := ⟨RX10, "fails", "(II)Z"⟩
abbrev cX10_takes : ByteArray := prog_12_method_15_code
def yX10_takes : MethodName := ⟨RX10, "takes", "(I)Z"⟩
abbrev cX10_takesNumber : ByteArray := prog_12_method_16_code
def yX10_takesNumber : MethodName := ⟨RX10, "takesNumber", "(II)Z"⟩
abbrev cX10_takesHotel : ByteArray := prog_12_method_17_code
def yX10_takesHotel : MethodName := ⟨RX10, "takesHotel", "()Z"⟩
abbrev cX10_takesPassage : ByteArray := prog_12_method_18_code
def yX10_takesPassage : MethodName := ⟨RX10, "takesPassage", "()Z"⟩
abbrev cX10_takesWaiter : ByteArray := prog_12_method_19_code
def yX10_takesWaiter : MethodName := ⟨RX10, "takesWaiter", "()Z"⟩
abbrev cX10_takesThing : ByteArray := prog_12_method_20_code
def yX10_takesThing : MethodName := ⟨RX10, "takesThing", "()Z"⟩
abbrev cX10_takesOrder : ByteArray := prog_12_method_21_code
def yX10_takesOrder : MethodName := ⟨RX10, "takesOrder", "()Z"⟩
abbrev cX10_takesWords : ByteArray := prog_12_method_22_code
def yX10_takesWords : MethodName := ⟨RX10, "takesWords", "(I)Z"⟩
abbrev cX10_takesClause : ByteArray := prog_12_method_23_code
def yX10_takesClause : MethodName := ⟨RX10, "takesClause", "()Z"⟩
abbrev cX10_hotel : ByteArray := prog_12_method_24_code
def yX10_hotel : MethodName := ⟨RX10, "hotel", "()I"⟩
abbrev cX10_fault : ByteArray := prog_12_method_25_code
def yX10_fault : MethodName := ⟨RX10, "fault", "()I"⟩
abbrev cX10_thingsAt : ByteArray := prog_12_method_26_code
def yX10_thingsAt : MethodName := ⟨RX10, "thingsAt", "(II)I"⟩
abbrev cX10_weightOf : ByteArray := prog_12_method_27_code
def yX10_weightOf : MethodName := ⟨RX10, "weightOf", "(I)I"⟩
abbrev cX10_worthOf : ByteArray := prog_12_method_28_code
def yX10_worthOf : MethodName := ⟨RX10, "worthOf", "(I)I"⟩
abbrev cX10_told : ByteArray := prog_12_method_29_code
def yX10_told : MethodName := ⟨RX10, "told", "(I)I"⟩
abbrev cX10_room : ByteArray := prog_12_method_30_code
def yX10_room : MethodName := ⟨RX10, "room", "(I)I"⟩
abbrev cX10_onTray : ByteArray := prog_12_method_31_code
def yX10_onTray : MethodName := ⟨RX10, "onTray", "(II)I"⟩
abbrev cX10_differs : ByteArray := prog_12_method_32_code
def yX10_differs : MethodName := ⟨RX10, "differs", "(II)I"⟩
abbrev cX10_waiter : ByteArray := prog_12_method_33_code
def yX10_waiter : MethodName := ⟨RX10, "waiter", "(II)I"⟩
abbrev cX10_whose : ByteArray := prog_12_method_34_code
def yX10_whose : MethodName := ⟨RX10, "whose", "(I)I"⟩
abbrev cX10_thing : ByteArray := prog_12_method_35_code
def yX10_thing : MethodName := ⟨RX10, "thing", "(II)I"⟩
abbrev cX10_walks : ByteArray := prog_12_method_36_code
def yX10_walks : MethodName := ⟨RX10, "walks", "(II)V"⟩
abbrev cX10_haveMet : ByteArray := prog_12_method_37_code
def yX10_haveMet : MethodName := ⟨RX10, "haveMet", "(III)Z"⟩
abbrev cX10_spills : ByteArray := prog_12_method_38_code
def yX10_spills : MethodName := ⟨RX10, "spills", "(II)V"⟩
abbrev cX10_passes : ByteArray := prog_12_method_39_code
def yX10_passes : MethodName := ⟨RX10, "passes", "(I)V"⟩
abbrev cX10_minds : ByteArray := prog_12_method_40_code
def yX10_minds : MethodName := ⟨RX10, "minds", "()V"⟩
abbrev cX10_undo : ByteArray := prog_12_method_41_code
def yX10_undo : MethodName := ⟨RX10, "undo", "()I"⟩
abbrev cX10_minute : ByteArray := prog_12_method_42_code
def yX10_minute : MethodName := ⟨RX10, "minute", "(I)I"⟩
abbrev cX10_route : ByteArray := prog_12_method_43_code
def yX10_route : MethodName := ⟨RX10, "route", "(II)I"⟩
abbrev cX10_lay : ByteArray := prog_12_method_44_code
def yX10_lay : MethodName := ⟨RX10, "lay", "(III)I"⟩
abbrev cX10_takeOff : ByteArray := prog_12_method_45_code
def yX10_takeOff : MethodName := ⟨RX10, "takeOff", "(I)I"⟩
abbrev cX10_treaty : ByteArray := prog_12_method_46_code
def yX10_treaty : MethodName := ⟨RX10, "treaty", "(IIZ)I"⟩
abbrev cX10_draw : ByteArray := prog_12_method_47_code
def yX10_draw : MethodName := ⟨RX10, "draw", "(I)I"⟩
abbrev cX10_nth : ByteArray := prog_12_method_48_code
def yX10_nth : MethodName := ⟨RX10, "nth", "(II)I"⟩
abbrev cX10_drift : ByteArray := prog_12_method_49_code
def yX10_drift : MethodName := ⟨RX10, "drift", "(I)I"⟩
abbrev cX10_tries : ByteArray := prog_12_method_50_code
def yX10_tries : MethodName := ⟨RX10, "tries", "()V"⟩
abbrev cX10_walksAll : ByteArray := prog_12_method_51_code
def yX10_walksAll : MethodName := ⟨RX10, "walksAll", "()V"⟩
abbrev cX10_where : ByteArray := prog_12_method_52_code
def yX10_where : MethodName := ⟨RX10, "where", "(II)I"⟩
abbrev cX10_meets : ByteArray := prog_12_method_53_code
def yX10_meets : MethodName := ⟨RX10, "meets", "(II)I"⟩
abbrev cX10_wayOf : ByteArray := prog_12_method_54_code
def yX10_wayOf : MethodName := ⟨RX10, "wayOf", "(II)I"⟩
abbrev cX10_nextOf : ByteArray := prog_12_method_55_code
def yX10_nextOf : MethodName := ⟨RX10, "nextOf", "(II)I"⟩
abbrev cX10_way : ByteArray := prog_12_method_56_code
def yX10_way : MethodName := ⟨RX10, "way", "(III)I"⟩
abbrev cX10_isApart : ByteArray := prog_12_method_57_code
def yX10_isApart : MethodName := ⟨RX10, "isApart", "()Z"⟩
abbrev cX10_delays : ByteArray := prog_12_method_58_code
def yX10_delays : MethodName := ⟨RX10, "delays", "(I)I"⟩
abbrev cX10_servedBy : ByteArray := prog_12_method_59_code
def yX10_servedBy : MethodName := ⟨RX10, "servedBy", "(I)I"⟩
abbrev cX10_served : ByteArray := prog_12_method_60_code
def yX10_served : MethodName := ⟨RX10, "served", "(I)I"⟩
abbrev cX10_evened : ByteArray := prog_12_method_61_code
def yX10_evened : MethodName := ⟨RX10, "evened", "(II)I"⟩
abbrev cX10_packed : ByteArray := prog_12_method_62_code
def yX10_packed : MethodName := ⟨RX10, "packed", "(II)I"⟩
abbrev cX10_covered : ByteArray := prog_12_method_63_code
def yX10_covered : MethodName := ⟨RX10, "covered", "(II)I"⟩
abbrev cX10_calm : ByteArray := prog_12_method_64_code
def yX10_calm : MethodName := ⟨RX10, "calm", "(II)I"⟩
abbrev cX10_see : ByteArray := prog_12_method_65_code
def yX10_see : MethodName := ⟨RX10, "see", "(IIZ)I"⟩
abbrev cX10_comesTo : ByteArray := prog_12_method_66_code
def yX10_comesTo : MethodName := ⟨RX10, "comesTo", "(II)I"⟩
abbrev cX10_spillers : ByteArray := prog_12_method_67_code
def yX10_spillers : MethodName := ⟨RX10, "spillers", "()I"⟩
abbrev cX10_spiller : ByteArray := prog_12_method_68_code
def yX10_spiller : MethodName := ⟨RX10, "spiller", "()I"⟩
abbrev cX10_look : ByteArray := prog_12_method_69_code
def yX10_look : MethodName := ⟨RX10, "look", "()I"⟩
abbrev cX10_write : ByteArray := prog_12_method_70_code
def yX10_write : MethodName := ⟨RX10, "write", "(II)I"⟩
abbrev cX10_tear : ByteArray := prog_12_method_71_code
def yX10_tear : MethodName := ⟨RX10, "tear", "()I"⟩
abbrev cX10_judge : ByteArray := prog_12_method_72_code
def yX10_judge : MethodName := ⟨RX10, "judge", "()I"⟩
abbrev cX10_seed : ByteArray := prog_12_method_73_code
def yX10_seed : MethodName := ⟨RX10, "seed", "(I)I"⟩
abbrev cX10_keep : ByteArray := prog_12_method_74_code
def yX10_keep : MethodName := ⟨RX10, "keep", "(I)I"⟩
abbrev cX10_goBack : ByteArray := prog_12_method_75_code
def yX10_goBack : MethodName := ⟨RX10, "goBack", "(I)I"⟩
def RJ6 : String := "java/lang/Integer"
abbrev cJ6_bitCount_0f7a4 : ByteArray := prog_13_method_49_code
def yJ6_bitCount_0f7a4 : MethodName := ⟨RJ6, "bitCount", "(I)I"⟩
def RJ9 : String := "java/lang/Math"
abbrev cJ9_abs_0f7a4 : ByteArray := prog_14_method_59_code
def yJ9_abs_0f7a4 : MethodName := ⟨RJ9, "abs", "(I)I"⟩
abbrev cJ9_max_7cf53 : ByteArray := prog_14_method_65_code
def yJ9_max_7cf53 : MethodName := ⟨RJ9, "max", "(II)I"⟩
abbrev cJ9_min_7cf53 : ByteArray := prog_14_method_69_code
def yJ9_min_7cf53 : MethodName := ⟨RJ9, "min", "(II)I"⟩
def RJ10 : String := "java/lang/System"
def RL : String := "TrayLandsLaw"
abbrev cL_law : ByteArray := code
def yL_law : MethodName := ⟨RL, "law", "([I)Z"⟩
abbrev vwCl : List vw_C := [(RX0, TX0, 4), (RX1, TX1, 8), (RX2, TX2, 3), (RX3, TX3, 9), (RX4, TX4, 3), (RX5, TX5, 13), (RX6, TX6, 7), (RX7, TX7, 6), (RX8, TX8, 6), (RX9, TX9, 9), (RX10, TX10, 46)]
end
section
theorem dX0_init_0 : decode cX0_init 0 = .ok (.aload_n 0, 1) := by decide +kernel
theorem dX0_init_1 : decode cX0_init 1 = .ok (.invokespecial 3, 3) := by decide +kernel
theorem dX0_init_4 : decode cX0_init 4 = .ok (.aload_n 0, 1) := by decide +kernel
theorem dX0_init_5 : decode cX0_init 5 = .ok (.iconst 4, 1) := by decide +kernel
theorem dX0_init_6 : decode cX0_init 6 = .ok (.newarray .int, 2) := by decide +kernel
theorem dX0_init_8 : decode cX0_init 8 = .ok (.putfield 9, 3) := by decide +kernel
theorem dX0_init_11 : decode cX0_init 11 = .ok (.aload_n 0, 1) := by decide +kernel
theorem dX0_init_12 : decode cX0_init 12 = .ok (.aload_n 1, 1) := by decide +kernel
theorem dX0_init_13 : decode cX0_init 13 = .ok (.putfield 15, 3) := by decide +kernel
theorem dX0_init_16 : decode cX0_init 16 = .ok (.aload_n 0, 1) := by decide +kernel
theorem dX0_init_17 : decode cX0_init 17 = .ok (.aload_n 2, 1) := by decide +kernel
theorem dX0_init_18 : decode cX0_init 18 = .ok (.putfield 19, 3) := by decide +kernel
theorem dX0_init_21 : decode cX0_init 21 = .ok (.return_, 1) := by decide +kernel
theorem dX0_slant_0 : decode cX0_slant 0 = .ok (.aload_n 0, 1) := by decide +kernel
theorem dX0_slant_1 : decode cX0_slant 1 = .ok (.getfield 15, 3) := by decide +kernel
theorem dX0_slant_4 : decode cX0_slant 4 = .ok (.aload_n 0, 1) := by decide +kernel
theorem dX0_slant_5 : decode cX0_slant 5 = .ok (.getfield 19, 3) := by decide +kernel
theorem dX0_slant_8 : decode cX0_slant 8 = .ok (.iload_n 1, 1) := by decide +kernel
theorem dX0_slant_9 : decode cX0_slant 9 = .ok (.invokevirtual 23, 3) := by decide +kernel
theorem dX0_slant_12 : decode cX0_slant 12 = .ok (.aload_n 0, 1) := by decide +kernel
theorem dX0_slant_13 : decode cX0_slant 13 = .ok (.getfield 19, 3) := by decide +kernel
theorem dX0_slant_16 : decode cX0_slant 16 = .ok (.iload_n 1, 1) := by decide +kernel
theorem dX0_slant_17 : decode cX0_slant 17 = .ok (.iconst 0, 1) := by decide +kernel
theorem dX0_slant_18 : decode cX0_slant 18 = .ok (.invokestatic 29, 3) := by decide +kernel
theorem dX0_slant_21 : decode cX0_slant 21 = .ok (.invokevirtual 33, 3) := by decide +kernel
theorem dX0_slant_24 : decode cX0_slant 24 = .ok (.invokevirtual 36, 3) := by decide +kernel
theorem dX0_slant_27 : decode cX0_slant 27 = .ok (.ireturn, 1) := by decide +kernel
theorem dX0_tick_0 : decode cX0_tick 0 = .ok (.iconst 0, 1) := by decide +kernel
theorem dX0_tick_1 : decode cX0_tick 1 = .ok (.istore_n 1, 1) := by decide +kernel
theorem dX0_tick_2 : decode cX0_tick 2 = .ok (.iload_n 1, 1) := by decide +kernel
theorem dX0_tick_3 : decode cX0_tick 3 = .ok (.iconst 4, 1) := by decide +kernel
theorem dX0_tick_4 : decode cX0_tick 4 = .ok (.if_icmp .ge 32, 3) := by decide +kernel
theorem dX0_tick_7 : decode cX0_tick 7 = .ok (.aload_n 0, 1) := by decide +kernel
theorem dX0_tick_8 : decode cX0_tick 8 = .ok (.getfield 9, 3) := by decide +kernel
theorem dX0_tick_11 : decode cX0_tick 11 = .ok (.iload_n 1, 1) := by decide +kernel
theorem dX0_tick_12 : decode cX0_tick 12 = .ok (.aload_n 0, 1) := by decide +kernel
theorem dX0_tick_13 : decode cX0_tick 13 = .ok (.getfield 19, 3) := by decide +kernel
theorem dX0_tick_16 : decode cX0_tick 16 = .ok (.getfield 41, 3) := by decide +kernel
theorem dX0_tick_19 : decode cX0_tick 19 = .ok (.iload_n 1, 1) := by decide +kernel
theorem dX0_tick_20 : decode cX0_tick 20 = .ok (.iaload, 1) := by decide +kernel
theorem dX0_tick_21 : decode cX0_tick 21 = .ok (.iastore, 1) := by decide +kernel
theorem dX0_tick_22 : decode cX0_tick 22 = .ok (.aload_n 0, 1) := by decide +kernel
theorem dX0_tick_23 : decode cX0_tick 23 = .ok (.getfield 19, 3) := by decide +kernel
theorem dX0_tick_26 : decode cX0_tick 26 = .ok (.iload_n 1, 1) := by decide +kernel
theorem dX0_tick_27 : decode cX0_tick 27 = .ok (.invokevirtual 44, 3) := by decide +kernel
theorem dX0_tick_30 : decode cX0_tick 30 = .ok (.iinc 1 1, 3) := by decide +kernel
theorem dX0_tick_33 : decode cX0_tick 33 = .ok (.goto (-31), 3) := by decide +kernel
theorem dX0_tick_36 : decode cX0_tick 36 = .ok (.aload_n 0, 1) := by decide +kernel
theorem dX0_tick_37 : decode cX0_tick 37 = .ok (.invokevirtual 48, 3) := by decide +kernel
theorem dX0_tick_40 : decode cX0_tick 40 = .ok (.istore_n 1, 1) := by decide +kernel
theorem dX0_tick_41 : decode cX0_tick 41 = .ok (.iconst 0, 1) := by decide +kernel
theorem dX0_tick_42 : decode cX0_tick 42 = .ok (.istore_n 2, 1) := by decide +kernel
theorem dX0_tick_43 : decode cX0_tick 43 = .ok (.iload_n 2, 1) := by decide +kernel
theorem dX0_tick_44 : decode cX0_tick 44 = .ok (.aload_n 0, 1) := by decide +kernel
theorem dX0_tick_45 : decode cX0_tick 45 = .ok (.getfield 15, 3) := by decide +kernel
theorem dX0_tick_48 : decode cX0_tick 48 = .ok (.getfield 52, 3) := by decide +kernel
theorem dX0_tick_51 : decode cX0_tick 51 = .ok (.if_icmp .ge 56, 3) := by decide +kernel
theorem dX0_tick_54 : decode cX0_tick 54 = .ok (.iload_n 1, 1) := by decide +kernel
theorem dX0_tick_55 : decode cX0_tick 55 = .ok (.iload_n 2, 1) := by decide +kernel
theorem dX0_tick_56 : decode cX0_tick 56 = .ok (.invokestatic 56, 3) := by decide +kernel
theorem dX0_tick_59 : decode cX0_tick 59 = .ok (.ifCond .eq 42, 3) := by decide +kernel
theorem dX0_tick_62 : decode cX0_tick 62 = .ok (.aload_n 0, 1) := by decide +kernel
theorem dX0_tick_63 : decode cX0_tick 63 = .ok (.iload_n 2, 1) := by decide +kernel
theorem dX0_tick_64 : decode cX0_tick 64 = .ok (.invokevirtual 60, 3) := by decide +kernel
theorem dX0_tick_67 : decode cX0_tick 67 = .ok (.aload_n 0, 1) := by decide +kernel
theorem dX0_tick_68 : decode cX0_tick 68 = .ok (.getfield 15, 3) := by decide +kernel
theorem dX0_tick_71 : decode cX0_tick 71 = .ok (.getfield 63, 3) := by decide +kernel
theorem dX0_tick_74 : decode cX0_tick 74 = .ok (.if_icmp .le 27, 3) := by decide +kernel
theorem dX0_tick_77 : decode cX0_tick 77 = .ok (.aload_n 0, 1) := by decide +kernel
theorem dX0_tick_78 : decode cX0_tick 78 = .ok (.getfield 19, 3) := by decide +kernel
theorem dX0_tick_81 : decode cX0_tick 81 = .ok (.aload_n 0, 1) := by decide +kernel
theorem dX0_tick_82 : decode cX0_tick 82 = .ok (.getfield 15, 3) := by decide +kernel
theorem dX0_tick_85 : decode cX0_tick 85 = .ok (.aload_n 0, 1) := by decide +kernel
theorem dX0_tick_86 : decode cX0_tick 86 = .ok (.getfield 19, 3) := by decide +kernel
theorem dX0_tick_89 : decode cX0_tick 89 = .ok (.iload_n 2, 1) := by decide +kernel
theorem dX0_tick_90 : decode cX0_tick 90 = .ok (.invokevirtual 23, 3) := by decide +kernel
theorem dX0_tick_93 : decode cX0_tick 93 = .ok (.invokevirtual 66, 3) := by decide +kernel
theorem dX0_tick_96 : decode cX0_tick 96 = .ok (.bipush (-2), 2) := by decide +kernel
theorem dX0_tick_98 : decode cX0_tick 98 = .ok (.invokevirtual 69, 3) := by decide +kernel
theorem dX0_tick_101 : decode cX0_tick 101 = .ok (.iinc 2 1, 3) := by decide +kernel
theorem dX0_tick_104 : decode cX0_tick 104 = .ok (.goto (-61), 3) := by decide +kernel
theorem dX0_tick_107 : decode cX0_tick 107 = .ok (.aload_n 0, 1) := by decide +kernel
theorem dX0_tick_108 : decode cX0_tick 108 = .ok (.getfield 19, 3) := by decide +kernel
theorem dX0_tick_111 : decode cX0_tick 111 = .ok (.dup, 1) := by decide +kernel
theorem dX0_tick_112 : decode cX0_tick 112 = .ok (.getfield 73, 3) := by decide +kernel
theorem dX0_tick_115 : decode cX0_tick 115 = .ok (.iconst 1, 1) := by decide +kernel
theorem dX0_tick_116 : decode cX0_tick 116 = .ok (.iadd, 1) := by decide +kernel
theorem dX0_tick_117 : decode cX0_tick 117 = .ok (.putfield 73, 3) := by decide +kernel
theorem dX0_tick_120 : decode cX0_tick 120 = .ok (.return_, 1) := by decide +kernel
theorem dX0_countMeetings_0 : decode cX0_countMeetings 0 = .ok (.iconst 0, 1) := by decide +kernel
theorem dX0_countMeetings_1 : decode cX0_countMeetings 1 = .ok (.istore_n 1, 1) := by decide +kernel
theorem dX0_countMeetings_2 : decode cX0_countMeetings 2 = .ok (.iconst 0, 1) := by decide +kernel
theorem dX0_countMeetings_3 : decode cX0_countMeetings 3 = .ok (.istore_n 2, 1) := by decide +kernel
theorem dX0_countMeetings_4 : decode cX0_countMeetings 4 = .ok (.iload_n 2, 1) := by decide +kernel
theorem dX0_countMeetings_5 : decode cX0_countMeetings 5 = .ok (.aload_n 0, 1) := by decide +kernel
theorem dX0_countMeetings_6 : decode cX0_countMeetings 6 = .ok (.getfield 15, 3) := by decide +kernel
theorem dX0_countMeetings_9 : decode cX0_countMeetings 9 = .ok (.getfield 52, 3) := by decide +kernel
theorem dX0_countMeetings_12 : decode cX0_countMeetings 12 = .ok (.if_icmp .ge 80, 3) := by decide +kernel
theorem dX0_countMeetings_15 : decode cX0_countMeetings 15 = .ok (.iload_n 2, 1) := by decide +kernel
theorem dX0_countMeetings_16 : decode cX0_countMeetings 16 = .ok (.iconst 1, 1) := by decide +kernel
theorem dX0_countMeetings_17 : decode cX0_countMeetings 17 = .ok (.iadd, 1) := by decide +kernel
theorem dX0_countMeetings_18 : decode cX0_countMeetings 18 = .ok (.istore_n 3, 1) := by decide +kernel
theorem dX0_countMeetings_19 : decode cX0_countMeetings 19 = .ok (.iload_n 3, 1) := by decide +kernel
theorem dX0_countMeetings_20 : decode cX0_countMeetings 20 = .ok (.aload_n 0, 1) := by decide +kernel
theorem dX0_countMeetings_21 : decode cX0_countMeetings 21 = .ok (.getfield 15, 3) := by decide +kernel
theorem dX0_countMeetings_24 : decode cX0_countMeetings 24 = .ok (.getfield 52, 3) := by decide +kernel
theorem dX0_countMeetings_27 : decode cX0_countMeetings 27 = .ok (.if_icmp .ge 59, 3) := by decide +kernel
theorem dX0_countMeetings_30 : decode cX0_countMeetings 30 = .ok (.aload_n 0, 1) := by decide +kernel
theorem dX0_countMeetings_31 : decode cX0_countMeetings 31 = .ok (.iload_n 2, 1) := by decide +kernel
theorem dX0_countMeetings_32 : decode cX0_countMeetings 32 = .ok (.iload_n 3, 1) := by decide +kernel
theorem dX0_countMeetings_33 : decode cX0_countMeetings 33 = .ok (.invokevirtual 76, 3) := by decide +kernel
theorem dX0_countMeetings_36 : decode cX0_countMeetings 36 = .ok (.ifCond .ne 6, 3) := by decide +kernel
theorem dX0_countMeetings_39 : decode cX0_countMeetings 39 = .ok (.goto 41, 3) := by decide +kernel
theorem dX0_countMeetings_42 : decode cX0_countMeetings 42 = .ok (.aload_n 0, 1) := by decide +kernel
theorem dX0_countMeetings_43 : decode cX0_countMeetings 43 = .ok (.getfield 19, 3) := by decide +kernel
theorem dX0_countMeetings_46 : decode cX0_countMeetings 46 = .ok (.dup, 1) := by decide +kernel
theorem dX0_countMeetings_47 : decode cX0_countMeetings 47 = .ok (.getfield 79, 3) := by decide +kernel
theorem dX0_countMeetings_50 : decode cX0_countMeetings 50 = .ok (.iconst 1, 1) := by decide +kernel
theorem dX0_countMeetings_51 : decode cX0_countMeetings 51 = .ok (.iadd, 1) := by decide +kernel
theorem dX0_countMeetings_52 : decode cX0_countMeetings 52 = .ok (.putfield 79, 3) := by decide +kernel
theorem dX0_countMeetings_55 : decode cX0_countMeetings 55 = .ok (.aload_n 0, 1) := by decide +kernel
theorem dX0_countMeetings_56 : decode cX0_countMeetings 56 = .ok (.getfield 19, 3) := by decide +kernel
theorem dX0_countMeetings_59 : decode cX0_countMeetings 59 = .ok (.iload_n 2, 1) := by decide +kernel
theorem dX0_countMeetings_60 : decode cX0_countMeetings 60 = .ok (.invokevirtual 82, 3) := by decide +kernel
theorem dX0_countMeetings_63 : decode cX0_countMeetings 63 = .ok (.iload_n 3, 1) := by decide +kernel
theorem dX0_countMeetings_64 : decode cX0_countMeetings 64 = .ok (.invokestatic 56, 3) := by decide +kernel
theorem dX0_countMeetings_67 : decode cX0_countMeetings 67 = .ok (.ifCond .ne 13, 3) := by decide +kernel
theorem dX0_countMeetings_70 : decode cX0_countMeetings 70 = .ok (.iload_n 1, 1) := by decide +kernel
theorem dX0_countMeetings_71 : decode cX0_countMeetings 71 = .ok (.iconst 1, 1) := by decide +kernel
theorem dX0_countMeetings_72 : decode cX0_countMeetings 72 = .ok (.iload_n 2, 1) := by decide +kernel
theorem dX0_countMeetings_73 : decode cX0_countMeetings 73 = .ok (.ishl, 1) := by decide +kernel
theorem dX0_countMeetings_74 : decode cX0_countMeetings 74 = .ok (.iconst 1, 1) := by decide +kernel
theorem dX0_countMeetings_75 : decode cX0_countMeetings 75 = .ok (.iload_n 3, 1) := by decide +kernel
theorem dX0_countMeetings_76 : decode cX0_countMeetings 76 = .ok (.ishl, 1) := by decide +kernel
theorem dX0_countMeetings_77 : decode cX0_countMeetings 77 = .ok (.ior, 1) := by decide +kernel
theorem dX0_countMeetings_78 : decode cX0_countMeetings 78 = .ok (.ior, 1) := by decide +kernel
theorem dX0_countMeetings_79 : decode cX0_countMeetings 79 = .ok (.istore_n 1, 1) := by decide +kernel
theorem dX0_countMeetings_80 : decode cX0_countMeetings 80 = .ok (.iinc 3 1, 3) := by decide +kernel
theorem dX0_countMeetings_83 : decode cX0_countMeetings 83 = .ok (.goto (-64), 3) := by decide +kernel
theorem dX0_countMeetings_86 : decode cX0_countMeetings 86 = .ok (.iinc 2 1, 3) := by decide +kernel
theorem dX0_countMeetings_89 : decode cX0_countMeetings 89 = .ok (.goto (-85), 3) := by decide +kernel
theorem dX0_countMeetings_92 : decode cX0_countMeetings 92 = .ok (.iload_n 1, 1) := by decide +kernel
theorem dX0_countMeetings_93 : decode cX0_countMeetings 93 = .ok (.ireturn, 1) := by decide +kernel
theorem dX0_haveMet_0 : decode cX0_haveMet 0 = .ok (.aload_n 0, 1) := by decide +kernel
theorem dX0_haveMet_1 : decode cX0_haveMet 1 = .ok (.getfield 15, 3) := by decide +kernel
theorem dX0_haveMet_4 : decode cX0_haveMet 4 = .ok (.iload_n 1, 1) := by decide +kernel
theorem dX0_haveMet_5 : decode cX0_haveMet 5 = .ok (.iload_n 2, 1) := by decide +kernel
theorem dX0_haveMet_6 : decode cX0_haveMet 6 = .ok (.invokevirtual 85, 3) := by decide +kernel
theorem dX0_haveMet_9 : decode cX0_haveMet 9 = .ok (.ifCond .ne 5, 3) := by decide +kernel
theorem dX0_haveMet_12 : decode cX0_haveMet 12 = .ok (.iconst 0, 1) := by decide +kernel
theorem dX0_haveMet_13 : decode cX0_haveMet 13 = .ok (.ireturn, 1) := by decide +kernel
theorem dX0_haveMet_14 : decode cX0_haveMet 14 = .ok (.aload_n 0, 1) := by decide +kernel
theorem dX0_haveMet_15 : decode cX0_haveMet 15 = .ok (.getfield 9, 3) := by decide +kernel
theorem dX0_haveMet_18 : decode cX0_haveMet 18 = .ok (.iload_n 1, 1) := by decide +kernel
theorem dX0_haveMet_19 : decode cX0_haveMet 19 = .ok (.iaload, 1) := by decide +kernel
theorem dX0_haveMet_20 : decode cX0_haveMet 20 = .ok (.aload_n 0, 1) := by decide +kernel
theorem dX0_haveMet_21 : decode cX0_haveMet 21 = .ok (.getfield 19, 3) := by decide +kernel
theorem dX0_haveMet_24 : decode cX0_haveMet 24 = .ok (.getfield 41, 3) := by decide +kernel
theorem dX0_haveMet_27 : decode cX0_haveMet 27 = .ok (.iload_n 1, 1) := by decide +kernel
theorem dX0_haveMet_28 : decode cX0_haveMet 28 = .ok (.iaload, 1) := by decide +kernel
theorem dX0_haveMet_29 : decode cX0_haveMet 29 = .ok (.aload_n 0, 1) := by decide +kernel
theorem dX0_haveMet_30 : decode cX0_haveMet 30 = .ok (.getfield 9, 3) := by decide +kernel
theorem dX0_haveMet_33 : decode cX0_haveMet 33 = .ok (.iload_n 2, 1) := by decide +kernel
theorem dX0_haveMet_34 : decode cX0_haveMet 34 = .ok (.iaload, 1) := by decide +kernel
theorem dX0_haveMet_35 : decode cX0_haveMet 35 = .ok (.aload_n 0, 1) := by decide +kernel
theorem dX0_haveMet_36 : decode cX0_haveMet 36 = .ok (.getfield 19, 3) := by decide +kernel
theorem dX0_haveMet_39 : decode cX0_haveMet 39 = .ok (.getfield 41, 3) := by decide +kernel
theorem dX0_haveMet_42 : decode cX0_haveMet 42 = .ok (.iload_n 2, 1) := by decide +kernel
theorem dX0_haveMet_43 : decode cX0_haveMet 43 = .ok (.iaload, 1) := by decide +kernel
theorem dX0_haveMet_44 : decode cX0_haveMet 44 = .ok (.invokestatic 88, 3) := by decide +kernel
theorem dX0_haveMet_47 : decode cX0_haveMet 47 = .ok (.ireturn, 1) := by decide +kernel
theorem dX0_meetBetween_0 : decode cX0_meetBetween 0 = .ok (.iload_n 0, 1) := by decide +kernel
theorem dX0_meetBetween_1 : decode cX0_meetBetween 1 = .ok (.iload_n 1, 1) := by decide +kernel
theorem dX0_meetBetween_2 : decode cX0_meetBetween 2 = .ok (.if_icmp .ne 8, 3) := by decide +kernel
theorem dX0_meetBetween_5 : decode cX0_meetBetween 5 = .ok (.iload_n 2, 1) := by decide +kernel
theorem dX0_meetBetween_6 : decode cX0_meetBetween 6 = .ok (.iload_n 3, 1) := by decide +kernel
theorem dX0_meetBetween_7 : decode cX0_meetBetween 7 = .ok (.if_icmp .eq 7, 3) := by decide +kernel
theorem dX0_meetBetween_10 : decode cX0_meetBetween 10 = .ok (.iconst 1, 1) := by decide +kernel
theorem dX0_meetBetween_11 : decode cX0_meetBetween 11 = .ok (.goto 4, 3) := by decide +kernel
theorem dX0_meetBetween_14 : decode cX0_meetBetween 14 = .ok (.iconst 0, 1) := by decide +kernel
theorem dX0_meetBetween_15 : decode cX0_meetBetween 15 = .ok (.istore 4, 2) := by decide +kernel
theorem dX0_meetBetween_17 : decode cX0_meetBetween 17 = .ok (.iload 4, 2) := by decide +kernel
theorem dX0_meetBetween_19 : decode cX0_meetBetween 19 = .ok (.ifCond .eq 22, 3) := by decide +kernel
theorem dX0_meetBetween_22 : decode cX0_meetBetween 22 = .ok (.iload_n 1, 1) := by decide +kernel
theorem dX0_meetBetween_23 : decode cX0_meetBetween 23 = .ok (.iload_n 3, 1) := by decide +kernel
theorem dX0_meetBetween_24 : decode cX0_meetBetween 24 = .ok (.if_icmp .eq 13, 3) := by decide +kernel
theorem dX0_meetBetween_27 : decode cX0_meetBetween 27 = .ok (.iload_n 1, 1) := by decide +kernel
theorem dX0_meetBetween_28 : decode cX0_meetBetween 28 = .ok (.iload_n 2, 1) := by decide +kernel
theorem dX0_meetBetween_29 : decode cX0_meetBetween 29 = .ok (.if_icmp .ne 12, 3) := by decide +kernel
theorem dX0_meetBetween_32 : decode cX0_meetBetween 32 = .ok (.iload_n 3, 1) := by decide +kernel
theorem dX0_meetBetween_33 : decode cX0_meetBetween 33 = .ok (.iload_n 0, 1) := by decide +kernel
theorem dX0_meetBetween_34 : decode cX0_meetBetween 34 = .ok (.if_icmp .ne 7, 3) := by decide +kernel
theorem dX0_meetBetween_37 : decode cX0_meetBetween 37 = .ok (.iconst 1, 1) := by decide +kernel
theorem dX0_meetBetween_38 : decode cX0_meetBetween 38 = .ok (.goto 4, 3) := by decide +kernel
theorem dX0_meetBetween_41 : decode cX0_meetBetween 41 = .ok (.iconst 0, 1) := by decide +kernel
theorem dX0_meetBetween_42 : decode cX0_meetBetween 42 = .ok (.ireturn, 1) := by decide +kernel
theorem dX0_drawRoute_0 : decode cX0_drawRoute 0 = .ok (.aload_n 0, 1) := by decide +kernel
theorem dX0_drawRoute_1 : decode cX0_drawRoute 1 = .ok (.getfield 15, 3) := by decide +kernel
theorem dX0_drawRoute_4 : decode cX0_drawRoute 4 = .ok (.getfield 52, 3) := by decide +kernel
theorem dX0_drawRoute_7 : decode cX0_drawRoute 7 = .ok (.ifCond .ne 4, 3) := by decide +kernel
theorem dX0_drawRoute_10 : decode cX0_drawRoute 10 = .ok (.return_, 1) := by decide +kernel
theorem dX0_drawRoute_11 : decode cX0_drawRoute 11 = .ok (.aload_n 0, 1) := by decide +kernel
theorem dX0_drawRoute_12 : decode cX0_drawRoute 12 = .ok (.aload_n 0, 1) := by decide +kernel
theorem dX0_drawRoute_13 : decode cX0_drawRoute 13 = .ok (.getfield 15, 3) := by decide +kernel
theorem dX0_drawRoute_16 : decode cX0_drawRoute 16 = .ok (.getfield 52, 3) := by decide +kernel
theorem dX0_drawRoute_19 : decode cX0_drawRoute 19 = .ok (.invokevirtual 92, 3) := by decide +kernel
theorem dX0_drawRoute_22 : decode cX0_drawRoute 22 = .ok (.istore_n 1, 1) := by decide +kernel
theorem dX0_drawRoute_23 : decode cX0_drawRoute 23 = .ok (.aload_n 0, 1) := by decide +kernel
theorem dX0_drawRoute_24 : decode cX0_drawRoute 24 = .ok (.getfield 15, 3) := by decide +kernel
theorem dX0_drawRoute_27 : decode cX0_drawRoute 27 = .ok (.aload_n 0, 1) := by decide +kernel
theorem dX0_drawRoute_28 : decode cX0_drawRoute 28 = .ok (.getfield 19, 3) := by decide +kernel
theorem dX0_drawRoute_31 : decode cX0_drawRoute 31 = .ok (.iload_n 1, 1) := by decide +kernel
theorem dX0_drawRoute_32 : decode cX0_drawRoute 32 = .ok (.invokevirtual 95, 3) := by decide +kernel
theorem dX0_drawRoute_35 : decode cX0_drawRoute 35 = .ok (.invokevirtual 98, 3) := by decide +kernel
theorem dX0_drawRoute_38 : decode cX0_drawRoute 38 = .ok (.istore_n 2, 1) := by decide +kernel
theorem dX0_drawRoute_39 : decode cX0_drawRoute 39 = .ok (.aload_n 0, 1) := by decide +kernel
theorem dX0_drawRoute_40 : decode cX0_drawRoute 40 = .ok (.getfield 19, 3) := by decide +kernel
theorem dX0_drawRoute_43 : decode cX0_drawRoute 43 = .ok (.iload_n 1, 1) := by decide +kernel
theorem dX0_drawRoute_44 : decode cX0_drawRoute 44 = .ok (.invokevirtual 101, 3) := by decide +kernel
theorem dX0_drawRoute_47 : decode cX0_drawRoute 47 = .ok (.ifCond .ne 29, 3) := by decide +kernel
theorem dX0_drawRoute_50 : decode cX0_drawRoute 50 = .ok (.iload_n 2, 1) := by decide +kernel
theorem dX0_drawRoute_51 : decode cX0_drawRoute 51 = .ok (.ifCond .eq 25, 3) := by decide +kernel
theorem dX0_drawRoute_54 : decode cX0_drawRoute 54 = .ok (.aload_n 0, 1) := by decide +kernel
theorem dX0_drawRoute_55 : decode cX0_drawRoute 55 = .ok (.getfield 19, 3) := by decide +kernel
theorem dX0_drawRoute_58 : decode cX0_drawRoute 58 = .ok (.iload_n 1, 1) := by decide +kernel
theorem dX0_drawRoute_59 : decode cX0_drawRoute 59 = .ok (.iload_n 2, 1) := by decide +kernel
theorem dX0_drawRoute_60 : decode cX0_drawRoute 60 = .ok (.aload_n 0, 1) := by decide +kernel
theorem dX0_drawRoute_61 : decode cX0_drawRoute 61 = .ok (.iload_n 2, 1) := by decide +kernel
theorem dX0_drawRoute_62 : decode cX0_drawRoute 62 = .ok (.invokestatic 104, 3) := by decide +kernel
theorem dX0_drawRoute_65 : decode cX0_drawRoute 65 = .ok (.invokevirtual 92, 3) := by decide +kernel
theorem dX0_drawRoute_68 : decode cX0_drawRoute 68 = .ok (.invokestatic 109, 3) := by decide +kernel
theorem dX0_drawRoute_71 : decode cX0_drawRoute 71 = .ok (.iconst 1, 1) := by decide +kernel
theorem dX0_drawRoute_72 : decode cX0_drawRoute 72 = .ok (.iadd, 1) := by decide +kernel
theorem dX0_drawRoute_73 : decode cX0_drawRoute 73 = .ok (.invokevirtual 112, 3) := by decide +kernel
theorem dX0_drawRoute_76 : decode cX0_drawRoute 76 = .ok (.return_, 1) := by decide +kernel
theorem dX0_draw_0 : decode cX0_draw 0 = .ok (.aload_n 0, 1) := by decide +kernel
theorem dX0_draw_1 : decode cX0_draw 1 = .ok (.aload_n 0, 1) := by decide +kernel
theorem dX0_draw_2 : decode cX0_draw 2 = .ok (.getfield 115, 3) := by decide +kernel
theorem dX0_draw_5 : decode cX0_draw 5 = .ok (.i2l, 1) := by decide +kernel
theorem dX0_draw_6 : decode cX0_draw 6 = .ok (.ldc2_w 118, 3) := by decide +kernel
theorem dX0_draw_9 : decode cX0_draw 9 = .ok (.lmul, 1) := by decide +kernel
theorem dX0_draw_10 : decode cX0_draw 10 = .ok (.ldc2_w 120, 3) := by decide +kernel
theorem dX0_draw_13 : decode cX0_draw 13 = .ok (.ladd, 1) := by decide +kernel
theorem dX0_draw_14 : decode cX0_draw 14 = .ok (.ldc2_w 122, 3) := by decide +kernel
theorem dX0_draw_17 : decode cX0_draw 17 = .ok (.lrem, 1) := by decide +kernel
theorem dX0_draw_18 : decode cX0_draw 18 = .ok (.l2i, 1) := by decide +kernel
theorem dX0_draw_19 : decode cX0_draw 19 = .ok (.putfield 115, 3) := by decide +kernel
theorem dX0_draw_22 : decode cX0_draw 22 = .ok (.iload_n 1, 1) := by decide +kernel
theorem dX0_draw_23 : decode cX0_draw 23 = .ok (.ifCond .le 15, 3) := by decide +kernel
theorem dX0_draw_26 : decode cX0_draw 26 = .ok (.aload_n 0, 1) := by decide +kernel
theorem dX0_draw_27 : decode cX0_draw 27 = .ok (.getfield 115, 3) := by decide +kernel
theorem dX0_draw_30 : decode cX0_draw 30 = .ok (.ldc 124, 2) := by decide +kernel
theorem dX0_draw_32 : decode cX0_draw 32 = .ok (.idiv, 1) := by decide +kernel
theorem dX0_draw_33 : decode cX0_draw 33 = .ok (.iload_n 1, 1) := by decide +kernel
theorem dX0_draw_34 : decode cX0_draw 34 = .ok (.irem, 1) := by decide +kernel
theorem dX0_draw_35 : decode cX0_draw 35 = .ok (.goto 4, 3) := by decide +kernel
theorem dX0_draw_38 : decode cX0_draw 38 = .ok (.iconst 0, 1) := by decide +kernel
theorem dX0_draw_39 : decode cX0_draw 39 = .ok (.ireturn, 1) := by decide +kernel
theorem dX0_memberOf_0 : decode cX0_memberOf 0 = .ok (.iload_n 1, 1) := by decide +kernel
theorem dX0_memberOf_1 : decode cX0_memberOf 1 = .ok (.istore_n 2, 1) := by decide +kernel
theorem dX0_memberOf_2 : decode cX0_memberOf 2 = .ok (.iconst 0, 1) := by decide +kernel
theorem dX0_memberOf_3 : decode cX0_memberOf 3 = .ok (.istore_n 3, 1) := by decide +kernel
theorem dX0_memberOf_4 : decode cX0_memberOf 4 = .ok (.iload_n 3, 1) := by decide +kernel
theorem dX0_memberOf_5 : decode cX0_memberOf 5 = .ok (.bipush 8, 2) := by decide +kernel
theorem dX0_memberOf_7 : decode cX0_memberOf 7 = .ok (.if_icmp .ge 26, 3) := by decide +kernel
theorem dX0_memberOf_10 : decode cX0_memberOf 10 = .ok (.iload_n 0, 1) := by decide +kernel
theorem dX0_memberOf_11 : decode cX0_memberOf 11 = .ok (.iload_n 3, 1) := by decide +kernel
theorem dX0_memberOf_12 : decode cX0_memberOf 12 = .ok (.invokestatic 56, 3) := by decide +kernel
theorem dX0_memberOf_15 : decode cX0_memberOf 15 = .ok (.ifCond .eq 12, 3) := by decide +kernel
theorem dX0_memberOf_18 : decode cX0_memberOf 18 = .ok (.iload_n 2, 1) := by decide +kernel
theorem dX0_memberOf_19 : decode cX0_memberOf 19 = .ok (.ifCond .ne 5, 3) := by decide +kernel
theorem dX0_memberOf_22 : decode cX0_memberOf 22 = .ok (.iload_n 3, 1) := by decide +kernel
theorem dX0_memberOf_23 : decode cX0_memberOf 23 = .ok (.ireturn, 1) := by decide +kernel
theorem dX0_memberOf_24 : decode cX0_memberOf 24 = .ok (.iinc 2 (-1), 3) := by decide +kernel
theorem dX0_memberOf_27 : decode cX0_memberOf 27 = .ok (.iinc 3 1, 3) := by decide +kernel
theorem dX0_memberOf_30 : decode cX0_memberOf 30 = .ok (.goto (-26), 3) := by decide +kernel
theorem dX0_memberOf_33 : decode cX0_memberOf 33 = .ok (.iconst (-1), 1) := by decide +kernel
theorem dX0_memberOf_34 : decode cX0_memberOf 34 = .ok (.ireturn, 1) := by decide +kernel
theorem dX1_init_0 : decode cX1_init 0 = .ok (.aload_n 0, 1) := by decide +kernel
theorem dX1_init_1 : decode cX1_init 1 = .ok (.invokespecial 3, 3) := by decide +kernel
theorem dX1_init_4 : decode cX1_init 4 = .ok (.aload_n 0, 1) := by decide +kernel
theorem dX1_init_5 : decode cX1_init 5 = .ok (.bipush 84, 2) := by decide +kernel
theorem dX1_init_7 : decode cX1_init 7 = .ok (.newarray .int, 2) := by decide +kernel
theorem dX1_init_9 : decode cX1_init 9 = .ok (.putfield 9, 3) := by decide +kernel
theorem dX1_init_12 : decode cX1_init 12 = .ok (.aload_n 0, 1) := by decide +kernel
theorem dX1_init_13 : decode cX1_init 13 = .ok (.iconst 4, 1) := by decide +kernel
theorem dX1_init_14 : decode cX1_init 14 = .ok (.newarray .int, 2) := by decide +kernel
theorem dX1_init_16 : decode cX1_init 16 = .ok (.putfield 15, 3) := by decide +kernel
theorem dX1_init_19 : decode cX1_init 19 = .ok (.aload_n 0, 1) := by decide +kernel
theorem dX1_init_20 : decode cX1_init 20 = .ok (.bipush 16, 2) := by decide +kernel
theorem dX1_init_22 : decode cX1_init 22 = .ok (.newarray .int, 2) := by decide +kernel
theorem dX1_init_24 : decode cX1_init 24 = .ok (.putfield 18, 3) := by decide +kernel
theorem dX1_init_27 : decode cX1_init 27 = .ok (.aload_n 0, 1) := by decide +kernel
theorem dX1_init_28 : decode cX1_init 28 = .ok (.iconst 4, 1) := by decide +kernel
theorem dX1_init_29 : decode cX1_init 29 = .ok (.newarray .int, 2) := by decide +kernel
theorem dX1_init_31 : decode cX1_init 31 = .ok (.putfield 21, 3) := by decide +kernel
theorem dX1_init_34 : decode cX1_init 34 = .ok (.aload_n 0, 1) := by decide +kernel
theorem dX1_init_35 : decode cX1_init 35 = .ok (.iconst 4, 1) := by decide +kernel
theorem dX1_init_36 : decode cX1_init 36 = .ok (.newarray .int, 2) := by decide +kernel
theorem dX1_init_38 : decode cX1_init 38 = .ok (.putfield 24, 3) := by decide +kernel
theorem dX1_init_41 : decode cX1_init 41 = .ok (.aload_n 0, 1) := by decide +kernel
theorem dX1_init_42 : decode cX1_init 42 = .ok (.aload_n 1, 1) := by decide +kernel
theorem dX1_init_43 : decode cX1_init 43 = .ok (.putfield 27, 3) := by decide +kernel
theorem dX1_init_46 : decode cX1_init 46 = .ok (.aload_n 0, 1) := by decide +kernel
theorem dX1_init_47 : decode cX1_init 47 = .ok (.aload_n 2, 1) := by decide +kernel
theorem dX1_init_48 : decode cX1_init 48 = .ok (.putfield 31, 3) := by decide +kernel
theorem dX1_init_51 : decode cX1_init 51 = .ok (.return_, 1) := by decide +kernel
theorem dX1_firstMeeting_0 : decode cX1_firstMeeting 0 = .ok (.aload_n 0, 1) := by decide +kernel
theorem dX1_firstMeeting_1 : decode cX1_firstMeeting 1 = .ok (.invokevirtual 35, 3) := by decide +kernel
theorem dX1_firstMeeting_4 : decode cX1_firstMeeting 4 = .ok (.aload_n 0, 1) := by decide +kernel
theorem dX1_firstMeeting_5 : decode cX1_firstMeeting 5 = .ok (.iload_n 1, 1) := by decide +kernel
theorem dX1_firstMeeting_6 : decode cX1_firstMeeting 6 = .ok (.iconst 0, 1) := by decide +kernel
theorem dX1_firstMeeting_7 : decode cX1_firstMeeting 7 = .ok (.iload_n 2, 1) := by decide +kernel
theorem dX1_firstMeeting_8 : decode cX1_firstMeeting 8 = .ok (.iconst 0, 1) := by decide +kernel
theorem dX1_firstMeeting_9 : decode cX1_firstMeeting 9 = .ok (.invokevirtual 38, 3) := by decide +kernel
theorem dX1_firstMeeting_12 : decode cX1_firstMeeting 12 = .ok (.ireturn, 1) := by decide +kernel
theorem dX1_answer_0 : decode cX1_answer 0 = .ok (.iload_n 1, 1) := by decide +kernel
theorem dX1_answer_1 : decode cX1_answer 1 = .ok (.iconst (-1), 1) := by decide +kernel
theorem dX1_answer_2 : decode cX1_answer 2 = .ok (.if_icmp .eq 11, 3) := by decide +kernel
theorem dX1_answer_5 : decode cX1_answer 5 = .ok (.aload_n 0, 1) := by decide +kernel
theorem dX1_answer_6 : decode cX1_answer 6 = .ok (.getfield 42, 3) := by decide +kernel
theorem dX1_answer_9 : decode cX1_answer 9 = .ok (.iconst (-1), 1) := by decide +kernel
theorem dX1_answer_10 : decode cX1_answer 10 = .ok (.if_icmp .ne 8, 3) := by decide +kernel
theorem dX1_answer_13 : decode cX1_answer 13 = .ok (.aload_n 0, 1) := by decide +kernel
theorem dX1_answer_14 : decode cX1_answer 14 = .ok (.getfield 42, 3) := by decide +kernel
theorem dX1_answer_17 : decode cX1_answer 17 = .ok (.ireturn, 1) := by decide +kernel
theorem dX1_answer_18 : decode cX1_answer 18 = .ok (.aload_n 0, 1) := by decide +kernel
theorem dX1_answer_19 : decode cX1_answer 19 = .ok (.getfield 27, 3) := by decide +kernel
theorem dX1_answer_22 : decode cX1_answer 22 = .ok (.iload_n 1, 1) := by decide +kernel
theorem dX1_answer_23 : decode cX1_answer 23 = .ok (.invokevirtual 46, 3) := by decide +kernel
theorem dX1_answer_26 : decode cX1_answer 26 = .ok (.ifCond .eq 12, 3) := by decide +kernel
theorem dX1_answer_29 : decode cX1_answer 29 = .ok (.aload_n 0, 1) := by decide +kernel
theorem dX1_answer_30 : decode cX1_answer 30 = .ok (.getfield 24, 3) := by decide +kernel
theorem dX1_answer_33 : decode cX1_answer 33 = .ok (.iload_n 1, 1) := by decide +kernel
theorem dX1_answer_34 : decode cX1_answer 34 = .ok (.iaload, 1) := by decide +kernel
theorem dX1_answer_35 : decode cX1_answer 35 = .ok (.goto 5, 3) := by decide +kernel
theorem dX1_answer_38 : decode cX1_answer 38 = .ok (.ldc 52, 2) := by decide +kernel
theorem dX1_answer_40 : decode cX1_answer 40 = .ok (.ireturn, 1) := by decide +kernel
theorem dX1_seek_0 : decode cX1_seek 0 = .ok (.aload_n 0, 1) := by decide +kernel
theorem dX1_seek_1 : decode cX1_seek 1 = .ok (.invokevirtual 35, 3) := by decide +kernel
theorem dX1_seek_4 : decode cX1_seek 4 = .ok (.aload_n 0, 1) := by decide +kernel
theorem dX1_seek_5 : decode cX1_seek 5 = .ok (.invokevirtual 53, 3) := by decide +kernel
theorem dX1_seek_8 : decode cX1_seek 8 = .ok (.aload_n 0, 1) := by decide +kernel
theorem dX1_seek_9 : decode cX1_seek 9 = .ok (.iconst (-1), 1) := by decide +kernel
theorem dX1_seek_10 : decode cX1_seek 10 = .ok (.putfield 42, 3) := by decide +kernel
theorem dX1_seek_13 : decode cX1_seek 13 = .ok (.iconst 5, 1) := by decide +kernel
theorem dX1_seek_14 : decode cX1_seek 14 = .ok (.aload_n 0, 1) := by decide +kernel
theorem dX1_seek_15 : decode cX1_seek 15 = .ok (.getfield 27, 3) := by decide +kernel
theorem dX1_seek_18 : decode cX1_seek 18 = .ok (.getfield 56, 3) := by decide +kernel
theorem dX1_seek_21 : decode cX1_seek 21 = .ok (.invokestatic 59, 3) := by decide +kernel
theorem dX1_seek_24 : decode cX1_seek 24 = .ok (.istore_n 1, 1) := by decide +kernel
theorem dX1_seek_25 : decode cX1_seek 25 = .ok (.iconst 0, 1) := by decide +kernel
theorem dX1_seek_26 : decode cX1_seek 26 = .ok (.istore_n 2, 1) := by decide +kernel
theorem dX1_seek_27 : decode cX1_seek 27 = .ok (.iload_n 2, 1) := by decide +kernel
theorem dX1_seek_28 : decode cX1_seek 28 = .ok (.iload_n 1, 1) := by decide +kernel
theorem dX1_seek_29 : decode cX1_seek 29 = .ok (.if_icmp .ge 72, 3) := by decide +kernel
theorem dX1_seek_32 : decode cX1_seek 32 = .ok (.iload_n 2, 1) := by decide +kernel
theorem dX1_seek_33 : decode cX1_seek 33 = .ok (.iconst 5, 1) := by decide +kernel
theorem dX1_seek_34 : decode cX1_seek 34 = .ok (.aload_n 0, 1) := by decide +kernel
theorem dX1_seek_35 : decode cX1_seek 35 = .ok (.getfield 21, 3) := by decide +kernel
theorem dX1_seek_38 : decode cX1_seek 38 = .ok (.aload_n 0, 1) := by decide +kernel
theorem dX1_seek_39 : decode cX1_seek 39 = .ok (.getfield 27, 3) := by decide +kernel
theorem dX1_seek_42 : decode cX1_seek 42 = .ok (.getfield 56, 3) := by decide +kernel
theorem dX1_seek_45 : decode cX1_seek 45 = .ok (.invokestatic 63, 3) := by decide +kernel
theorem dX1_seek_48 : decode cX1_seek 48 = .ok (.aload_n 0, 1) := by decide +kernel
theorem dX1_seek_49 : decode cX1_seek 49 = .ok (.invokevirtual 67, 3) := by decide +kernel
theorem dX1_seek_52 : decode cX1_seek 52 = .ok (.istore_n 3, 1) := by decide +kernel
theorem dX1_seek_53 : decode cX1_seek 53 = .ok (.aload_n 0, 1) := by decide +kernel
theorem dX1_seek_54 : decode cX1_seek 54 = .ok (.getfield 42, 3) := by decide +kernel
theorem dX1_seek_57 : decode cX1_seek 57 = .ok (.iconst (-1), 1) := by decide +kernel
theorem dX1_seek_58 : decode cX1_seek 58 = .ok (.if_icmp .eq 11, 3) := by decide +kernel
theorem dX1_seek_61 : decode cX1_seek 61 = .ok (.iload_n 3, 1) := by decide +kernel
theorem dX1_seek_62 : decode cX1_seek 62 = .ok (.aload_n 0, 1) := by decide +kernel
theorem dX1_seek_63 : decode cX1_seek 63 = .ok (.getfield 42, 3) := by decide +kernel
theorem dX1_seek_66 : decode cX1_seek 66 = .ok (.if_icmp .ge 29, 3) := by decide +kernel
theorem dX1_seek_69 : decode cX1_seek 69 = .ok (.aload_n 0, 1) := by decide +kernel
theorem dX1_seek_70 : decode cX1_seek 70 = .ok (.invokevirtual 71, 3) := by decide +kernel
theorem dX1_seek_73 : decode cX1_seek 73 = .ok (.ifCond .ne 22, 3) := by decide +kernel
theorem dX1_seek_76 : decode cX1_seek 76 = .ok (.aload_n 0, 1) := by decide +kernel
theorem dX1_seek_77 : decode cX1_seek 77 = .ok (.iload_n 3, 1) := by decide +kernel
theorem dX1_seek_78 : decode cX1_seek 78 = .ok (.putfield 42, 3) := by decide +kernel
theorem dX1_seek_81 : decode cX1_seek 81 = .ok (.aload_n 0, 1) := by decide +kernel
theorem dX1_seek_82 : decode cX1_seek 82 = .ok (.getfield 21, 3) := by decide +kernel
theorem dX1_seek_85 : decode cX1_seek 85 = .ok (.iconst 0, 1) := by decide +kernel
theorem dX1_seek_86 : decode cX1_seek 86 = .ok (.aload_n 0, 1) := by decide +kernel
theorem dX1_seek_87 : decode cX1_seek 87 = .ok (.getfield 24, 3) := by decide +kernel
theorem dX1_seek_90 : decode cX1_seek 90 = .ok (.iconst 0, 1) := by decide +kernel
theorem dX1_seek_91 : decode cX1_seek 91 = .ok (.iconst 4, 1) := by decide +kernel
theorem dX1_seek_92 : decode cX1_seek 92 = .ok (.invokestatic 75, 3) := by decide +kernel
theorem dX1_seek_95 : decode cX1_seek 95 = .ok (.iinc 2 1, 3) := by decide +kernel
theorem dX1_seek_98 : decode cX1_seek 98 = .ok (.goto (-71), 3) := by decide +kernel
theorem dX1_seek_101 : decode cX1_seek 101 = .ok (.return_, 1) := by decide +kernel
theorem dX1_layTracks_0 : decode cX1_layTracks 0 = .ok (.iconst 0, 1) := by decide +kernel
theorem dX1_layTracks_1 : decode cX1_layTracks 1 = .ok (.istore_n 1, 1) := by decide +kernel
theorem dX1_layTracks_2 : decode cX1_layTracks 2 = .ok (.iload_n 1, 1) := by decide +kernel
theorem dX1_layTracks_3 : decode cX1_layTracks 3 = .ok (.iconst 4, 1) := by decide +kernel
theorem dX1_layTracks_4 : decode cX1_layTracks 4 = .ok (.if_icmp .ge 60, 3) := by decide +kernel
theorem dX1_layTracks_7 : decode cX1_layTracks 7 = .ok (.aload_n 0, 1) := by decide +kernel
theorem dX1_layTracks_8 : decode cX1_layTracks 8 = .ok (.getfield 15, 3) := by decide +kernel
theorem dX1_layTracks_11 : decode cX1_layTracks 11 = .ok (.iload_n 1, 1) := by decide +kernel
theorem dX1_layTracks_12 : decode cX1_layTracks 12 = .ok (.aload_n 0, 1) := by decide +kernel
theorem dX1_layTracks_13 : decode cX1_layTracks 13 = .ok (.getfield 31, 3) := by decide +kernel
theorem dX1_layTracks_16 : decode cX1_layTracks 16 = .ok (.iload_n 1, 1) := by decide +kernel
theorem dX1_layTracks_17 : decode cX1_layTracks 17 = .ok (.invokevirtual 81, 3) := by decide +kernel
theorem dX1_layTracks_20 : decode cX1_layTracks 20 = .ok (.invokestatic 87, 3) := by decide +kernel
theorem dX1_layTracks_23 : decode cX1_layTracks 23 = .ok (.iastore, 1) := by decide +kernel
theorem dX1_layTracks_24 : decode cX1_layTracks 24 = .ok (.iconst 0, 1) := by decide +kernel
theorem dX1_layTracks_25 : decode cX1_layTracks 25 = .ok (.istore_n 2, 1) := by decide +kernel
theorem dX1_layTracks_26 : decode cX1_layTracks 26 = .ok (.iload_n 2, 1) := by decide +kernel
theorem dX1_layTracks_27 : decode cX1_layTracks 27 = .ok (.bipush 20, 2) := by decide +kernel
theorem dX1_layTracks_29 : decode cX1_layTracks 29 = .ok (.if_icmp .gt 29, 3) := by decide +kernel
theorem dX1_layTracks_32 : decode cX1_layTracks 32 = .ok (.aload_n 0, 1) := by decide +kernel
theorem dX1_layTracks_33 : decode cX1_layTracks 33 = .ok (.getfield 9, 3) := by decide +kernel
theorem dX1_layTracks_36 : decode cX1_layTracks 36 = .ok (.iload_n 1, 1) := by decide +kernel
theorem dX1_layTracks_37 : decode cX1_layTracks 37 = .ok (.bipush 21, 2) := by decide +kernel
theorem dX1_layTracks_39 : decode cX1_layTracks 39 = .ok (.imul, 1) := by decide +kernel
theorem dX1_layTracks_40 : decode cX1_layTracks 40 = .ok (.iload_n 2, 1) := by decide +kernel
theorem dX1_layTracks_41 : decode cX1_layTracks 41 = .ok (.iadd, 1) := by decide +kernel
theorem dX1_layTracks_42 : decode cX1_layTracks 42 = .ok (.aload_n 0, 1) := by decide +kernel
theorem dX1_layTracks_43 : decode cX1_layTracks 43 = .ok (.getfield 31, 3) := by decide +kernel
theorem dX1_layTracks_46 : decode cX1_layTracks 46 = .ok (.iload_n 1, 1) := by decide +kernel
theorem dX1_layTracks_47 : decode cX1_layTracks 47 = .ok (.iload_n 2, 1) := by decide +kernel
theorem dX1_layTracks_48 : decode cX1_layTracks 48 = .ok (.invokevirtual 90, 3) := by decide +kernel
theorem dX1_layTracks_51 : decode cX1_layTracks 51 = .ok (.iastore, 1) := by decide +kernel
theorem dX1_layTracks_52 : decode cX1_layTracks 52 = .ok (.iinc 2 1, 3) := by decide +kernel
theorem dX1_layTracks_55 : decode cX1_layTracks 55 = .ok (.goto (-29), 3) := by decide +kernel
theorem dX1_layTracks_58 : decode cX1_layTracks 58 = .ok (.iinc 1 1, 3) := by decide +kernel
theorem dX1_layTracks_61 : decode cX1_layTracks 61 = .ok (.goto (-59), 3) := by decide +kernel
theorem dX1_layTracks_64 : decode cX1_layTracks 64 = .ok (.return_, 1) := by decide +kernel
theorem dX1_trackAt_0 : decode cX1_trackAt 0 = .ok (.aload_n 0, 1) := by decide +kernel
theorem dX1_trackAt_1 : decode cX1_trackAt 1 = .ok (.getfield 27, 3) := by decide +kernel
theorem dX1_trackAt_4 : decode cX1_trackAt 4 = .ok (.iload_n 1, 1) := by decide +kernel
theorem dX1_trackAt_5 : decode cX1_trackAt 5 = .ok (.invokevirtual 46, 3) := by decide +kernel
theorem dX1_trackAt_8 : decode cX1_trackAt 8 = .ok (.ifCond .eq 9, 3) := by decide +kernel
theorem dX1_trackAt_11 : decode cX1_trackAt 11 = .ok (.iload_n 2, 1) := by decide +kernel
theorem dX1_trackAt_12 : decode cX1_trackAt 12 = .ok (.bipush 20, 2) := by decide +kernel
theorem dX1_trackAt_14 : decode cX1_trackAt 14 = .ok (.if_icmp .le 5, 3) := by decide +kernel
theorem dX1_trackAt_17 : decode cX1_trackAt 17 = .ok (.iconst (-1), 1) := by decide +kernel
theorem dX1_trackAt_18 : decode cX1_trackAt 18 = .ok (.ireturn, 1) := by decide +kernel
theorem dX1_trackAt_19 : decode cX1_trackAt 19 = .ok (.aload_n 0, 1) := by decide +kernel
theorem dX1_trackAt_20 : decode cX1_trackAt 20 = .ok (.getfield 9, 3) := by decide +kernel
theorem dX1_trackAt_23 : decode cX1_trackAt 23 = .ok (.iload_n 1, 1) := by decide +kernel
theorem dX1_trackAt_24 : decode cX1_trackAt 24 = .ok (.bipush 21, 2) := by decide +kernel
theorem dX1_trackAt_26 : decode cX1_trackAt 26 = .ok (.imul, 1) := by decide +kernel
theorem dX1_trackAt_27 : decode cX1_trackAt 27 = .ok (.iload_n 2, 1) := by decide +kernel
theorem dX1_trackAt_28 : decode cX1_trackAt 28 = .ok (.iconst 0, 1) := by decide +kernel
theorem dX1_trackAt_29 : decode cX1_trackAt 29 = .ok (.invokestatic 93, 3) := by decide +kernel
theorem dX1_trackAt_32 : decode cX1_trackAt 32 = .ok (.iadd, 1) := by decide +kernel
theorem dX1_trackAt_33 : decode cX1_trackAt 33 = .ok (.iaload, 1) := by decide +kernel
theorem dX1_trackAt_34 : decode cX1_trackAt 34 = .ok (.ireturn, 1) := by decide +kernel
theorem dX1_meetingOf_0 : decode cX1_meetingOf 0 = .ok (.iconst 1, 1) := by decide +kernel
theorem dX1_meetingOf_1 : decode cX1_meetingOf 1 = .ok (.istore 5, 2) := by decide +kernel
theorem dX1_meetingOf_3 : decode cX1_meetingOf 3 = .ok (.iload 5, 2) := by decide +kernel
theorem dX1_meetingOf_5 : decode cX1_meetingOf 5 = .ok (.bipush 20, 2) := by decide +kernel
theorem dX1_meetingOf_7 : decode cX1_meetingOf 7 = .ok (.if_icmp .gt 68, 3) := by decide +kernel
theorem dX1_meetingOf_10 : decode cX1_meetingOf 10 = .ok (.aload_n 0, 1) := by decide +kernel
theorem dX1_meetingOf_11 : decode cX1_meetingOf 11 = .ok (.iload_n 1, 1) := by decide +kernel
theorem dX1_meetingOf_12 : decode cX1_meetingOf 12 = .ok (.iload 5, 2) := by decide +kernel
theorem dX1_meetingOf_14 : decode cX1_meetingOf 14 = .ok (.iconst 1, 1) := by decide +kernel
theorem dX1_meetingOf_15 : decode cX1_meetingOf 15 = .ok (.isub, 1) := by decide +kernel
theorem dX1_meetingOf_16 : decode cX1_meetingOf 16 = .ok (.iload_n 2, 1) := by decide +kernel
theorem dX1_meetingOf_17 : decode cX1_meetingOf 17 = .ok (.isub, 1) := by decide +kernel
theorem dX1_meetingOf_18 : decode cX1_meetingOf 18 = .ok (.invokevirtual 98, 3) := by decide +kernel
theorem dX1_meetingOf_21 : decode cX1_meetingOf 21 = .ok (.istore 6, 2) := by decide +kernel
theorem dX1_meetingOf_23 : decode cX1_meetingOf 23 = .ok (.aload_n 0, 1) := by decide +kernel
theorem dX1_meetingOf_24 : decode cX1_meetingOf 24 = .ok (.iload_n 3, 1) := by decide +kernel
theorem dX1_meetingOf_25 : decode cX1_meetingOf 25 = .ok (.iload 5, 2) := by decide +kernel
theorem dX1_meetingOf_27 : decode cX1_meetingOf 27 = .ok (.iconst 1, 1) := by decide +kernel
theorem dX1_meetingOf_28 : decode cX1_meetingOf 28 = .ok (.isub, 1) := by decide +kernel
theorem dX1_meetingOf_29 : decode cX1_meetingOf 29 = .ok (.iload 4, 2) := by decide +kernel
theorem dX1_meetingOf_31 : decode cX1_meetingOf 31 = .ok (.isub, 1) := by decide +kernel
theorem dX1_meetingOf_32 : decode cX1_meetingOf 32 = .ok (.invokevirtual 98, 3) := by decide +kernel
theorem dX1_meetingOf_35 : decode cX1_meetingOf 35 = .ok (.istore 7, 2) := by decide +kernel
theorem dX1_meetingOf_37 : decode cX1_meetingOf 37 = .ok (.iload 6, 2) := by decide +kernel
theorem dX1_meetingOf_39 : decode cX1_meetingOf 39 = .ok (.aload_n 0, 1) := by decide +kernel
theorem dX1_meetingOf_40 : decode cX1_meetingOf 40 = .ok (.iload_n 1, 1) := by decide +kernel
theorem dX1_meetingOf_41 : decode cX1_meetingOf 41 = .ok (.iload 5, 2) := by decide +kernel
theorem dX1_meetingOf_43 : decode cX1_meetingOf 43 = .ok (.iload_n 2, 1) := by decide +kernel
theorem dX1_meetingOf_44 : decode cX1_meetingOf 44 = .ok (.isub, 1) := by decide +kernel
theorem dX1_meetingOf_45 : decode cX1_meetingOf 45 = .ok (.invokevirtual 98, 3) := by decide +kernel
theorem dX1_meetingOf_48 : decode cX1_meetingOf 48 = .ok (.iload 7, 2) := by decide +kernel
theorem dX1_meetingOf_50 : decode cX1_meetingOf 50 = .ok (.aload_n 0, 1) := by decide +kernel
theorem dX1_meetingOf_51 : decode cX1_meetingOf 51 = .ok (.iload_n 3, 1) := by decide +kernel
theorem dX1_meetingOf_52 : decode cX1_meetingOf 52 = .ok (.iload 5, 2) := by decide +kernel
theorem dX1_meetingOf_54 : decode cX1_meetingOf 54 = .ok (.iload 4, 2) := by decide +kernel
theorem dX1_meetingOf_56 : decode cX1_meetingOf 56 = .ok (.isub, 1) := by decide +kernel
theorem dX1_meetingOf_57 : decode cX1_meetingOf 57 = .ok (.invokevirtual 98, 3) := by decide +kernel
theorem dX1_meetingOf_60 : decode cX1_meetingOf 60 = .ok (.invokestatic 101, 3) := by decide +kernel
theorem dX1_meetingOf_63 : decode cX1_meetingOf 63 = .ok (.ifCond .eq 6, 3) := by decide +kernel
theorem dX1_meetingOf_66 : decode cX1_meetingOf 66 = .ok (.iload 5, 2) := by decide +kernel
theorem dX1_meetingOf_68 : decode cX1_meetingOf 68 = .ok (.ireturn, 1) := by decide +kernel
theorem dX1_meetingOf_69 : decode cX1_meetingOf 69 = .ok (.iinc 5 1, 3) := by decide +kernel
theorem dX1_meetingOf_72 : decode cX1_meetingOf 72 = .ok (.goto (-69), 3) := by decide +kernel
theorem dX1_meetingOf_75 : decode cX1_meetingOf 75 = .ok (.iconst (-1), 1) := by decide +kernel
theorem dX1_meetingOf_76 : decode cX1_meetingOf 76 = .ok (.ireturn, 1) := by decide +kernel
theorem dX1_markClashes_0 : decode cX1_markClashes 0 = .ok (.iconst 0, 1) := by decide +kernel
theorem dX1_markClashes_1 : decode cX1_markClashes 1 = .ok (.istore_n 1, 1) := by decide +kernel
theorem dX1_markClashes_2 : decode cX1_markClashes 2 = .ok (.iload_n 1, 1) := by decide +kernel
theorem dX1_markClashes_3 : decode cX1_markClashes 3 = .ok (.aload_n 0, 1) := by decide +kernel
theorem dX1_markClashes_4 : decode cX1_markClashes 4 = .ok (.getfield 27, 3) := by decide +kernel
theorem dX1_markClashes_7 : decode cX1_markClashes 7 = .ok (.getfield 56, 3) := by decide +kernel
theorem dX1_markClashes_10 : decode cX1_markClashes 10 = .ok (.if_icmp .ge 36, 3) := by decide +kernel
theorem dX1_markClashes_13 : decode cX1_markClashes 13 = .ok (.iload_n 1, 1) := by decide +kernel
theorem dX1_markClashes_14 : decode cX1_markClashes 14 = .ok (.iconst 1, 1) := by decide +kernel
theorem dX1_markClashes_15 : decode cX1_markClashes 15 = .ok (.iadd, 1) := by decide +kernel
theorem dX1_markClashes_16 : decode cX1_markClashes 16 = .ok (.istore_n 2, 1) := by decide +kernel
theorem dX1_markClashes_17 : decode cX1_markClashes 17 = .ok (.iload_n 2, 1) := by decide +kernel
theorem dX1_markClashes_18 : decode cX1_markClashes 18 = .ok (.aload_n 0, 1) := by decide +kernel
theorem dX1_markClashes_19 : decode cX1_markClashes 19 = .ok (.getfield 27, 3) := by decide +kernel
theorem dX1_markClashes_22 : decode cX1_markClashes 22 = .ok (.getfield 56, 3) := by decide +kernel
theorem dX1_markClashes_25 : decode cX1_markClashes 25 = .ok (.if_icmp .ge 15, 3) := by decide +kernel
theorem dX1_markClashes_28 : decode cX1_markClashes 28 = .ok (.aload_n 0, 1) := by decide +kernel
theorem dX1_markClashes_29 : decode cX1_markClashes 29 = .ok (.iload_n 1, 1) := by decide +kernel
theorem dX1_markClashes_30 : decode cX1_markClashes 30 = .ok (.iload_n 2, 1) := by decide +kernel
theorem dX1_markClashes_31 : decode cX1_markClashes 31 = .ok (.invokevirtual 107, 3) := by decide +kernel
theorem dX1_markClashes_34 : decode cX1_markClashes 34 = .ok (.iinc 2 1, 3) := by decide +kernel
theorem dX1_markClashes_37 : decode cX1_markClashes 37 = .ok (.goto (-20), 3) := by decide +kernel
theorem dX1_markClashes_40 : decode cX1_markClashes 40 = .ok (.iinc 1 1, 3) := by decide +kernel
theorem dX1_markClashes_43 : decode cX1_markClashes 43 = .ok (.goto (-41), 3) := by decide +kernel
theorem dX1_markClashes_46 : decode cX1_markClashes 46 = .ok (.return_, 1) := by decide +kernel
theorem dX1_setClashes_0 : decode cX1_setClashes 0 = .ok (.iconst 0, 1) := by decide +kernel
theorem dX1_setClashes_1 : decode cX1_setClashes 1 = .ok (.istore_n 3, 1) := by decide +kernel
theorem dX1_setClashes_2 : decode cX1_setClashes 2 = .ok (.bipush (-4), 2) := by decide +kernel
theorem dX1_setClashes_4 : decode cX1_setClashes 4 = .ok (.istore 4, 2) := by decide +kernel
theorem dX1_setClashes_6 : decode cX1_setClashes 6 = .ok (.iload 4, 2) := by decide +kernel
theorem dX1_setClashes_8 : decode cX1_setClashes 8 = .ok (.iconst 5, 1) := by decide +kernel
theorem dX1_setClashes_9 : decode cX1_setClashes 9 = .ok (.if_icmp .ge 41, 3) := by decide +kernel
theorem dX1_setClashes_12 : decode cX1_setClashes 12 = .ok (.aload_n 0, 1) := by decide +kernel
theorem dX1_setClashes_13 : decode cX1_setClashes 13 = .ok (.iload_n 1, 1) := by decide +kernel
theorem dX1_setClashes_14 : decode cX1_setClashes 14 = .ok (.iload 4, 2) := by decide +kernel
theorem dX1_setClashes_16 : decode cX1_setClashes 16 = .ok (.iconst 0, 1) := by decide +kernel
theorem dX1_setClashes_17 : decode cX1_setClashes 17 = .ok (.invokestatic 93, 3) := by decide +kernel
theorem dX1_setClashes_20 : decode cX1_setClashes 20 = .ok (.iload_n 2, 1) := by decide +kernel
theorem dX1_setClashes_21 : decode cX1_setClashes 21 = .ok (.iload 4, 2) := by decide +kernel
theorem dX1_setClashes_23 : decode cX1_setClashes 23 = .ok (.ineg, 1) := by decide +kernel
theorem dX1_setClashes_24 : decode cX1_setClashes 24 = .ok (.iconst 0, 1) := by decide +kernel
theorem dX1_setClashes_25 : decode cX1_setClashes 25 = .ok (.invokestatic 93, 3) := by decide +kernel
theorem dX1_setClashes_28 : decode cX1_setClashes 28 = .ok (.invokevirtual 38, 3) := by decide +kernel
theorem dX1_setClashes_31 : decode cX1_setClashes 31 = .ok (.iconst (-1), 1) := by decide +kernel
theorem dX1_setClashes_32 : decode cX1_setClashes 32 = .ok (.if_icmp .eq 12, 3) := by decide +kernel
theorem dX1_setClashes_35 : decode cX1_setClashes 35 = .ok (.iload_n 3, 1) := by decide +kernel
theorem dX1_setClashes_36 : decode cX1_setClashes 36 = .ok (.iconst 1, 1) := by decide +kernel
theorem dX1_setClashes_37 : decode cX1_setClashes 37 = .ok (.iload 4, 2) := by decide +kernel
theorem dX1_setClashes_39 : decode cX1_setClashes 39 = .ok (.iconst 5, 1) := by decide +kernel
theorem dX1_setClashes_40 : decode cX1_setClashes 40 = .ok (.iadd, 1) := by decide +kernel
theorem dX1_setClashes_41 : decode cX1_setClashes 41 = .ok (.ishl, 1) := by decide +kernel
theorem dX1_setClashes_42 : decode cX1_setClashes 42 = .ok (.ior, 1) := by decide +kernel
theorem dX1_setClashes_43 : decode cX1_setClashes 43 = .ok (.istore_n 3, 1) := by decide +kernel
theorem dX1_setClashes_44 : decode cX1_setClashes 44 = .ok (.iinc 4 1, 3) := by decide +kernel
theorem dX1_setClashes_47 : decode cX1_setClashes 47 = .ok (.goto (-41), 3) := by decide +kernel
theorem dX1_setClashes_50 : decode cX1_setClashes 50 = .ok (.aload_n 0, 1) := by decide +kernel
theorem dX1_setClashes_51 : decode cX1_setClashes 51 = .ok (.getfield 27, 3) := by decide +kernel
theorem dX1_setClashes_54 : decode cX1_setClashes 54 = .ok (.iload_n 1, 1) := by decide +kernel
theorem dX1_setClashes_55 : decode cX1_setClashes 55 = .ok (.iload_n 2, 1) := by decide +kernel
theorem dX1_setClashes_56 : decode cX1_setClashes 56 = .ok (.invokevirtual 111, 3) := by decide +kernel
theorem dX1_setClashes_59 : decode cX1_setClashes 59 = .ok (.ifCond .eq 14, 3) := by decide +kernel
theorem dX1_setClashes_62 : decode cX1_setClashes 62 = .ok (.aload_n 0, 1) := by decide +kernel
theorem dX1_setClashes_63 : decode cX1_setClashes 63 = .ok (.getfield 18, 3) := by decide +kernel
theorem dX1_setClashes_66 : decode cX1_setClashes 66 = .ok (.iload_n 1, 1) := by decide +kernel
theorem dX1_setClashes_67 : decode cX1_setClashes 67 = .ok (.iconst 4, 1) := by decide +kernel
theorem dX1_setClashes_68 : decode cX1_setClashes 68 = .ok (.imul, 1) := by decide +kernel
theorem dX1_setClashes_69 : decode cX1_setClashes 69 = .ok (.iload_n 2, 1) := by decide +kernel
theorem dX1_setClashes_70 : decode cX1_setClashes 70 = .ok (.iadd, 1) := by decide +kernel
theorem dX1_setClashes_71 : decode cX1_setClashes 71 = .ok (.iload_n 3, 1) := by decide +kernel
theorem dX1_setClashes_72 : decode cX1_setClashes 72 = .ok (.iastore, 1) := by decide +kernel
theorem dX1_setClashes_73 : decode cX1_setClashes 73 = .ok (.return_, 1) := by decide +kernel
theorem dX1_haveClash_0 : decode cX1_haveClash 0 = .ok (.iconst 0, 1) := by decide +kernel
theorem dX1_haveClash_1 : decode cX1_haveClash 1 = .ok (.istore_n 1, 1) := by decide +kernel
theorem dX1_haveClash_2 : decode cX1_haveClash 2 = .ok (.iload_n 1, 1) := by decide +kernel
theorem dX1_haveClash_3 : decode cX1_haveClash 3 = .ok (.aload_n 0, 1) := by decide +kernel
theorem dX1_haveClash_4 : decode cX1_haveClash 4 = .ok (.getfield 27, 3) := by decide +kernel
theorem dX1_haveClash_7 : decode cX1_haveClash 7 = .ok (.getfield 56, 3) := by decide +kernel
theorem dX1_haveClash_10 : decode cX1_haveClash 10 = .ok (.if_icmp .ge 63, 3) := by decide +kernel
theorem dX1_haveClash_13 : decode cX1_haveClash 13 = .ok (.iload_n 1, 1) := by decide +kernel
theorem dX1_haveClash_14 : decode cX1_haveClash 14 = .ok (.iconst 1, 1) := by decide +kernel
theorem dX1_haveClash_15 : decode cX1_haveClash 15 = .ok (.iadd, 1) := by decide +kernel
theorem dX1_haveClash_16 : decode cX1_haveClash 16 = .ok (.istore_n 2, 1) := by decide +kernel
theorem dX1_haveClash_17 : decode cX1_haveClash 17 = .ok (.iload_n 2, 1) := by decide +kernel
theorem dX1_haveClash_18 : decode cX1_haveClash 18 = .ok (.aload_n 0, 1) := by decide +kernel
theorem dX1_haveClash_19 : decode cX1_haveClash 19 = .ok (.getfield 27, 3) := by decide +kernel
theorem dX1_haveClash_22 : decode cX1_haveClash 22 = .ok (.getfield 56, 3) := by decide +kernel
theorem dX1_haveClash_25 : decode cX1_haveClash 25 = .ok (.if_icmp .ge 42, 3) := by decide +kernel
theorem dX1_haveClash_28 : decode cX1_haveClash 28 = .ok (.aload_n 0, 1) := by decide +kernel
theorem dX1_haveClash_29 : decode cX1_haveClash 29 = .ok (.getfield 18, 3) := by decide +kernel
theorem dX1_haveClash_32 : decode cX1_haveClash 32 = .ok (.iload_n 1, 1) := by decide +kernel
theorem dX1_haveClash_33 : decode cX1_haveClash 33 = .ok (.iconst 4, 1) := by decide +kernel
theorem dX1_haveClash_34 : decode cX1_haveClash 34 = .ok (.imul, 1) := by decide +kernel
theorem dX1_haveClash_35 : decode cX1_haveClash 35 = .ok (.iload_n 2, 1) := by decide +kernel
theorem dX1_haveClash_36 : decode cX1_haveClash 36 = .ok (.iadd, 1) := by decide +kernel
theorem dX1_haveClash_37 : decode cX1_haveClash 37 = .ok (.iaload, 1) := by decide +kernel
theorem dX1_haveClash_38 : decode cX1_haveClash 38 = .ok (.aload_n 0, 1) := by decide +kernel
theorem dX1_haveClash_39 : decode cX1_haveClash 39 = .ok (.getfield 21, 3) := by decide +kernel
theorem dX1_haveClash_42 : decode cX1_haveClash 42 = .ok (.iload_n 1, 1) := by decide +kernel
theorem dX1_haveClash_43 : decode cX1_haveClash 43 = .ok (.iaload, 1) := by decide +kernel
theorem dX1_haveClash_44 : decode cX1_haveClash 44 = .ok (.aload_n 0, 1) := by decide +kernel
theorem dX1_haveClash_45 : decode cX1_haveClash 45 = .ok (.getfield 21, 3) := by decide +kernel
theorem dX1_haveClash_48 : decode cX1_haveClash 48 = .ok (.iload_n 2, 1) := by decide +kernel
theorem dX1_haveClash_49 : decode cX1_haveClash 49 = .ok (.iaload, 1) := by decide +kernel
theorem dX1_haveClash_50 : decode cX1_haveClash 50 = .ok (.isub, 1) := by decide +kernel
theorem dX1_haveClash_51 : decode cX1_haveClash 51 = .ok (.iconst 5, 1) := by decide +kernel
theorem dX1_haveClash_52 : decode cX1_haveClash 52 = .ok (.iadd, 1) := by decide +kernel
theorem dX1_haveClash_53 : decode cX1_haveClash 53 = .ok (.invokestatic 115, 3) := by decide +kernel
theorem dX1_haveClash_56 : decode cX1_haveClash 56 = .ok (.ifCond .eq 5, 3) := by decide +kernel
theorem dX1_haveClash_59 : decode cX1_haveClash 59 = .ok (.iconst 1, 1) := by decide +kernel
theorem dX1_haveClash_60 : decode cX1_haveClash 60 = .ok (.ireturn, 1) := by decide +kernel
theorem dX1_haveClash_61 : decode cX1_haveClash 61 = .ok (.iinc 2 1, 3) := by decide +kernel
theorem dX1_haveClash_64 : decode cX1_haveClash 64 = .ok (.goto (-47), 3) := by decide +kernel
theorem dX1_haveClash_67 : decode cX1_haveClash 67 = .ok (.iinc 1 1, 3) := by decide +kernel
theorem dX1_haveClash_70 : decode cX1_haveClash 70 = .ok (.goto (-68), 3) := by decide +kernel
theorem dX1_haveClash_73 : decode cX1_haveClash 73 = .ok (.iconst 0, 1) := by decide +kernel
theorem dX1_haveClash_74 : decode cX1_haveClash 74 = .ok (.ireturn, 1) := by decide +kernel
theorem dX1_endOfAll_0 : decode cX1_endOfAll 0 = .ok (.iconst 0, 1) := by decide +kernel
theorem dX1_endOfAll_1 : decode cX1_endOfAll 1 = .ok (.istore_n 1, 1) := by decide +kernel
theorem dX1_endOfAll_2 : decode cX1_endOfAll 2 = .ok (.iconst 0, 1) := by decide +kernel
theorem dX1_endOfAll_3 : decode cX1_endOfAll 3 = .ok (.istore_n 2, 1) := by decide +kernel
theorem dX1_endOfAll_4 : decode cX1_endOfAll 4 = .ok (.iload_n 2, 1) := by decide +kernel
theorem dX1_endOfAll_5 : decode cX1_endOfAll 5 = .ok (.aload_n 0, 1) := by decide +kernel
theorem dX1_endOfAll_6 : decode cX1_endOfAll 6 = .ok (.getfield 27, 3) := by decide +kernel
theorem dX1_endOfAll_9 : decode cX1_endOfAll 9 = .ok (.getfield 56, 3) := by decide +kernel
theorem dX1_endOfAll_12 : decode cX1_endOfAll 12 = .ok (.if_icmp .ge 36, 3) := by decide +kernel
theorem dX1_endOfAll_15 : decode cX1_endOfAll 15 = .ok (.aload_n 0, 1) := by decide +kernel
theorem dX1_endOfAll_16 : decode cX1_endOfAll 16 = .ok (.getfield 15, 3) := by decide +kernel
theorem dX1_endOfAll_19 : decode cX1_endOfAll 19 = .ok (.iload_n 2, 1) := by decide +kernel
theorem dX1_endOfAll_20 : decode cX1_endOfAll 20 = .ok (.iaload, 1) := by decide +kernel
theorem dX1_endOfAll_21 : decode cX1_endOfAll 21 = .ok (.ifCond .le 21, 3) := by decide +kernel
theorem dX1_endOfAll_24 : decode cX1_endOfAll 24 = .ok (.iload_n 1, 1) := by decide +kernel
theorem dX1_endOfAll_25 : decode cX1_endOfAll 25 = .ok (.aload_n 0, 1) := by decide +kernel
theorem dX1_endOfAll_26 : decode cX1_endOfAll 26 = .ok (.getfield 21, 3) := by decide +kernel
theorem dX1_endOfAll_29 : decode cX1_endOfAll 29 = .ok (.iload_n 2, 1) := by decide +kernel
theorem dX1_endOfAll_30 : decode cX1_endOfAll 30 = .ok (.iaload, 1) := by decide +kernel
theorem dX1_endOfAll_31 : decode cX1_endOfAll 31 = .ok (.aload_n 0, 1) := by decide +kernel
theorem dX1_endOfAll_32 : decode cX1_endOfAll 32 = .ok (.getfield 15, 3) := by decide +kernel
theorem dX1_endOfAll_35 : decode cX1_endOfAll 35 = .ok (.iload_n 2, 1) := by decide +kernel
theorem dX1_endOfAll_36 : decode cX1_endOfAll 36 = .ok (.iaload, 1) := by decide +kernel
theorem dX1_endOfAll_37 : decode cX1_endOfAll 37 = .ok (.iadd, 1) := by decide +kernel
theorem dX1_endOfAll_38 : decode cX1_endOfAll 38 = .ok (.invokestatic 93, 3) := by decide +kernel
theorem dX1_endOfAll_41 : decode cX1_endOfAll 41 = .ok (.istore_n 1, 1) := by decide +kernel
theorem dX1_endOfAll_42 : decode cX1_endOfAll 42 = .ok (.iinc 2 1, 3) := by decide +kernel
theorem dX1_endOfAll_45 : decode cX1_endOfAll 45 = .ok (.goto (-41), 3) := by decide +kernel
theorem dX1_endOfAll_48 : decode cX1_endOfAll 48 = .ok (.iload_n 1, 1) := by decide +kernel
theorem dX1_endOfAll_49 : decode cX1_endOfAll 49 = .ok (.ireturn, 1) := by decide +kernel
theorem dX2_init_0 : decode cX2_init 0 = .ok (.aload_n 0, 1) := by decide +kernel
theorem dX2_init_1 : decode cX2_init 1 = .ok (.invokespecial 1, 3) := by decide +kernel
theorem dX2_init_4 : decode cX2_init 4 = .ok (.aload_n 0, 1) := by decide +kernel
theorem dX2_init_5 : decode cX2_init 5 = .ok (.new 7, 3) := by decide +kernel
theorem dX2_init_8 : decode cX2_init 8 = .ok (.dup, 1) := by decide +kernel
theorem dX2_init_9 : decode cX2_init 9 = .ok (.invokespecial 9, 3) := by decide +kernel
theorem dX2_init_12 : decode cX2_init 12 = .ok (.putfield 10, 3) := by decide +kernel
theorem dX2_init_15 : decode cX2_init 15 = .ok (.return_, 1) := by decide +kernel
theorem dX3_init_0 : decode cX3_init 0 = .ok (.aload_n 0, 1) := by decide +kernel
theorem dX3_init_1 : decode cX3_init 1 = .ok (.invokespecial 3, 3) := by decide +kernel
theorem dX3_init_4 : decode cX3_init 4 = .ok (.aload_n 0, 1) := by decide +kernel
theorem dX3_init_5 : decode cX3_init 5 = .ok (.bipush 6, 2) := by decide +kernel
theorem dX3_init_7 : decode cX3_init 7 = .ok (.newarray .int, 2) := by decide +kernel
theorem dX3_init_9 : decode cX3_init 9 = .ok (.putfield 9, 3) := by decide +kernel
theorem dX3_init_12 : decode cX3_init 12 = .ok (.aload_n 0, 1) := by decide +kernel
theorem dX3_init_13 : decode cX3_init 13 = .ok (.bipush 6, 2) := by decide +kernel
theorem dX3_init_15 : decode cX3_init 15 = .ok (.newarray .int, 2) := by decide +kernel
theorem dX3_init_17 : decode cX3_init 17 = .ok (.putfield 15, 3) := by decide +kernel
theorem dX3_init_20 : decode cX3_init 20 = .ok (.aload_n 0, 1) := by decide +kernel
theorem dX3_init_21 : decode cX3_init 21 = .ok (.bipush 6, 2) := by decide +kernel
theorem dX3_init_23 : decode cX3_init 23 = .ok (.newarray .boolean, 2) := by decide +kernel
theorem dX3_init_25 : decode cX3_init 25 = .ok (.putfield 18, 3) := by decide +kernel
theorem dX3_init_28 : decode cX3_init 28 = .ok (.aload_n 0, 1) := by decide +kernel
theorem dX3_init_29 : decode cX3_init 29 = .ok (.bipush 15, 2) := by decide +kernel
theorem dX3_init_31 : decode cX3_init 31 = .ok (.newarray .int, 2) := by decide +kernel
theorem dX3_init_33 : decode cX3_init 33 = .ok (.putfield 22, 3) := by decide +kernel
theorem dX3_init_36 : decode cX3_init 36 = .ok (.aload_n 0, 1) := by decide +kernel
theorem dX3_init_37 : decode cX3_init 37 = .ok (.bipush 15, 2) := by decide +kernel
theorem dX3_init_39 : decode cX3_init 39 = .ok (.newarray .int, 2) := by decide +kernel
theorem dX3_init_41 : decode cX3_init 41 = .ok (.putfield 25, 3) := by decide +kernel
theorem dX3_init_44 : decode cX3_init 44 = .ok (.aload_n 0, 1) := by decide +kernel
theorem dX3_init_45 : decode cX3_init 45 = .ok (.aload_n 1, 1) := by decide +kernel
theorem dX3_init_46 : decode cX3_init 46 = .ok (.putfield 28, 3) := by decide +kernel
theorem dX3_init_49 : decode cX3_init 49 = .ok (.aload_n 0, 1) := by decide +kernel
theorem dX3_init_50 : decode cX3_init 50 = .ok (.aload_n 2, 1) := by decide +kernel
theorem dX3_init_51 : decode cX3_init 51 = .ok (.putfield 32, 3) := by decide +kernel
theorem dX3_init_54 : decode cX3_init 54 = .ok (.return_, 1) := by decide +kernel
theorem dX3_clear_0 : decode cX3_clear 0 = .ok (.aload_n 0, 1) := by decide +kernel
theorem dX3_clear_1 : decode cX3_clear 1 = .ok (.iconst 0, 1) := by decide +kernel
theorem dX3_clear_2 : decode cX3_clear 2 = .ok (.putfield 36, 3) := by decide +kernel
theorem dX3_clear_5 : decode cX3_clear 5 = .ok (.aload_n 0, 1) := by decide +kernel
theorem dX3_clear_6 : decode cX3_clear 6 = .ok (.iconst 0, 1) := by decide +kernel
theorem dX3_clear_7 : decode cX3_clear 7 = .ok (.putfield 40, 3) := by decide +kernel
theorem dX3_clear_10 : decode cX3_clear 10 = .ok (.return_, 1) := by decide +kernel
theorem dX3_addSight_0 : decode cX3_addSight 0 = .ok (.aload_n 0, 1) := by decide +kernel
theorem dX3_addSight_1 : decode cX3_addSight 1 = .ok (.getfield 36, 3) := by decide +kernel
theorem dX3_addSight_4 : decode cX3_addSight 4 = .ok (.bipush 6, 2) := by decide +kernel
theorem dX3_addSight_6 : decode cX3_addSight 6 = .ok (.if_icmp .lt 5, 3) := by decide +kernel
theorem dX3_addSight_9 : decode cX3_addSight 9 = .ok (.iconst 0, 1) := by decide +kernel
theorem dX3_addSight_10 : decode cX3_addSight 10 = .ok (.ireturn, 1) := by decide +kernel
theorem dX3_addSight_11 : decode cX3_addSight 11 = .ok (.aload_n 0, 1) := by decide +kernel
theorem dX3_addSight_12 : decode cX3_addSight 12 = .ok (.getfield 9, 3) := by decide +kernel
theorem dX3_addSight_15 : decode cX3_addSight 15 = .ok (.aload_n 0, 1) := by decide +kernel
theorem dX3_addSight_16 : decode cX3_addSight 16 = .ok (.getfield 36, 3) := by decide +kernel
theorem dX3_addSight_19 : decode cX3_addSight 19 = .ok (.iload_n 1, 1) := by decide +kernel
theorem dX3_addSight_20 : decode cX3_addSight 20 = .ok (.iastore, 1) := by decide +kernel
theorem dX3_addSight_21 : decode cX3_addSight 21 = .ok (.aload_n 0, 1) := by decide +kernel
theorem dX3_addSight_22 : decode cX3_addSight 22 = .ok (.getfield 15, 3) := by decide +kernel
theorem dX3_addSight_25 : decode cX3_addSight 25 = .ok (.aload_n 0, 1) := by decide +kernel
theorem dX3_addSight_26 : decode cX3_addSight 26 = .ok (.getfield 36, 3) := by decide +kernel
theorem dX3_addSight_29 : decode cX3_addSight 29 = .ok (.iload_n 2, 1) := by decide +kernel
theorem dX3_addSight_30 : decode cX3_addSight 30 = .ok (.iastore, 1) := by decide +kernel
theorem dX3_addSight_31 : decode cX3_addSight 31 = .ok (.aload_n 0, 1) := by decide +kernel
theorem dX3_addSight_32 : decode cX3_addSight 32 = .ok (.getfield 18, 3) := by decide +kernel
theorem dX3_addSight_35 : decode cX3_addSight 35 = .ok (.aload_n 0, 1) := by decide +kernel
theorem dX3_addSight_36 : decode cX3_addSight 36 = .ok (.getfield 36, 3) := by decide +kernel
theorem dX3_addSight_39 : decode cX3_addSight 39 = .ok (.iload_n 3, 1) := by decide +kernel
theorem dX3_addSight_40 : decode cX3_addSight 40 = .ok (.bastore, 1) := by decide +kernel
theorem dX3_addSight_41 : decode cX3_addSight 41 = .ok (.aload_n 0, 1) := by decide +kernel
theorem dX3_addSight_42 : decode cX3_addSight 42 = .ok (.dup, 1) := by decide +kernel
theorem dX3_addSight_43 : decode cX3_addSight 43 = .ok (.getfield 36, 3) := by decide +kernel
theorem dX3_addSight_46 : decode cX3_addSight 46 = .ok (.iconst 1, 1) := by decide +kernel
theorem dX3_addSight_47 : decode cX3_addSight 47 = .ok (.iadd, 1) := by decide +kernel
theorem dX3_addSight_48 : decode cX3_addSight 48 = .ok (.putfield 36, 3) := by decide +kernel
theorem dX3_addSight_51 : decode cX3_addSight 51 = .ok (.iconst 1, 1) := by decide +kernel
theorem dX3_addSight_52 : decode cX3_addSight 52 = .ok (.ireturn, 1) := by decide +kernel
theorem dX3_addEntry_0 : decode cX3_addEntry 0 = .ok (.aload_n 0, 1) := by decide +kernel
theorem dX3_addEntry_1 : decode cX3_addEntry 1 = .ok (.getfield 40, 3) := by decide +kernel
theorem dX3_addEntry_4 : decode cX3_addEntry 4 = .ok (.bipush 15, 2) := by decide +kernel
theorem dX3_addEntry_6 : decode cX3_addEntry 6 = .ok (.if_icmp .lt 5, 3) := by decide +kernel
theorem dX3_addEntry_9 : decode cX3_addEntry 9 = .ok (.iconst 0, 1) := by decide +kernel
theorem dX3_addEntry_10 : decode cX3_addEntry 10 = .ok (.ireturn, 1) := by decide +kernel
theorem dX3_addEntry_11 : decode cX3_addEntry 11 = .ok (.aload_n 0, 1) := by decide +kernel
theorem dX3_addEntry_12 : decode cX3_addEntry 12 = .ok (.getfield 22, 3) := by decide +kernel
theorem dX3_addEntry_15 : decode cX3_addEntry 15 = .ok (.aload_n 0, 1) := by decide +kernel
theorem dX3_addEntry_16 : decode cX3_addEntry 16 = .ok (.getfield 40, 3) := by decide +kernel
theorem dX3_addEntry_19 : decode cX3_addEntry 19 = .ok (.iload_n 1, 1) := by decide +kernel
theorem dX3_addEntry_20 : decode cX3_addEntry 20 = .ok (.iastore, 1) := by decide +kernel
theorem dX3_addEntry_21 : decode cX3_addEntry 21 = .ok (.aload_n 0, 1) := by decide +kernel
theorem dX3_addEntry_22 : decode cX3_addEntry 22 = .ok (.getfield 25, 3) := by decide +kernel
theorem dX3_addEntry_25 : decode cX3_addEntry 25 = .ok (.aload_n 0, 1) := by decide +kernel
theorem dX3_addEntry_26 : decode cX3_addEntry 26 = .ok (.getfield 40, 3) := by decide +kernel
theorem dX3_addEntry_29 : decode cX3_addEntry 29 = .ok (.iload_n 2, 1) := by decide +kernel
theorem dX3_addEntry_30 : decode cX3_addEntry 30 = .ok (.iastore, 1) := by decide +kernel
theorem dX3_addEntry_31 : decode cX3_addEntry 31 = .ok (.aload_n 0, 1) := by decide +kernel
theorem dX3_addEntry_32 : decode cX3_addEntry 32 = .ok (.dup, 1) := by decide +kernel
theorem dX3_addEntry_33 : decode cX3_addEntry 33 = .ok (.getfield 40, 3) := by decide +kernel
theorem dX3_addEntry_36 : decode cX3_addEntry 36 = .ok (.iconst 1, 1) := by decide +kernel
theorem dX3_addEntry_37 : decode cX3_addEntry 37 = .ok (.iadd, 1) := by decide +kernel
theorem dX3_addEntry_38 : decode cX3_addEntry 38 = .ok (.putfield 40, 3) := by decide +kernel
theorem dX3_addEntry_41 : decode cX3_addEntry 41 = .ok (.iconst 1, 1) := by decide +kernel
theorem dX3_addEntry_42 : decode cX3_addEntry 42 = .ok (.ireturn, 1) := by decide +kernel
theorem dX3_suspects_0 : decode cX3_suspects 0 = .ok (.iconst 0, 1) := by decide +kernel
theorem dX3_suspects_1 : decode cX3_suspects 1 = .ok (.istore_n 1, 1) := by decide +kernel
theorem dX3_suspects_2 : decode cX3_suspects 2 = .ok (.iconst 0, 1) := by decide +kernel
theorem dX3_suspects_3 : decode cX3_suspects 3 = .ok (.istore_n 2, 1) := by decide +kernel
theorem dX3_suspects_4 : decode cX3_suspects 4 = .ok (.iload_n 2, 1) := by decide +kernel
theorem dX3_suspects_5 : decode cX3_suspects 5 = .ok (.aload_n 0, 1) := by decide +kernel
theorem dX3_suspects_6 : decode cX3_suspects 6 = .ok (.getfield 28, 3) := by decide +kernel
theorem dX3_suspects_9 : decode cX3_suspects 9 = .ok (.getfield 43, 3) := by decide +kernel
theorem dX3_suspects_12 : decode cX3_suspects 12 = .ok (.if_icmp .ge 23, 3) := by decide +kernel
theorem dX3_suspects_15 : decode cX3_suspects 15 = .ok (.aload_n 0, 1) := by decide +kernel
theorem dX3_suspects_16 : decode cX3_suspects 16 = .ok (.iload_n 2, 1) := by decide +kernel
theorem dX3_suspects_17 : decode cX3_suspects 17 = .ok (.invokevirtual 48, 3) := by decide +kernel
theorem dX3_suspects_20 : decode cX3_suspects 20 = .ok (.ifCond .eq 9, 3) := by decide +kernel
theorem dX3_suspects_23 : decode cX3_suspects 23 = .ok (.iload_n 1, 1) := by decide +kernel
theorem dX3_suspects_24 : decode cX3_suspects 24 = .ok (.iconst 1, 1) := by decide +kernel
theorem dX3_suspects_25 : decode cX3_suspects 25 = .ok (.iload_n 2, 1) := by decide +kernel
theorem dX3_suspects_26 : decode cX3_suspects 26 = .ok (.ishl, 1) := by decide +kernel
theorem dX3_suspects_27 : decode cX3_suspects 27 = .ok (.ior, 1) := by decide +kernel
theorem dX3_suspects_28 : decode cX3_suspects 28 = .ok (.istore_n 1, 1) := by decide +kernel
theorem dX3_suspects_29 : decode cX3_suspects 29 = .ok (.iinc 2 1, 3) := by decide +kernel
theorem dX3_suspects_32 : decode cX3_suspects 32 = .ok (.goto (-28), 3) := by decide +kernel
theorem dX3_suspects_35 : decode cX3_suspects 35 = .ok (.iload_n 1, 1) := by decide +kernel
theorem dX3_suspects_36 : decode cX3_suspects 36 = .ok (.ireturn, 1) := by decide +kernel
theorem dX3_fitsAllSeen_0 : decode cX3_fitsAllSeen 0 = .ok (.iconst 0, 1) := by decide +kernel
theorem dX3_fitsAllSeen_1 : decode cX3_fitsAllSeen 1 = .ok (.istore_n 2, 1) := by decide +kernel
theorem dX3_fitsAllSeen_2 : decode cX3_fitsAllSeen 2 = .ok (.iload_n 2, 1) := by decide +kernel
theorem dX3_fitsAllSeen_3 : decode cX3_fitsAllSeen 3 = .ok (.aload_n 0, 1) := by decide +kernel
theorem dX3_fitsAllSeen_4 : decode cX3_fitsAllSeen 4 = .ok (.getfield 36, 3) := by decide +kernel
theorem dX3_fitsAllSeen_7 : decode cX3_fitsAllSeen 7 = .ok (.if_icmp .ge 43, 3) := by decide +kernel
theorem dX3_fitsAllSeen_10 : decode cX3_fitsAllSeen 10 = .ok (.aload_n 0, 1) := by decide +kernel
theorem dX3_fitsAllSeen_11 : decode cX3_fitsAllSeen 11 = .ok (.getfield 32, 3) := by decide +kernel
theorem dX3_fitsAllSeen_14 : decode cX3_fitsAllSeen 14 = .ok (.iload_n 1, 1) := by decide +kernel
theorem dX3_fitsAllSeen_15 : decode cX3_fitsAllSeen 15 = .ok (.aload_n 0, 1) := by decide +kernel
theorem dX3_fitsAllSeen_16 : decode cX3_fitsAllSeen 16 = .ok (.getfield 15, 3) := by decide +kernel
theorem dX3_fitsAllSeen_19 : decode cX3_fitsAllSeen 19 = .ok (.iload_n 2, 1) := by decide +kernel
theorem dX3_fitsAllSeen_20 : decode cX3_fitsAllSeen 20 = .ok (.iaload, 1) := by decide +kernel
theorem dX3_fitsAllSeen_21 : decode cX3_fitsAllSeen 21 = .ok (.invokevirtual 52, 3) := by decide +kernel
theorem dX3_fitsAllSeen_24 : decode cX3_fitsAllSeen 24 = .ok (.aload_n 0, 1) := by decide +kernel
theorem dX3_fitsAllSeen_25 : decode cX3_fitsAllSeen 25 = .ok (.getfield 9, 3) := by decide +kernel
theorem dX3_fitsAllSeen_28 : decode cX3_fitsAllSeen 28 = .ok (.iload_n 2, 1) := by decide +kernel
theorem dX3_fitsAllSeen_29 : decode cX3_fitsAllSeen 29 = .ok (.iaload, 1) := by decide +kernel
theorem dX3_fitsAllSeen_30 : decode cX3_fitsAllSeen 30 = .ok (.invokestatic 58, 3) := by decide +kernel
theorem dX3_fitsAllSeen_33 : decode cX3_fitsAllSeen 33 = .ok (.aload_n 0, 1) := by decide +kernel
theorem dX3_fitsAllSeen_34 : decode cX3_fitsAllSeen 34 = .ok (.getfield 18, 3) := by decide +kernel
theorem dX3_fitsAllSeen_37 : decode cX3_fitsAllSeen 37 = .ok (.iload_n 2, 1) := by decide +kernel
theorem dX3_fitsAllSeen_38 : decode cX3_fitsAllSeen 38 = .ok (.baload, 1) := by decide +kernel
theorem dX3_fitsAllSeen_39 : decode cX3_fitsAllSeen 39 = .ok (.if_icmp .eq 5, 3) := by decide +kernel
theorem dX3_fitsAllSeen_42 : decode cX3_fitsAllSeen 42 = .ok (.iconst 0, 1) := by decide +kernel
theorem dX3_fitsAllSeen_43 : decode cX3_fitsAllSeen 43 = .ok (.ireturn, 1) := by decide +kernel
theorem dX3_fitsAllSeen_44 : decode cX3_fitsAllSeen 44 = .ok (.iinc 2 1, 3) := by decide +kernel
theorem dX3_fitsAllSeen_47 : decode cX3_fitsAllSeen 47 = .ok (.goto (-45), 3) := by decide +kernel
theorem dX3_fitsAllSeen_50 : decode cX3_fitsAllSeen 50 = .ok (.iconst 1, 1) := by decide +kernel
theorem dX3_fitsAllSeen_51 : decode cX3_fitsAllSeen 51 = .ok (.ireturn, 1) := by decide +kernel
theorem dX3_bestRoom_0 : decode cX3_bestRoom 0 = .ok (.aload_n 0, 1) := by decide +kernel
theorem dX3_bestRoom_1 : decode cX3_bestRoom 1 = .ok (.invokevirtual 62, 3) := by decide +kernel
theorem dX3_bestRoom_4 : decode cX3_bestRoom 4 = .ok (.istore_n 1, 1) := by decide +kernel
theorem dX3_bestRoom_5 : decode cX3_bestRoom 5 = .ok (.iload_n 1, 1) := by decide +kernel
theorem dX3_bestRoom_6 : decode cX3_bestRoom 6 = .ok (.invokestatic 66, 3) := by decide +kernel
theorem dX3_bestRoom_9 : decode cX3_bestRoom 9 = .ok (.istore_n 2, 1) := by decide +kernel
theorem dX3_bestRoom_10 : decode cX3_bestRoom 10 = .ok (.iconst (-1), 1) := by decide +kernel
theorem dX3_bestRoom_11 : decode cX3_bestRoom 11 = .ok (.istore_n 3, 1) := by decide +kernel
theorem dX3_bestRoom_12 : decode cX3_bestRoom 12 = .ok (.iload_n 2, 1) := by decide +kernel
theorem dX3_bestRoom_13 : decode cX3_bestRoom 13 = .ok (.istore 4, 2) := by decide +kernel
theorem dX3_bestRoom_15 : decode cX3_bestRoom 15 = .ok (.iconst 0, 1) := by decide +kernel
theorem dX3_bestRoom_16 : decode cX3_bestRoom 16 = .ok (.istore 5, 2) := by decide +kernel
theorem dX3_bestRoom_18 : decode cX3_bestRoom 18 = .ok (.iload 5, 2) := by decide +kernel
theorem dX3_bestRoom_20 : decode cX3_bestRoom 20 = .ok (.aload_n 0, 1) := by decide +kernel
theorem dX3_bestRoom_21 : decode cX3_bestRoom 21 = .ok (.getfield 28, 3) := by decide +kernel
theorem dX3_bestRoom_24 : decode cX3_bestRoom 24 = .ok (.getfield 72, 3) := by decide +kernel
theorem dX3_bestRoom_27 : decode cX3_bestRoom 27 = .ok (.if_icmp .ge 43, 3) := by decide +kernel
theorem dX3_bestRoom_30 : decode cX3_bestRoom 30 = .ok (.aload_n 0, 1) := by decide +kernel
theorem dX3_bestRoom_31 : decode cX3_bestRoom 31 = .ok (.iload 5, 2) := by decide +kernel
theorem dX3_bestRoom_33 : decode cX3_bestRoom 33 = .ok (.iload_n 1, 1) := by decide +kernel
theorem dX3_bestRoom_34 : decode cX3_bestRoom 34 = .ok (.invokevirtual 75, 3) := by decide +kernel
theorem dX3_bestRoom_37 : decode cX3_bestRoom 37 = .ok (.istore 6, 2) := by decide +kernel
theorem dX3_bestRoom_39 : decode cX3_bestRoom 39 = .ok (.iload 6, 2) := by decide +kernel
theorem dX3_bestRoom_41 : decode cX3_bestRoom 41 = .ok (.iload_n 2, 1) := by decide +kernel
theorem dX3_bestRoom_42 : decode cX3_bestRoom 42 = .ok (.iload 6, 2) := by decide +kernel
theorem dX3_bestRoom_44 : decode cX3_bestRoom 44 = .ok (.isub, 1) := by decide +kernel
theorem dX3_bestRoom_45 : decode cX3_bestRoom 45 = .ok (.invokestatic 78, 3) := by decide +kernel
theorem dX3_bestRoom_48 : decode cX3_bestRoom 48 = .ok (.istore 7, 2) := by decide +kernel
theorem dX3_bestRoom_50 : decode cX3_bestRoom 50 = .ok (.iload 7, 2) := by decide +kernel
theorem dX3_bestRoom_52 : decode cX3_bestRoom 52 = .ok (.iload 4, 2) := by decide +kernel
theorem dX3_bestRoom_54 : decode cX3_bestRoom 54 = .ok (.if_icmp .ge 10, 3) := by decide +kernel
theorem dX3_bestRoom_57 : decode cX3_bestRoom 57 = .ok (.iload 5, 2) := by decide +kernel
theorem dX3_bestRoom_59 : decode cX3_bestRoom 59 = .ok (.istore_n 3, 1) := by decide +kernel
theorem dX3_bestRoom_60 : decode cX3_bestRoom 60 = .ok (.iload 7, 2) := by decide +kernel
theorem dX3_bestRoom_62 : decode cX3_bestRoom 62 = .ok (.istore 4, 2) := by decide +kernel
theorem dX3_bestRoom_64 : decode cX3_bestRoom 64 = .ok (.iinc 5 1, 3) := by decide +kernel
theorem dX3_bestRoom_67 : decode cX3_bestRoom 67 = .ok (.goto (-49), 3) := by decide +kernel
theorem dX3_bestRoom_70 : decode cX3_bestRoom 70 = .ok (.iload_n 3, 1) := by decide +kernel
theorem dX3_bestRoom_71 : decode cX3_bestRoom 71 = .ok (.ireturn, 1) := by decide +kernel
theorem dX3_countComingTo_0 : decode cX3_countComingTo 0 = .ok (.iconst 0, 1) := by decide +kernel
theorem dX3_countComingTo_1 : decode cX3_countComingTo 1 = .ok (.istore_n 3, 1) := by decide +kernel
theorem dX3_countComingTo_2 : decode cX3_countComingTo 2 = .ok (.iconst 0, 1) := by decide +kernel
theorem dX3_countComingTo_3 : decode cX3_countComingTo 3 = .ok (.istore 4, 2) := by decide +kernel
theorem dX3_countComingTo_5 : decode cX3_countComingTo 5 = .ok (.iload 4, 2) := by decide +kernel
theorem dX3_countComingTo_7 : decode cX3_countComingTo 7 = .ok (.aload_n 0, 1) := by decide +kernel
theorem dX3_countComingTo_8 : decode cX3_countComingTo 8 = .ok (.getfield 28, 3) := by decide +kernel
theorem dX3_countComingTo_11 : decode cX3_countComingTo 11 = .ok (.getfield 43, 3) := by decide +kernel
theorem dX3_countComingTo_14 : decode cX3_countComingTo 14 = .ok (.if_icmp .ge 39, 3) := by decide +kernel
theorem dX3_countComingTo_17 : decode cX3_countComingTo 17 = .ok (.iload_n 2, 1) := by decide +kernel
theorem dX3_countComingTo_18 : decode cX3_countComingTo 18 = .ok (.iload 4, 2) := by decide +kernel
theorem dX3_countComingTo_20 : decode cX3_countComingTo 20 = .ok (.invokestatic 58, 3) := by decide +kernel
theorem dX3_countComingTo_23 : decode cX3_countComingTo 23 = .ok (.ifCond .eq 24, 3) := by decide +kernel
theorem dX3_countComingTo_26 : decode cX3_countComingTo 26 = .ok (.aload_n 0, 1) := by decide +kernel
theorem dX3_countComingTo_27 : decode cX3_countComingTo 27 = .ok (.getfield 32, 3) := by decide +kernel
theorem dX3_countComingTo_30 : decode cX3_countComingTo 30 = .ok (.iload 4, 2) := by decide +kernel
theorem dX3_countComingTo_32 : decode cX3_countComingTo 32 = .ok (.bipush 20, 2) := by decide +kernel
theorem dX3_countComingTo_34 : decode cX3_countComingTo 34 = .ok (.invokevirtual 52, 3) := by decide +kernel
theorem dX3_countComingTo_37 : decode cX3_countComingTo 37 = .ok (.iload_n 1, 1) := by decide +kernel
theorem dX3_countComingTo_38 : decode cX3_countComingTo 38 = .ok (.invokestatic 58, 3) := by decide +kernel
theorem dX3_countComingTo_41 : decode cX3_countComingTo 41 = .ok (.ifCond .eq 6, 3) := by decide +kernel
theorem dX3_countComingTo_44 : decode cX3_countComingTo 44 = .ok (.iinc 3 1, 3) := by decide +kernel
theorem dX3_countComingTo_47 : decode cX3_countComingTo 47 = .ok (.iinc 4 1, 3) := by decide +kernel
theorem dX3_countComingTo_50 : decode cX3_countComingTo 50 = .ok (.goto (-45), 3) := by decide +kernel
theorem dX3_countComingTo_53 : decode cX3_countComingTo 53 = .ok (.iload_n 3, 1) := by decide +kernel
theorem dX3_countComingTo_54 : decode cX3_countComingTo 54 = .ok (.ireturn, 1) := by decide +kernel
theorem dX3_firstWrong_0 : decode cX3_firstWrong 0 = .ok (.iconst 0, 1) := by decide +kernel
theorem dX3_firstWrong_1 : decode cX3_firstWrong 1 = .ok (.istore_n 1, 1) := by decide +kernel
theorem dX3_firstWrong_2 : decode cX3_firstWrong 2 = .ok (.iload_n 1, 1) := by decide +kernel
theorem dX3_firstWrong_3 : decode cX3_firstWrong 3 = .ok (.aload_n 0, 1) := by decide +kernel
theorem dX3_firstWrong_4 : decode cX3_firstWrong 4 = .ok (.getfield 40, 3) := by decide +kernel
theorem dX3_firstWrong_7 : decode cX3_firstWrong 7 = .ok (.if_icmp .ge 33, 3) := by decide +kernel
theorem dX3_firstWrong_10 : decode cX3_firstWrong 10 = .ok (.aload_n 0, 1) := by decide +kernel
theorem dX3_firstWrong_11 : decode cX3_firstWrong 11 = .ok (.getfield 32, 3) := by decide +kernel
theorem dX3_firstWrong_14 : decode cX3_firstWrong 14 = .ok (.aload_n 0, 1) := by decide +kernel
theorem dX3_firstWrong_15 : decode cX3_firstWrong 15 = .ok (.getfield 22, 3) := by decide +kernel
theorem dX3_firstWrong_18 : decode cX3_firstWrong 18 = .ok (.iload_n 1, 1) := by decide +kernel
theorem dX3_firstWrong_19 : decode cX3_firstWrong 19 = .ok (.iaload, 1) := by decide +kernel
theorem dX3_firstWrong_20 : decode cX3_firstWrong 20 = .ok (.invokevirtual 83, 3) := by decide +kernel
theorem dX3_firstWrong_23 : decode cX3_firstWrong 23 = .ok (.aload_n 0, 1) := by decide +kernel
theorem dX3_firstWrong_24 : decode cX3_firstWrong 24 = .ok (.getfield 25, 3) := by decide +kernel
theorem dX3_firstWrong_27 : decode cX3_firstWrong 27 = .ok (.iload_n 1, 1) := by decide +kernel
theorem dX3_firstWrong_28 : decode cX3_firstWrong 28 = .ok (.iaload, 1) := by decide +kernel
theorem dX3_firstWrong_29 : decode cX3_firstWrong 29 = .ok (.if_icmp .eq 5, 3) := by decide +kernel
theorem dX3_firstWrong_32 : decode cX3_firstWrong 32 = .ok (.iload_n 1, 1) := by decide +kernel
theorem dX3_firstWrong_33 : decode cX3_firstWrong 33 = .ok (.ireturn, 1) := by decide +kernel
theorem dX3_firstWrong_34 : decode cX3_firstWrong 34 = .ok (.iinc 1 1, 3) := by decide +kernel
theorem dX3_firstWrong_37 : decode cX3_firstWrong 37 = .ok (.goto (-35), 3) := by decide +kernel
theorem dX3_firstWrong_40 : decode cX3_firstWrong 40 = .ok (.iconst (-1), 1) := by decide +kernel
theorem dX3_firstWrong_41 : decode cX3_firstWrong 41 = .ok (.ireturn, 1) := by decide +kernel
theorem dX4_init_0 : decode cX4_init 0 = .ok (.aload_n 0, 1) := by decide +kernel
theorem dX4_init_1 : decode cX4_init 1 = .ok (.invokespecial 3, 3) := by decide +kernel
theorem dX4_init_4 : decode cX4_init 4 = .ok (.aload_n 0, 1) := by decide +kernel
theorem dX4_init_5 : decode cX4_init 5 = .ok (.bipush 20, 2) := by decide +kernel
theorem dX4_init_7 : decode cX4_init 7 = .ok (.anewarray 9, 3) := by decide +kernel
theorem dX4_init_10 : decode cX4_init 10 = .ok (.putfield 11, 3) := by decide +kernel
theorem dX4_init_13 : decode cX4_init 13 = .ok (.iconst 0, 1) := by decide +kernel
theorem dX4_init_14 : decode cX4_init 14 = .ok (.istore_n 1, 1) := by decide +kernel
theorem dX4_init_15 : decode cX4_init 15 = .ok (.iload_n 1, 1) := by decide +kernel
theorem dX4_init_16 : decode cX4_init 16 = .ok (.bipush 20, 2) := by decide +kernel
theorem dX4_init_18 : decode cX4_init 18 = .ok (.if_icmp .ge 22, 3) := by decide +kernel
theorem dX4_init_21 : decode cX4_init 21 = .ok (.aload_n 0, 1) := by decide +kernel
theorem dX4_init_22 : decode cX4_init 22 = .ok (.getfield 11, 3) := by decide +kernel
theorem dX4_init_25 : decode cX4_init 25 = .ok (.iload_n 1, 1) := by decide +kernel
theorem dX4_init_26 : decode cX4_init 26 = .ok (.new 9, 3) := by decide +kernel
theorem dX4_init_29 : decode cX4_init 29 = .ok (.dup, 1) := by decide +kernel
theorem dX4_init_30 : decode cX4_init 30 = .ok (.invokespecial 17, 3) := by decide +kernel
theorem dX4_init_33 : decode cX4_init 33 = .ok (.aastore, 1) := by decide +kernel
theorem dX4_init_34 : decode cX4_init 34 = .ok (.iinc 1 1, 3) := by decide +kernel
theorem dX4_init_37 : decode cX4_init 37 = .ok (.goto (-22), 3) := by decide +kernel
theorem dX4_init_40 : decode cX4_init 40 = .ok (.return_, 1) := by decide +kernel
theorem dX4_forget_0 : decode cX4_forget 0 = .ok (.aload_n 0, 1) := by decide +kernel
theorem dX4_forget_1 : decode cX4_forget 1 = .ok (.iconst 0, 1) := by decide +kernel
theorem dX4_forget_2 : decode cX4_forget 2 = .ok (.putfield 18, 3) := by decide +kernel
theorem dX4_forget_5 : decode cX4_forget 5 = .ok (.return_, 1) := by decide +kernel
theorem dX4_remember_0 : decode cX4_remember 0 = .ok (.aload_n 0, 1) := by decide +kernel
theorem dX4_remember_1 : decode cX4_remember 1 = .ok (.getfield 22, 3) := by decide +kernel
theorem dX4_remember_4 : decode cX4_remember 4 = .ok (.ifCond .lt 12, 3) := by decide +kernel
theorem dX4_remember_7 : decode cX4_remember 7 = .ok (.aload_n 0, 1) := by decide +kernel
theorem dX4_remember_8 : decode cX4_remember 8 = .ok (.getfield 22, 3) := by decide +kernel
theorem dX4_remember_11 : decode cX4_remember 11 = .ok (.bipush 20, 2) := by decide +kernel
theorem dX4_remember_13 : decode cX4_remember 13 = .ok (.if_icmp .lt 4, 3) := by decide +kernel
theorem dX4_remember_16 : decode cX4_remember 16 = .ok (.return_, 1) := by decide +kernel
theorem dX4_remember_17 : decode cX4_remember 17 = .ok (.aload_n 0, 1) := by decide +kernel
theorem dX4_remember_18 : decode cX4_remember 18 = .ok (.getfield 11, 3) := by decide +kernel
theorem dX4_remember_21 : decode cX4_remember 21 = .ok (.aload_n 0, 1) := by decide +kernel
theorem dX4_remember_22 : decode cX4_remember 22 = .ok (.getfield 22, 3) := by decide +kernel
theorem dX4_remember_25 : decode cX4_remember 25 = .ok (.aaload, 1) := by decide +kernel
theorem dX4_remember_26 : decode cX4_remember 26 = .ok (.aload_n 1, 1) := by decide +kernel
theorem dX4_remember_27 : decode cX4_remember 27 = .ok (.invokevirtual 25, 3) := by decide +kernel
theorem dX4_remember_30 : decode cX4_remember 30 = .ok (.aload_n 0, 1) := by decide +kernel
theorem dX4_remember_31 : decode cX4_remember 31 = .ok (.aload_n 0, 1) := by decide +kernel
theorem dX4_remember_32 : decode cX4_remember 32 = .ok (.getfield 22, 3) := by decide +kernel
theorem dX4_remember_35 : decode cX4_remember 35 = .ok (.iconst 1, 1) := by decide +kernel
theorem dX4_remember_36 : decode cX4_remember 36 = .ok (.iadd, 1) := by decide +kernel
theorem dX4_remember_37 : decode cX4_remember 37 = .ok (.bipush 20, 2) := by decide +kernel
theorem dX4_remember_39 : decode cX4_remember 39 = .ok (.irem, 1) := by decide +kernel
theorem dX4_remember_40 : decode cX4_remember 40 = .ok (.putfield 22, 3) := by decide +kernel
theorem dX4_remember_43 : decode cX4_remember 43 = .ok (.aload_n 0, 1) := by decide +kernel
theorem dX4_remember_44 : decode cX4_remember 44 = .ok (.aload_n 0, 1) := by decide +kernel
theorem dX4_remember_45 : decode cX4_remember 45 = .ok (.getfield 18, 3) := by decide +kernel
theorem dX4_remember_48 : decode cX4_remember 48 = .ok (.iconst 1, 1) := by decide +kernel
theorem dX4_remember_49 : decode cX4_remember 49 = .ok (.iadd, 1) := by decide +kernel
theorem dX4_remember_50 : decode cX4_remember 50 = .ok (.bipush 20, 2) := by decide +kernel
theorem dX4_remember_52 : decode cX4_remember 52 = .ok (.invokestatic 29, 3) := by decide +kernel
theorem dX4_remember_55 : decode cX4_remember 55 = .ok (.putfield 18, 3) := by decide +kernel
theorem dX4_remember_58 : decode cX4_remember 58 = .ok (.return_, 1) := by decide +kernel
theorem dX4_bringBack_0 : decode cX4_bringBack 0 = .ok (.aload_n 0, 1) := by decide +kernel
theorem dX4_bringBack_1 : decode cX4_bringBack 1 = .ok (.getfield 22, 3) := by decide +kernel
theorem dX4_bringBack_4 : decode cX4_bringBack 4 = .ok (.bipush 20, 2) := by decide +kernel
theorem dX4_bringBack_6 : decode cX4_bringBack 6 = .ok (.iadd, 1) := by decide +kernel
theorem dX4_bringBack_7 : decode cX4_bringBack 7 = .ok (.iconst 1, 1) := by decide +kernel
theorem dX4_bringBack_8 : decode cX4_bringBack 8 = .ok (.isub, 1) := by decide +kernel
theorem dX4_bringBack_9 : decode cX4_bringBack 9 = .ok (.bipush 20, 2) := by decide +kernel
theorem dX4_bringBack_11 : decode cX4_bringBack 11 = .ok (.irem, 1) := by decide +kernel
theorem dX4_bringBack_12 : decode cX4_bringBack 12 = .ok (.istore_n 2, 1) := by decide +kernel
theorem dX4_bringBack_13 : decode cX4_bringBack 13 = .ok (.aload_n 0, 1) := by decide +kernel
theorem dX4_bringBack_14 : decode cX4_bringBack 14 = .ok (.getfield 18, 3) := by decide +kernel
theorem dX4_bringBack_17 : decode cX4_bringBack 17 = .ok (.ifCond .eq 7, 3) := by decide +kernel
theorem dX4_bringBack_20 : decode cX4_bringBack 20 = .ok (.iload_n 2, 1) := by decide +kernel
theorem dX4_bringBack_21 : decode cX4_bringBack 21 = .ok (.ifCond .ge 5, 3) := by decide +kernel
theorem dX4_bringBack_24 : decode cX4_bringBack 24 = .ok (.iconst 0, 1) := by decide +kernel
theorem dX4_bringBack_25 : decode cX4_bringBack 25 = .ok (.ireturn, 1) := by decide +kernel
theorem dX4_bringBack_26 : decode cX4_bringBack 26 = .ok (.aload_n 1, 1) := by decide +kernel
theorem dX4_bringBack_27 : decode cX4_bringBack 27 = .ok (.aload_n 0, 1) := by decide +kernel
theorem dX4_bringBack_28 : decode cX4_bringBack 28 = .ok (.getfield 11, 3) := by decide +kernel
theorem dX4_bringBack_31 : decode cX4_bringBack 31 = .ok (.iload_n 2, 1) := by decide +kernel
theorem dX4_bringBack_32 : decode cX4_bringBack 32 = .ok (.aaload, 1) := by decide +kernel
theorem dX4_bringBack_33 : decode cX4_bringBack 33 = .ok (.invokevirtual 25, 3) := by decide +kernel
theorem dX4_bringBack_36 : decode cX4_bringBack 36 = .ok (.aload_n 0, 1) := by decide +kernel
theorem dX4_bringBack_37 : decode cX4_bringBack 37 = .ok (.iload_n 2, 1) := by decide +kernel
theorem dX4_bringBack_38 : decode cX4_bringBack 38 = .ok (.putfield 22, 3) := by decide +kernel
theorem dX4_bringBack_41 : decode cX4_bringBack 41 = .ok (.aload_n 0, 1) := by decide +kernel
theorem dX4_bringBack_42 : decode cX4_bringBack 42 = .ok (.dup, 1) := by decide +kernel
theorem dX4_bringBack_43 : decode cX4_bringBack 43 = .ok (.getfield 18, 3) := by decide +kernel
theorem dX4_bringBack_46 : decode cX4_bringBack 46 = .ok (.iconst 1, 1) := by decide +kernel
theorem dX4_bringBack_47 : decode cX4_bringBack 47 = .ok (.isub, 1) := by decide +kernel
theorem dX4_bringBack_48 : decode cX4_bringBack 48 = .ok (.putfield 18, 3) := by decide +kernel
theorem dX4_bringBack_51 : decode cX4_bringBack 51 = .ok (.iconst 1, 1) := by decide +kernel
theorem dX4_bringBack_52 : decode cX4_bringBack 52 = .ok (.ireturn, 1) := by decide +kernel
theorem dX5_init_0 : decode cX5_init 0 = .ok (.aload_n 0, 1) := by decide +kernel
theorem dX5_init_1 : decode cX5_init 1 = .ok (.invokespecial 3, 3) := by decide +kernel
theorem dX5_init_4 : decode cX5_init 4 = .ok (.aload_n 0, 1) := by decide +kernel
theorem dX5_init_5 : decode cX5_init 5 = .ok (.bipush 8, 2) := by decide +kernel
theorem dX5_init_7 : decode cX5_init 7 = .ok (.newarray .int, 2) := by decide +kernel
theorem dX5_init_9 : decode cX5_init 9 = .ok (.putfield 9, 3) := by decide +kernel
theorem dX5_init_12 : decode cX5_init 12 = .ok (.aload_n 0, 1) := by decide +kernel
theorem dX5_init_13 : decode cX5_init 13 = .ok (.iconst 4, 1) := by decide +kernel
theorem dX5_init_14 : decode cX5_init 14 = .ok (.newarray .int, 2) := by decide +kernel
theorem dX5_init_16 : decode cX5_init 16 = .ok (.putfield 15, 3) := by decide +kernel
theorem dX5_init_19 : decode cX5_init 19 = .ok (.aload_n 0, 1) := by decide +kernel
theorem dX5_init_20 : decode cX5_init 20 = .ok (.iconst 4, 1) := by decide +kernel
theorem dX5_init_21 : decode cX5_init 21 = .ok (.newarray .int, 2) := by decide +kernel
theorem dX5_init_23 : decode cX5_init 23 = .ok (.putfield 18, 3) := by decide +kernel
theorem dX5_init_26 : decode cX5_init 26 = .ok (.aload_n 0, 1) := by decide +kernel
theorem dX5_init_27 : decode cX5_init 27 = .ok (.bipush 8, 2) := by decide +kernel
theorem dX5_init_29 : decode cX5_init 29 = .ok (.newarray .int, 2) := by decide +kernel
theorem dX5_init_31 : decode cX5_init 31 = .ok (.putfield 21, 3) := by decide +kernel
theorem dX5_init_34 : decode cX5_init 34 = .ok (.aload_n 0, 1) := by decide +kernel
theorem dX5_init_35 : decode cX5_init 35 = .ok (.bipush 8, 2) := by decide +kernel
theorem dX5_init_37 : decode cX5_init 37 = .ok (.newarray .int, 2) := by decide +kernel
theorem dX5_init_39 : decode cX5_init 39 = .ok (.putfield 24, 3) := by decide +kernel
theorem dX5_init_42 : decode cX5_init 42 = .ok (.aload_n 0, 1) := by decide +kernel
theorem dX5_init_43 : decode cX5_init 43 = .ok (.iconst 4, 1) := by decide +kernel
theorem dX5_init_44 : decode cX5_init 44 = .ok (.newarray .int, 2) := by decide +kernel
theorem dX5_init_46 : decode cX5_init 46 = .ok (.putfield 27, 3) := by decide +kernel
theorem dX5_init_49 : decode cX5_init 49 = .ok (.aload_n 0, 1) := by decide +kernel
theorem dX5_init_50 : decode cX5_init 50 = .ok (.iconst 4, 1) := by decide +kernel
theorem dX5_init_51 : decode cX5_init 51 = .ok (.newarray .int, 2) := by decide +kernel
theorem dX5_init_53 : decode cX5_init 53 = .ok (.putfield 30, 3) := by decide +kernel
theorem dX5_init_56 : decode cX5_init 56 = .ok (.return_, 1) := by decide +kernel
theorem dX5_clear_0 : decode cX5_clear 0 = .ok (.aload_n 0, 1) := by decide +kernel
theorem dX5_clear_1 : decode cX5_clear 1 = .ok (.iconst 0, 1) := by decide +kernel
theorem dX5_clear_2 : decode cX5_clear 2 = .ok (.putfield 33, 3) := by decide +kernel
theorem dX5_clear_5 : decode cX5_clear 5 = .ok (.aload_n 0, 1) := by decide +kernel
theorem dX5_clear_6 : decode cX5_clear 6 = .ok (.iconst 0, 1) := by decide +kernel
theorem dX5_clear_7 : decode cX5_clear 7 = .ok (.putfield 37, 3) := by decide +kernel
theorem dX5_clear_10 : decode cX5_clear 10 = .ok (.aload_n 0, 1) := by decide +kernel
theorem dX5_clear_11 : decode cX5_clear 11 = .ok (.iconst 0, 1) := by decide +kernel
theorem dX5_clear_12 : decode cX5_clear 12 = .ok (.putfield 40, 3) := by decide +kernel
theorem dX5_clear_15 : decode cX5_clear 15 = .ok (.aload_n 0, 1) := by decide +kernel
theorem dX5_clear_16 : decode cX5_clear 16 = .ok (.iconst 0, 1) := by decide +kernel
theorem dX5_clear_17 : decode cX5_clear 17 = .ok (.putfield 43, 3) := by decide +kernel
theorem dX5_clear_20 : decode cX5_clear 20 = .ok (.aload_n 0, 1) := by decide +kernel
theorem dX5_clear_21 : decode cX5_clear 21 = .ok (.iconst 0, 1) := by decide +kernel
theorem dX5_clear_22 : decode cX5_clear 22 = .ok (.putfield 46, 3) := by decide +kernel
theorem dX5_clear_25 : decode cX5_clear 25 = .ok (.aload_n 0, 1) := by decide +kernel
theorem dX5_clear_26 : decode cX5_clear 26 = .ok (.iconst 0, 1) := by decide +kernel
theorem dX5_clear_27 : decode cX5_clear 27 = .ok (.putfield 49, 3) := by decide +kernel
theorem dX5_clear_30 : decode cX5_clear 30 = .ok (.iconst 0, 1) := by decide +kernel
theorem dX5_clear_31 : decode cX5_clear 31 = .ok (.istore_n 1, 1) := by decide +kernel
theorem dX5_clear_32 : decode cX5_clear 32 = .ok (.iload_n 1, 1) := by decide +kernel
theorem dX5_clear_33 : decode cX5_clear 33 = .ok (.bipush 8, 2) := by decide +kernel
theorem dX5_clear_35 : decode cX5_clear 35 = .ok (.if_icmp .ge 16, 3) := by decide +kernel
theorem dX5_clear_38 : decode cX5_clear 38 = .ok (.aload_n 0, 1) := by decide +kernel
theorem dX5_clear_39 : decode cX5_clear 39 = .ok (.getfield 9, 3) := by decide +kernel
theorem dX5_clear_42 : decode cX5_clear 42 = .ok (.iload_n 1, 1) := by decide +kernel
theorem dX5_clear_43 : decode cX5_clear 43 = .ok (.iconst 0, 1) := by decide +kernel
theorem dX5_clear_44 : decode cX5_clear 44 = .ok (.iastore, 1) := by decide +kernel
theorem dX5_clear_45 : decode cX5_clear 45 = .ok (.iinc 1 1, 3) := by decide +kernel
theorem dX5_clear_48 : decode cX5_clear 48 = .ok (.goto (-16), 3) := by decide +kernel
theorem dX5_clear_51 : decode cX5_clear 51 = .ok (.return_, 1) := by decide +kernel
theorem dX5_become_0 : decode cX5_become 0 = .ok (.aload_n 0, 1) := by decide +kernel
theorem dX5_become_1 : decode cX5_become 1 = .ok (.aload_n 1, 1) := by decide +kernel
theorem dX5_become_2 : decode cX5_become 2 = .ok (.getfield 33, 3) := by decide +kernel
theorem dX5_become_5 : decode cX5_become 5 = .ok (.putfield 33, 3) := by decide +kernel
theorem dX5_become_8 : decode cX5_become 8 = .ok (.aload_n 0, 1) := by decide +kernel
theorem dX5_become_9 : decode cX5_become 9 = .ok (.aload_n 1, 1) := by decide +kernel
theorem dX5_become_10 : decode cX5_become 10 = .ok (.getfield 37, 3) := by decide +kernel
theorem dX5_become_13 : decode cX5_become 13 = .ok (.putfield 37, 3) := by decide +kernel
theorem dX5_become_16 : decode cX5_become 16 = .ok (.aload_n 0, 1) := by decide +kernel
theorem dX5_become_17 : decode cX5_become 17 = .ok (.aload_n 1, 1) := by decide +kernel
theorem dX5_become_18 : decode cX5_become 18 = .ok (.getfield 40, 3) := by decide +kernel
theorem dX5_become_21 : decode cX5_become 21 = .ok (.putfield 40, 3) := by decide +kernel
theorem dX5_become_24 : decode cX5_become 24 = .ok (.aload_n 0, 1) := by decide +kernel
theorem dX5_become_25 : decode cX5_become 25 = .ok (.aload_n 1, 1) := by decide +kernel
theorem dX5_become_26 : decode cX5_become 26 = .ok (.getfield 43, 3) := by decide +kernel
theorem dX5_become_29 : decode cX5_become 29 = .ok (.putfield 43, 3) := by decide +kernel
theorem dX5_become_32 : decode cX5_become 32 = .ok (.aload_n 0, 1) := by decide +kernel
theorem dX5_become_33 : decode cX5_become 33 = .ok (.aload_n 1, 1) := by decide +kernel
theorem dX5_become_34 : decode cX5_become 34 = .ok (.getfield 46, 3) := by decide +kernel
theorem dX5_become_37 : decode cX5_become 37 = .ok (.putfield 46, 3) := by decide +kernel
theorem dX5_become_40 : decode cX5_become 40 = .ok (.aload_n 0, 1) := by decide +kernel
theorem dX5_become_41 : decode cX5_become 41 = .ok (.aload_n 1, 1) := by decide +kernel
theorem dX5_become_42 : decode cX5_become 42 = .ok (.getfield 49, 3) := by decide +kernel
theorem dX5_become_45 : decode cX5_become 45 = .ok (.putfield 49, 3) := by decide +kernel
theorem dX5_become_48 : decode cX5_become 48 = .ok (.aload_n 1, 1) := by decide +kernel
theorem dX5_become_49 : decode cX5_become 49 = .ok (.getfield 9, 3) := by decide +kernel
theorem dX5_become_52 : decode cX5_become 52 = .ok (.iconst 0, 1) := by decide +kernel
theorem dX5_become_53 : decode cX5_become 53 = .ok (.aload_n 0, 1) := by decide +kernel
theorem dX5_become_54 : decode cX5_become 54 = .ok (.getfield 9, 3) := by decide +kernel
theorem dX5_become_57 : decode cX5_become 57 = .ok (.iconst 0, 1) := by decide +kernel
theorem dX5_become_58 : decode cX5_become 58 = .ok (.bipush 8, 2) := by decide +kernel
theorem dX5_become_60 : decode cX5_become 60 = .ok (.invokestatic 52, 3) := by decide +kernel
theorem dX5_become_63 : decode cX5_become 63 = .ok (.aload_n 1, 1) := by decide +kernel
theorem dX5_become_64 : decode cX5_become 64 = .ok (.getfield 15, 3) := by decide +kernel
theorem dX5_become_67 : decode cX5_become 67 = .ok (.iconst 0, 1) := by decide +kernel
theorem dX5_become_68 : decode cX5_become 68 = .ok (.aload_n 0, 1) := by decide +kernel
theorem dX5_become_69 : decode cX5_become 69 = .ok (.getfield 15, 3) := by decide +kernel
theorem dX5_become_72 : decode cX5_become 72 = .ok (.iconst 0, 1) := by decide +kernel
theorem dX5_become_73 : decode cX5_become 73 = .ok (.iconst 4, 1) := by decide +kernel
theorem dX5_become_74 : decode cX5_become 74 = .ok (.invokestatic 52, 3) := by decide +kernel
theorem dX5_become_77 : decode cX5_become 77 = .ok (.aload_n 1, 1) := by decide +kernel
theorem dX5_become_78 : decode cX5_become 78 = .ok (.getfield 18, 3) := by decide +kernel
theorem dX5_become_81 : decode cX5_become 81 = .ok (.iconst 0, 1) := by decide +kernel
theorem dX5_become_82 : decode cX5_become 82 = .ok (.aload_n 0, 1) := by decide +kernel
theorem dX5_become_83 : decode cX5_become 83 = .ok (.getfield 18, 3) := by decide +kernel
theorem dX5_become_86 : decode cX5_become 86 = .ok (.iconst 0, 1) := by decide +kernel
theorem dX5_become_87 : decode cX5_become 87 = .ok (.iconst 4, 1) := by decide +kernel
theorem dX5_become_88 : decode cX5_become 88 = .ok (.invokestatic 52, 3) := by decide +kernel
theorem dX5_become_91 : decode cX5_become 91 = .ok (.aload_n 1, 1) := by decide +kernel
theorem dX5_become_92 : decode cX5_become 92 = .ok (.getfield 21, 3) := by decide +kernel
theorem dX5_become_95 : decode cX5_become 95 = .ok (.iconst 0, 1) := by decide +kernel
theorem dX5_become_96 : decode cX5_become 96 = .ok (.aload_n 0, 1) := by decide +kernel
theorem dX5_become_97 : decode cX5_become 97 = .ok (.getfield 21, 3) := by decide +kernel
theorem dX5_become_100 : decode cX5_become 100 = .ok (.iconst 0, 1) := by decide +kernel
theorem dX5_become_101 : decode cX5_become 101 = .ok (.bipush 8, 2) := by decide +kernel
theorem dX5_become_103 : decode cX5_become 103 = .ok (.invokestatic 52, 3) := by decide +kernel
theorem dX5_become_106 : decode cX5_become 106 = .ok (.aload_n 1, 1) := by decide +kernel
theorem dX5_become_107 : decode cX5_become 107 = .ok (.getfield 24, 3) := by decide +kernel
theorem dX5_become_110 : decode cX5_become 110 = .ok (.iconst 0, 1) := by decide +kernel
theorem dX5_become_111 : decode cX5_become 111 = .ok (.aload_n 0, 1) := by decide +kernel
theorem dX5_become_112 : decode cX5_become 112 = .ok (.getfield 24, 3) := by decide +kernel
theorem dX5_become_115 : decode cX5_become 115 = .ok (.iconst 0, 1) := by decide +kernel
theorem dX5_become_116 : decode cX5_become 116 = .ok (.bipush 8, 2) := by decide +kernel
theorem dX5_become_118 : decode cX5_become 118 = .ok (.invokestatic 52, 3) := by decide +kernel
theorem dX5_become_121 : decode cX5_become 121 = .ok (.aload_n 1, 1) := by decide +kernel
theorem dX5_become_122 : decode cX5_become 122 = .ok (.getfield 27, 3) := by decide +kernel
theorem dX5_become_125 : decode cX5_become 125 = .ok (.iconst 0, 1) := by decide +kernel
theorem dX5_become_126 : decode cX5_become 126 = .ok (.aload_n 0, 1) := by decide +kernel
theorem dX5_become_127 : decode cX5_become 127 = .ok (.getfield 27, 3) := by decide +kernel
theorem dX5_become_130 : decode cX5_become 130 = .ok (.iconst 0, 1) := by decide +kernel
theorem dX5_become_131 : decode cX5_become 131 = .ok (.iconst 4, 1) := by decide +kernel
theorem dX5_become_132 : decode cX5_become 132 = .ok (.invokestatic 52, 3) := by decide +kernel
theorem dX5_become_135 : decode cX5_become 135 = .ok (.aload_n 1, 1) := by decide +kernel
theorem dX5_become_136 : decode cX5_become 136 = .ok (.getfield 30, 3) := by decide +kernel
theorem dX5_become_139 : decode cX5_become 139 = .ok (.iconst 0, 1) := by decide +kernel
theorem dX5_become_140 : decode cX5_become 140 = .ok (.aload_n 0, 1) := by decide +kernel
theorem dX5_become_141 : decode cX5_become 141 = .ok (.getfield 30, 3) := by decide +kernel
theorem dX5_become_144 : decode cX5_become 144 = .ok (.iconst 0, 1) := by decide +kernel
theorem dX5_become_145 : decode cX5_become 145 = .ok (.iconst 4, 1) := by decide +kernel
theorem dX5_become_146 : decode cX5_become 146 = .ok (.invokestatic 52, 3) := by decide +kernel
theorem dX5_become_149 : decode cX5_become 149 = .ok (.return_, 1) := by decide +kernel
theorem dX5_hasRoom_0 : decode cX5_hasRoom 0 = .ok (.iload_n 1, 1) := by decide +kernel
theorem dX5_hasRoom_1 : decode cX5_hasRoom 1 = .ok (.ifCond .lt 21, 3) := by decide +kernel
theorem dX5_hasRoom_4 : decode cX5_hasRoom 4 = .ok (.iload_n 1, 1) := by decide +kernel
theorem dX5_hasRoom_5 : decode cX5_hasRoom 5 = .ok (.aload_n 0, 1) := by decide +kernel
theorem dX5_hasRoom_6 : decode cX5_hasRoom 6 = .ok (.getfield 33, 3) := by decide +kernel
theorem dX5_hasRoom_9 : decode cX5_hasRoom 9 = .ok (.if_icmp .ge 13, 3) := by decide +kernel
theorem dX5_hasRoom_12 : decode cX5_hasRoom 12 = .ok (.iload_n 1, 1) := by decide +kernel
theorem dX5_hasRoom_13 : decode cX5_hasRoom 13 = .ok (.bipush 8, 2) := by decide +kernel
theorem dX5_hasRoom_15 : decode cX5_hasRoom 15 = .ok (.if_icmp .ge 7, 3) := by decide +kernel
theorem dX5_hasRoom_18 : decode cX5_hasRoom 18 = .ok (.iconst 1, 1) := by decide +kernel
theorem dX5_hasRoom_19 : decode cX5_hasRoom 19 = .ok (.goto 4, 3) := by decide +kernel
theorem dX5_hasRoom_22 : decode cX5_hasRoom 22 = .ok (.iconst 0, 1) := by decide +kernel
theorem dX5_hasRoom_23 : decode cX5_hasRoom 23 = .ok (.ireturn, 1) := by decide +kernel
theorem dX5_hasWaiter_0 : decode cX5_hasWaiter 0 = .ok (.iload_n 1, 1) := by decide +kernel
theorem dX5_hasWaiter_1 : decode cX5_hasWaiter 1 = .ok (.ifCond .lt 20, 3) := by decide +kernel
theorem dX5_hasWaiter_4 : decode cX5_hasWaiter 4 = .ok (.iload_n 1, 1) := by decide +kernel
theorem dX5_hasWaiter_5 : decode cX5_hasWaiter 5 = .ok (.aload_n 0, 1) := by decide +kernel
theorem dX5_hasWaiter_6 : decode cX5_hasWaiter 6 = .ok (.getfield 43, 3) := by decide +kernel
theorem dX5_hasWaiter_9 : decode cX5_hasWaiter 9 = .ok (.if_icmp .ge 12, 3) := by decide +kernel
theorem dX5_hasWaiter_12 : decode cX5_hasWaiter 12 = .ok (.iload_n 1, 1) := by decide +kernel
theorem dX5_hasWaiter_13 : decode cX5_hasWaiter 13 = .ok (.iconst 4, 1) := by decide +kernel
theorem dX5_hasWaiter_14 : decode cX5_hasWaiter 14 = .ok (.if_icmp .ge 7, 3) := by decide +kernel
theorem dX5_hasWaiter_17 : decode cX5_hasWaiter 17 = .ok (.iconst 1, 1) := by decide +kernel
theorem dX5_hasWaiter_18 : decode cX5_hasWaiter 18 = .ok (.goto 4, 3) := by decide +kernel
theorem dX5_hasWaiter_21 : decode cX5_hasWaiter 21 = .ok (.iconst 0, 1) := by decide +kernel
theorem dX5_hasWaiter_22 : decode cX5_hasWaiter 22 = .ok (.ireturn, 1) := by decide +kernel
theorem dX5_hasTwoWaiters_0 : decode cX5_hasTwoWaiters 0 = .ok (.aload_n 0, 1) := by decide +kernel
theorem dX5_hasTwoWaiters_1 : decode cX5_hasTwoWaiters 1 = .ok (.iload_n 1, 1) := by decide +kernel
theorem dX5_hasTwoWaiters_2 : decode cX5_hasTwoWaiters 2 = .ok (.invokevirtual 58, 3) := by decide +kernel
theorem dX5_hasTwoWaiters_5 : decode cX5_hasTwoWaiters 5 = .ok (.ifCond .eq 20, 3) := by decide +kernel
theorem dX5_hasTwoWaiters_8 : decode cX5_hasTwoWaiters 8 = .ok (.aload_n 0, 1) := by decide +kernel
theorem dX5_hasTwoWaiters_9 : decode cX5_hasTwoWaiters 9 = .ok (.iload_n 2, 1) := by decide +kernel
theorem dX5_hasTwoWaiters_10 : decode cX5_hasTwoWaiters 10 = .ok (.invokevirtual 58, 3) := by decide +kernel
theorem dX5_hasTwoWaiters_13 : decode cX5_hasTwoWaiters 13 = .ok (.ifCond .eq 12, 3) := by decide +kernel
theorem dX5_hasTwoWaiters_16 : decode cX5_hasTwoWaiters 16 = .ok (.iload_n 1, 1) := by decide +kernel
theorem dX5_hasTwoWaiters_17 : decode cX5_hasTwoWaiters 17 = .ok (.iload_n 2, 1) := by decide +kernel
theorem dX5_hasTwoWaiters_18 : decode cX5_hasTwoWaiters 18 = .ok (.if_icmp .eq 7, 3) := by decide +kernel
theorem dX5_hasTwoWaiters_21 : decode cX5_hasTwoWaiters 21 = .ok (.iconst 1, 1) := by decide +kernel
theorem dX5_hasTwoWaiters_22 : decode cX5_hasTwoWaiters 22 = .ok (.goto 4, 3) := by decide +kernel
theorem dX5_hasTwoWaiters_25 : decode cX5_hasTwoWaiters 25 = .ok (.iconst 0, 1) := by decide +kernel
theorem dX5_hasTwoWaiters_26 : decode cX5_hasTwoWaiters 26 = .ok (.ireturn, 1) := by decide +kernel
theorem dX5_hasThing_0 : decode cX5_hasThing 0 = .ok (.iload_n 1, 1) := by decide +kernel
theorem dX5_hasThing_1 : decode cX5_hasThing 1 = .ok (.ifCond .lt 21, 3) := by decide +kernel
theorem dX5_hasThing_4 : decode cX5_hasThing 4 = .ok (.iload_n 1, 1) := by decide +kernel
theorem dX5_hasThing_5 : decode cX5_hasThing 5 = .ok (.aload_n 0, 1) := by decide +kernel
theorem dX5_hasThing_6 : decode cX5_hasThing 6 = .ok (.getfield 46, 3) := by decide +kernel
theorem dX5_hasThing_9 : decode cX5_hasThing 9 = .ok (.if_icmp .ge 13, 3) := by decide +kernel
theorem dX5_hasThing_12 : decode cX5_hasThing 12 = .ok (.iload_n 1, 1) := by decide +kernel
theorem dX5_hasThing_13 : decode cX5_hasThing 13 = .ok (.bipush 8, 2) := by decide +kernel
theorem dX5_hasThing_15 : decode cX5_hasThing 15 = .ok (.if_icmp .ge 7, 3) := by decide +kernel
theorem dX5_hasThing_18 : decode cX5_hasThing 18 = .ok (.iconst 1, 1) := by decide +kernel
theorem dX5_hasThing_19 : decode cX5_hasThing 19 = .ok (.goto 4, 3) := by decide +kernel
theorem dX5_hasThing_22 : decode cX5_hasThing 22 = .ok (.iconst 0, 1) := by decide +kernel
theorem dX5_hasThing_23 : decode cX5_hasThing 23 = .ok (.ireturn, 1) := by decide +kernel
theorem dX5_hasOrder_0 : decode cX5_hasOrder 0 = .ok (.iload_n 1, 1) := by decide +kernel
theorem dX5_hasOrder_1 : decode cX5_hasOrder 1 = .ok (.ifCond .lt 20, 3) := by decide +kernel
theorem dX5_hasOrder_4 : decode cX5_hasOrder 4 = .ok (.iload_n 1, 1) := by decide +kernel
theorem dX5_hasOrder_5 : decode cX5_hasOrder 5 = .ok (.aload_n 0, 1) := by decide +kernel
theorem dX5_hasOrder_6 : decode cX5_hasOrder 6 = .ok (.getfield 49, 3) := by decide +kernel
theorem dX5_hasOrder_9 : decode cX5_hasOrder 9 = .ok (.if_icmp .ge 12, 3) := by decide +kernel
theorem dX5_hasOrder_12 : decode cX5_hasOrder 12 = .ok (.iload_n 1, 1) := by decide +kernel
theorem dX5_hasOrder_13 : decode cX5_hasOrder 13 = .ok (.iconst 4, 1) := by decide +kernel
theorem dX5_hasOrder_14 : decode cX5_hasOrder 14 = .ok (.if_icmp .ge 7, 3) := by decide +kernel
theorem dX5_hasOrder_17 : decode cX5_hasOrder 17 = .ok (.iconst 1, 1) := by decide +kernel
theorem dX5_hasOrder_18 : decode cX5_hasOrder 18 = .ok (.goto 4, 3) := by decide +kernel
theorem dX5_hasOrder_21 : decode cX5_hasOrder 21 = .ok (.iconst 0, 1) := by decide +kernel
theorem dX5_hasOrder_22 : decode cX5_hasOrder 22 = .ok (.ireturn, 1) := by decide +kernel
theorem dX5_isFull_0 : decode cX5_isFull 0 = .ok (.iload_n 1, 1) := by decide +kernel
theorem dX5_isFull_1 : decode cX5_isFull 1 = .ok (.tableswitch 109 111 119 #[95, 51, 109, 109, 109, 80, 109, 109, 66], 51) := by decide +kernel
theorem dX5_isFull_52 : decode cX5_isFull 52 = .ok (.aload_n 0, 1) := by decide +kernel
theorem dX5_isFull_53 : decode cX5_isFull 53 = .ok (.getfield 40, 3) := by decide +kernel
theorem dX5_isFull_56 : decode cX5_isFull 56 = .ok (.bipush 12, 2) := by decide +kernel
theorem dX5_isFull_58 : decode cX5_isFull 58 = .ok (.if_icmp .lt 7, 3) := by decide +kernel
theorem dX5_isFull_61 : decode cX5_isFull 61 = .ok (.iconst 1, 1) := by decide +kernel
theorem dX5_isFull_62 : decode cX5_isFull 62 = .ok (.goto 4, 3) := by decide +kernel
theorem dX5_isFull_65 : decode cX5_isFull 65 = .ok (.iconst 0, 1) := by decide +kernel
theorem dX5_isFull_66 : decode cX5_isFull 66 = .ok (.ireturn, 1) := by decide +kernel
theorem dX5_isFull_67 : decode cX5_isFull 67 = .ok (.aload_n 0, 1) := by decide +kernel
theorem dX5_isFull_68 : decode cX5_isFull 68 = .ok (.getfield 43, 3) := by decide +kernel
theorem dX5_isFull_71 : decode cX5_isFull 71 = .ok (.iconst 4, 1) := by decide +kernel
theorem dX5_isFull_72 : decode cX5_isFull 72 = .ok (.if_icmp .lt 7, 3) := by decide +kernel
theorem dX5_isFull_75 : decode cX5_isFull 75 = .ok (.iconst 1, 1) := by decide +kernel
theorem dX5_isFull_76 : decode cX5_isFull 76 = .ok (.goto 4, 3) := by decide +kernel
theorem dX5_isFull_79 : decode cX5_isFull 79 = .ok (.iconst 0, 1) := by decide +kernel
theorem dX5_isFull_80 : decode cX5_isFull 80 = .ok (.ireturn, 1) := by decide +kernel
theorem dX5_isFull_81 : decode cX5_isFull 81 = .ok (.aload_n 0, 1) := by decide +kernel
theorem dX5_isFull_82 : decode cX5_isFull 82 = .ok (.getfield 46, 3) := by decide +kernel
theorem dX5_isFull_85 : decode cX5_isFull 85 = .ok (.bipush 8, 2) := by decide +kernel
theorem dX5_isFull_87 : decode cX5_isFull 87 = .ok (.if_icmp .lt 7, 3) := by decide +kernel
theorem dX5_isFull_90 : decode cX5_isFull 90 = .ok (.iconst 1, 1) := by decide +kernel
theorem dX5_isFull_91 : decode cX5_isFull 91 = .ok (.goto 4, 3) := by decide +kernel
theorem dX5_isFull_94 : decode cX5_isFull 94 = .ok (.iconst 0, 1) := by decide +kernel
theorem dX5_isFull_95 : decode cX5_isFull 95 = .ok (.ireturn, 1) := by decide +kernel
theorem dX5_isFull_96 : decode cX5_isFull 96 = .ok (.aload_n 0, 1) := by decide +kernel
theorem dX5_isFull_97 : decode cX5_isFull 97 = .ok (.getfield 49, 3) := by decide +kernel
theorem dX5_isFull_100 : decode cX5_isFull 100 = .ok (.iconst 4, 1) := by decide +kernel
theorem dX5_isFull_101 : decode cX5_isFull 101 = .ok (.if_icmp .lt 7, 3) := by decide +kernel
theorem dX5_isFull_104 : decode cX5_isFull 104 = .ok (.iconst 1, 1) := by decide +kernel
theorem dX5_isFull_105 : decode cX5_isFull 105 = .ok (.goto 4, 3) := by decide +kernel
theorem dX5_isFull_108 : decode cX5_isFull 108 = .ok (.iconst 0, 1) := by decide +kernel
theorem dX5_isFull_109 : decode cX5_isFull 109 = .ok (.ireturn, 1) := by decide +kernel
theorem dX5_isFull_110 : decode cX5_isFull 110 = .ok (.aload_n 0, 1) := by decide +kernel
theorem dX5_isFull_111 : decode cX5_isFull 111 = .ok (.getfield 33, 3) := by decide +kernel
theorem dX5_isFull_114 : decode cX5_isFull 114 = .ok (.ifCond .le 7, 3) := by decide +kernel
theorem dX5_isFull_117 : decode cX5_isFull 117 = .ok (.iconst 1, 1) := by decide +kernel
theorem dX5_isFull_118 : decode cX5_isFull 118 = .ok (.goto 4, 3) := by decide +kernel
theorem dX5_isFull_121 : decode cX5_isFull 121 = .ok (.iconst 0, 1) := by decide +kernel
theorem dX5_isFull_122 : decode cX5_isFull 122 = .ok (.ireturn, 1) := by decide +kernel
theorem dX5_add_0 : decode cX5_add 0 = .ok (.aload_n 0, 1) := by decide +kernel
theorem dX5_add_1 : decode cX5_add 1 = .ok (.iload_n 1, 1) := by decide +kernel
theorem dX5_add_2 : decode cX5_add 2 = .ok (.invokevirtual 62, 3) := by decide +kernel
theorem dX5_add_5 : decode cX5_add 5 = .ok (.ifCond .eq 4, 3) := by decide +kernel
theorem dX5_add_8 : decode cX5_add 8 = .ok (.return_, 1) := by decide +kernel
theorem dX5_add_9 : decode cX5_add 9 = .ok (.iload_n 1, 1) := by decide +kernel
theorem dX5_add_10 : decode cX5_add 10 = .ok (.tableswitch 174 111 119 #[141, 50, 174, 174, 174, 108, 174, 174, 75], 50) := by decide +kernel
theorem dX5_add_60 : decode cX5_add 60 = .ok (.aload_n 0, 1) := by decide +kernel
theorem dX5_add_61 : decode cX5_add 61 = .ok (.iload_n 2, 1) := by decide +kernel
theorem dX5_add_62 : decode cX5_add 62 = .ok (.iload_n 3, 1) := by decide +kernel
theorem dX5_add_63 : decode cX5_add 63 = .ok (.invokevirtual 65, 3) := by decide +kernel
theorem dX5_add_66 : decode cX5_add 66 = .ok (.aload_n 0, 1) := by decide +kernel
theorem dX5_add_67 : decode cX5_add 67 = .ok (.iload_n 3, 1) := by decide +kernel
theorem dX5_add_68 : decode cX5_add 68 = .ok (.iload_n 2, 1) := by decide +kernel
theorem dX5_add_69 : decode cX5_add 69 = .ok (.invokevirtual 65, 3) := by decide +kernel
theorem dX5_add_72 : decode cX5_add 72 = .ok (.aload_n 0, 1) := by decide +kernel
theorem dX5_add_73 : decode cX5_add 73 = .ok (.dup, 1) := by decide +kernel
theorem dX5_add_74 : decode cX5_add 74 = .ok (.getfield 40, 3) := by decide +kernel
theorem dX5_add_77 : decode cX5_add 77 = .ok (.iconst 1, 1) := by decide +kernel
theorem dX5_add_78 : decode cX5_add 78 = .ok (.iadd, 1) := by decide +kernel
theorem dX5_add_79 : decode cX5_add 79 = .ok (.putfield 40, 3) := by decide +kernel
theorem dX5_add_82 : decode cX5_add 82 = .ok (.goto 112, 3) := by decide +kernel
theorem dX5_add_85 : decode cX5_add 85 = .ok (.aload_n 0, 1) := by decide +kernel
theorem dX5_add_86 : decode cX5_add 86 = .ok (.getfield 15, 3) := by decide +kernel
theorem dX5_add_89 : decode cX5_add 89 = .ok (.aload_n 0, 1) := by decide +kernel
theorem dX5_add_90 : decode cX5_add 90 = .ok (.getfield 43, 3) := by decide +kernel
theorem dX5_add_93 : decode cX5_add 93 = .ok (.iload_n 2, 1) := by decide +kernel
theorem dX5_add_94 : decode cX5_add 94 = .ok (.iastore, 1) := by decide +kernel
theorem dX5_add_95 : decode cX5_add 95 = .ok (.aload_n 0, 1) := by decide +kernel
theorem dX5_add_96 : decode cX5_add 96 = .ok (.getfield 18, 3) := by decide +kernel
theorem dX5_add_99 : decode cX5_add 99 = .ok (.aload_n 0, 1) := by decide +kernel
theorem dX5_add_100 : decode cX5_add 100 = .ok (.getfield 43, 3) := by decide +kernel
theorem dX5_add_103 : decode cX5_add 103 = .ok (.iload_n 3, 1) := by decide +kernel
theorem dX5_add_104 : decode cX5_add 104 = .ok (.iastore, 1) := by decide +kernel
theorem dX5_add_105 : decode cX5_add 105 = .ok (.aload_n 0, 1) := by decide +kernel
theorem dX5_add_106 : decode cX5_add 106 = .ok (.dup, 1) := by decide +kernel
theorem dX5_add_107 : decode cX5_add 107 = .ok (.getfield 43, 3) := by decide +kernel
theorem dX5_add_110 : decode cX5_add 110 = .ok (.iconst 1, 1) := by decide +kernel
theorem dX5_add_111 : decode cX5_add 111 = .ok (.iadd, 1) := by decide +kernel
theorem dX5_add_112 : decode cX5_add 112 = .ok (.putfield 43, 3) := by decide +kernel
theorem dX5_add_115 : decode cX5_add 115 = .ok (.goto 79, 3) := by decide +kernel
theorem dX5_add_118 : decode cX5_add 118 = .ok (.aload_n 0, 1) := by decide +kernel
theorem dX5_add_119 : decode cX5_add 119 = .ok (.getfield 21, 3) := by decide +kernel
theorem dX5_add_122 : decode cX5_add 122 = .ok (.aload_n 0, 1) := by decide +kernel
theorem dX5_add_123 : decode cX5_add 123 = .ok (.getfield 46, 3) := by decide +kernel
theorem dX5_add_126 : decode cX5_add 126 = .ok (.iload_n 2, 1) := by decide +kernel
theorem dX5_add_127 : decode cX5_add 127 = .ok (.iastore, 1) := by decide +kernel
theorem dX5_add_128 : decode cX5_add 128 = .ok (.aload_n 0, 1) := by decide +kernel
theorem dX5_add_129 : decode cX5_add 129 = .ok (.getfield 24, 3) := by decide +kernel
theorem dX5_add_132 : decode cX5_add 132 = .ok (.aload_n 0, 1) := by decide +kernel
theorem dX5_add_133 : decode cX5_add 133 = .ok (.getfield 46, 3) := by decide +kernel
theorem dX5_add_136 : decode cX5_add 136 = .ok (.iload_n 3, 1) := by decide +kernel
theorem dX5_add_137 : decode cX5_add 137 = .ok (.iastore, 1) := by decide +kernel
theorem dX5_add_138 : decode cX5_add 138 = .ok (.aload_n 0, 1) := by decide +kernel
theorem dX5_add_139 : decode cX5_add 139 = .ok (.dup, 1) := by decide +kernel
theorem dX5_add_140 : decode cX5_add 140 = .ok (.getfield 46, 3) := by decide +kernel
theorem dX5_add_143 : decode cX5_add 143 = .ok (.iconst 1, 1) := by decide +kernel
theorem dX5_add_144 : decode cX5_add 144 = .ok (.iadd, 1) := by decide +kernel
theorem dX5_add_145 : decode cX5_add 145 = .ok (.putfield 46, 3) := by decide +kernel
theorem dX5_add_148 : decode cX5_add 148 = .ok (.goto 46, 3) := by decide +kernel
theorem dX5_add_151 : decode cX5_add 151 = .ok (.aload_n 0, 1) := by decide +kernel
theorem dX5_add_152 : decode cX5_add 152 = .ok (.getfield 27, 3) := by decide +kernel
theorem dX5_add_155 : decode cX5_add 155 = .ok (.aload_n 0, 1) := by decide +kernel
theorem dX5_add_156 : decode cX5_add 156 = .ok (.getfield 49, 3) := by decide +kernel
theorem dX5_add_159 : decode cX5_add 159 = .ok (.iload_n 2, 1) := by decide +kernel
theorem dX5_add_160 : decode cX5_add 160 = .ok (.iastore, 1) := by decide +kernel
theorem dX5_add_161 : decode cX5_add 161 = .ok (.aload_n 0, 1) := by decide +kernel
theorem dX5_add_162 : decode cX5_add 162 = .ok (.getfield 30, 3) := by decide +kernel
theorem dX5_add_165 : decode cX5_add 165 = .ok (.aload_n 0, 1) := by decide +kernel
theorem dX5_add_166 : decode cX5_add 166 = .ok (.getfield 49, 3) := by decide +kernel
theorem dX5_add_169 : decode cX5_add 169 = .ok (.iload_n 3, 1) := by decide +kernel
theorem dX5_add_170 : decode cX5_add 170 = .ok (.iastore, 1) := by decide +kernel
theorem dX5_add_171 : decode cX5_add 171 = .ok (.aload_n 0, 1) := by decide +kernel
theorem dX5_add_172 : decode cX5_add 172 = .ok (.dup, 1) := by decide +kernel
theorem dX5_add_173 : decode cX5_add 173 = .ok (.getfield 49, 3) := by decide +kernel
theorem dX5_add_176 : decode cX5_add 176 = .ok (.iconst 1, 1) := by decide +kernel
theorem dX5_add_177 : decode cX5_add 177 = .ok (.iadd, 1) := by decide +kernel
theorem dX5_add_178 : decode cX5_add 178 = .ok (.putfield 49, 3) := by decide +kernel
theorem dX5_add_181 : decode cX5_add 181 = .ok (.goto 13, 3) := by decide +kernel
theorem dX5_add_184 : decode cX5_add 184 = .ok (.aload_n 0, 1) := by decide +kernel
theorem dX5_add_185 : decode cX5_add 185 = .ok (.iload_n 2, 1) := by decide +kernel
theorem dX5_add_186 : decode cX5_add 186 = .ok (.putfield 33, 3) := by decide +kernel
theorem dX5_add_189 : decode cX5_add 189 = .ok (.aload_n 0, 1) := by decide +kernel
theorem dX5_add_190 : decode cX5_add 190 = .ok (.iload_n 3, 1) := by decide +kernel
theorem dX5_add_191 : decode cX5_add 191 = .ok (.putfield 37, 3) := by decide +kernel
theorem dX5_add_194 : decode cX5_add 194 = .ok (.return_, 1) := by decide +kernel
theorem dX5_join_0 : decode cX5_join 0 = .ok (.aload_n 0, 1) := by decide +kernel
theorem dX5_join_1 : decode cX5_join 1 = .ok (.iload_n 1, 1) := by decide +kernel
theorem dX5_join_2 : decode cX5_join 2 = .ok (.invokevirtual 69, 3) := by decide +kernel
theorem dX5_join_5 : decode cX5_join 5 = .ok (.ifCond .eq 15, 3) := by decide +kernel
theorem dX5_join_8 : decode cX5_join 8 = .ok (.aload_n 0, 1) := by decide +kernel
theorem dX5_join_9 : decode cX5_join 9 = .ok (.getfield 9, 3) := by decide +kernel
theorem dX5_join_12 : decode cX5_join 12 = .ok (.iload_n 1, 1) := by decide +kernel
theorem dX5_join_13 : decode cX5_join 13 = .ok (.dup2, 1) := by decide +kernel
theorem dX5_join_14 : decode cX5_join 14 = .ok (.iaload, 1) := by decide +kernel
theorem dX5_join_15 : decode cX5_join 15 = .ok (.iconst 1, 1) := by decide +kernel
theorem dX5_join_16 : decode cX5_join 16 = .ok (.iload_n 2, 1) := by decide +kernel
theorem dX5_join_17 : decode cX5_join 17 = .ok (.ishl, 1) := by decide +kernel
theorem dX5_join_18 : decode cX5_join 18 = .ok (.ior, 1) := by decide +kernel
theorem dX5_join_19 : decode cX5_join 19 = .ok (.iastore, 1) := by decide +kernel
theorem dX5_join_20 : decode cX5_join 20 = .ok (.return_, 1) := by decide +kernel
theorem dX5_joinedTo_0 : decode cX5_joinedTo 0 = .ok (.aload_n 0, 1) := by decide +kernel
theorem dX5_joinedTo_1 : decode cX5_joinedTo 1 = .ok (.iload_n 1, 1) := by decide +kernel
theorem dX5_joinedTo_2 : decode cX5_joinedTo 2 = .ok (.invokevirtual 69, 3) := by decide +kernel
theorem dX5_joinedTo_5 : decode cX5_joinedTo 5 = .ok (.ifCond .eq 12, 3) := by decide +kernel
theorem dX5_joinedTo_8 : decode cX5_joinedTo 8 = .ok (.aload_n 0, 1) := by decide +kernel
theorem dX5_joinedTo_9 : decode cX5_joinedTo 9 = .ok (.getfield 9, 3) := by decide +kernel
theorem dX5_joinedTo_12 : decode cX5_joinedTo 12 = .ok (.iload_n 1, 1) := by decide +kernel
theorem dX5_joinedTo_13 : decode cX5_joinedTo 13 = .ok (.iaload, 1) := by decide +kernel
theorem dX5_joinedTo_14 : decode cX5_joinedTo 14 = .ok (.goto 4, 3) := by decide +kernel
theorem dX5_joinedTo_17 : decode cX5_joinedTo 17 = .ok (.iconst 0, 1) := by decide +kernel
theorem dX5_joinedTo_18 : decode cX5_joinedTo 18 = .ok (.ireturn, 1) := by decide +kernel
theorem dX5_joinedToAny_0 : decode cX5_joinedToAny 0 = .ok (.iconst 0, 1) := by decide +kernel
theorem dX5_joinedToAny_1 : decode cX5_joinedToAny 1 = .ok (.istore_n 2, 1) := by decide +kernel
theorem dX5_joinedToAny_2 : decode cX5_joinedToAny 2 = .ok (.iconst 0, 1) := by decide +kernel
theorem dX5_joinedToAny_3 : decode cX5_joinedToAny 3 = .ok (.istore_n 3, 1) := by decide +kernel
theorem dX5_joinedToAny_4 : decode cX5_joinedToAny 4 = .ok (.iload_n 3, 1) := by decide +kernel
theorem dX5_joinedToAny_5 : decode cX5_joinedToAny 5 = .ok (.bipush 8, 2) := by decide +kernel
theorem dX5_joinedToAny_7 : decode cX5_joinedToAny 7 = .ok (.if_icmp .ge 26, 3) := by decide +kernel
theorem dX5_joinedToAny_10 : decode cX5_joinedToAny 10 = .ok (.iload_n 1, 1) := by decide +kernel
theorem dX5_joinedToAny_11 : decode cX5_joinedToAny 11 = .ok (.iload_n 3, 1) := by decide +kernel
theorem dX5_joinedToAny_12 : decode cX5_joinedToAny 12 = .ok (.invokestatic 72, 3) := by decide +kernel
theorem dX5_joinedToAny_15 : decode cX5_joinedToAny 15 = .ok (.ifCond .eq 12, 3) := by decide +kernel
theorem dX5_joinedToAny_18 : decode cX5_joinedToAny 18 = .ok (.iload_n 2, 1) := by decide +kernel
theorem dX5_joinedToAny_19 : decode cX5_joinedToAny 19 = .ok (.aload_n 0, 1) := by decide +kernel
theorem dX5_joinedToAny_20 : decode cX5_joinedToAny 20 = .ok (.getfield 9, 3) := by decide +kernel
theorem dX5_joinedToAny_23 : decode cX5_joinedToAny 23 = .ok (.iload_n 3, 1) := by decide +kernel
theorem dX5_joinedToAny_24 : decode cX5_joinedToAny 24 = .ok (.iaload, 1) := by decide +kernel
theorem dX5_joinedToAny_25 : decode cX5_joinedToAny 25 = .ok (.ior, 1) := by decide +kernel
theorem dX5_joinedToAny_26 : decode cX5_joinedToAny 26 = .ok (.istore_n 2, 1) := by decide +kernel
theorem dX5_joinedToAny_27 : decode cX5_joinedToAny 27 = .ok (.iinc 3 1, 3) := by decide +kernel
theorem dX5_joinedToAny_30 : decode cX5_joinedToAny 30 = .ok (.goto (-26), 3) := by decide +kernel
theorem dX5_joinedToAny_33 : decode cX5_joinedToAny 33 = .ok (.iload_n 2, 1) := by decide +kernel
theorem dX5_joinedToAny_34 : decode cX5_joinedToAny 34 = .ok (.ireturn, 1) := by decide +kernel
theorem dX5_hasAllRooms_0 : decode cX5_hasAllRooms 0 = .ok (.iload_n 1, 1) := by decide +kernel
theorem dX5_hasAllRooms_1 : decode cX5_hasAllRooms 1 = .ok (.istore_n 2, 1) := by decide +kernel
theorem dX5_hasAllRooms_2 : decode cX5_hasAllRooms 2 = .ok (.iconst 0, 1) := by decide +kernel
theorem dX5_hasAllRooms_3 : decode cX5_hasAllRooms 3 = .ok (.istore_n 3, 1) := by decide +kernel
theorem dX5_hasAllRooms_4 : decode cX5_hasAllRooms 4 = .ok (.iload_n 3, 1) := by decide +kernel
theorem dX5_hasAllRooms_5 : decode cX5_hasAllRooms 5 = .ok (.bipush 9, 2) := by decide +kernel
theorem dX5_hasAllRooms_7 : decode cX5_hasAllRooms 7 = .ok (.if_icmp .ge 33, 3) := by decide +kernel
theorem dX5_hasAllRooms_10 : decode cX5_hasAllRooms 10 = .ok (.iload_n 2, 1) := by decide +kernel
theorem dX5_hasAllRooms_11 : decode cX5_hasAllRooms 11 = .ok (.ifCond .le 29, 3) := by decide +kernel
theorem dX5_hasAllRooms_14 : decode cX5_hasAllRooms 14 = .ok (.aload_n 0, 1) := by decide +kernel
theorem dX5_hasAllRooms_15 : decode cX5_hasAllRooms 15 = .ok (.iload_n 2, 1) := by decide +kernel
theorem dX5_hasAllRooms_16 : decode cX5_hasAllRooms 16 = .ok (.bipush 10, 2) := by decide +kernel
theorem dX5_hasAllRooms_18 : decode cX5_hasAllRooms 18 = .ok (.irem, 1) := by decide +kernel
theorem dX5_hasAllRooms_19 : decode cX5_hasAllRooms 19 = .ok (.iconst 1, 1) := by decide +kernel
theorem dX5_hasAllRooms_20 : decode cX5_hasAllRooms 20 = .ok (.isub, 1) := by decide +kernel
theorem dX5_hasAllRooms_21 : decode cX5_hasAllRooms 21 = .ok (.invokevirtual 69, 3) := by decide +kernel
theorem dX5_hasAllRooms_24 : decode cX5_hasAllRooms 24 = .ok (.ifCond .ne 5, 3) := by decide +kernel
theorem dX5_hasAllRooms_27 : decode cX5_hasAllRooms 27 = .ok (.iconst 0, 1) := by decide +kernel
theorem dX5_hasAllRooms_28 : decode cX5_hasAllRooms 28 = .ok (.ireturn, 1) := by decide +kernel
theorem dX5_hasAllRooms_29 : decode cX5_hasAllRooms 29 = .ok (.iload_n 2, 1) := by decide +kernel
theorem dX5_hasAllRooms_30 : decode cX5_hasAllRooms 30 = .ok (.bipush 10, 2) := by decide +kernel
theorem dX5_hasAllRooms_32 : decode cX5_hasAllRooms 32 = .ok (.idiv, 1) := by decide +kernel
theorem dX5_hasAllRooms_33 : decode cX5_hasAllRooms 33 = .ok (.istore_n 2, 1) := by decide +kernel
theorem dX5_hasAllRooms_34 : decode cX5_hasAllRooms 34 = .ok (.iinc 3 1, 3) := by decide +kernel
theorem dX5_hasAllRooms_37 : decode cX5_hasAllRooms 37 = .ok (.goto (-33), 3) := by decide +kernel
theorem dX5_hasAllRooms_40 : decode cX5_hasAllRooms 40 = .ok (.iconst 1, 1) := by decide +kernel
theorem dX5_hasAllRooms_41 : decode cX5_hasAllRooms 41 = .ok (.ireturn, 1) := by decide +kernel
theorem dX5_canBeGone_0 : decode cX5_canBeGone 0 = .ok (.iload_n 1, 1) := by decide +kernel
theorem dX5_canBeGone_1 : decode cX5_canBeGone 1 = .ok (.istore_n 3, 1) := by decide +kernel
theorem dX5_canBeGone_2 : decode cX5_canBeGone 2 = .ok (.iload_n 2, 1) := by decide +kernel
theorem dX5_canBeGone_3 : decode cX5_canBeGone 3 = .ok (.istore 4, 2) := by decide +kernel
theorem dX5_canBeGone_5 : decode cX5_canBeGone 5 = .ok (.iconst 0, 1) := by decide +kernel
theorem dX5_canBeGone_6 : decode cX5_canBeGone 6 = .ok (.istore 5, 2) := by decide +kernel
theorem dX5_canBeGone_8 : decode cX5_canBeGone 8 = .ok (.iload 5, 2) := by decide +kernel
theorem dX5_canBeGone_10 : decode cX5_canBeGone 10 = .ok (.bipush 9, 2) := by decide +kernel
theorem dX5_canBeGone_12 : decode cX5_canBeGone 12 = .ok (.if_icmp .ge 48, 3) := by decide +kernel
theorem dX5_canBeGone_15 : decode cX5_canBeGone 15 = .ok (.iload 4, 2) := by decide +kernel
theorem dX5_canBeGone_17 : decode cX5_canBeGone 17 = .ok (.ifCond .le 43, 3) := by decide +kernel
theorem dX5_canBeGone_20 : decode cX5_canBeGone 20 = .ok (.iload 4, 2) := by decide +kernel
theorem dX5_canBeGone_22 : decode cX5_canBeGone 22 = .ok (.bipush 10, 2) := by decide +kernel
theorem dX5_canBeGone_24 : decode cX5_canBeGone 24 = .ok (.irem, 1) := by decide +kernel
theorem dX5_canBeGone_25 : decode cX5_canBeGone 25 = .ok (.iconst 1, 1) := by decide +kernel
theorem dX5_canBeGone_26 : decode cX5_canBeGone 26 = .ok (.isub, 1) := by decide +kernel
theorem dX5_canBeGone_27 : decode cX5_canBeGone 27 = .ok (.istore 6, 2) := by decide +kernel
theorem dX5_canBeGone_29 : decode cX5_canBeGone 29 = .ok (.aload_n 0, 1) := by decide +kernel
theorem dX5_canBeGone_30 : decode cX5_canBeGone 30 = .ok (.iload_n 3, 1) := by decide +kernel
theorem dX5_canBeGone_31 : decode cX5_canBeGone 31 = .ok (.invokevirtual 76, 3) := by decide +kernel
theorem dX5_canBeGone_34 : decode cX5_canBeGone 34 = .ok (.iload 6, 2) := by decide +kernel
theorem dX5_canBeGone_36 : decode cX5_canBeGone 36 = .ok (.invokestatic 72, 3) := by decide +kernel
theorem dX5_canBeGone_39 : decode cX5_canBeGone 39 = .ok (.ifCond .ne 5, 3) := by decide +kernel
theorem dX5_canBeGone_42 : decode cX5_canBeGone 42 = .ok (.iconst 0, 1) := by decide +kernel
theorem dX5_canBeGone_43 : decode cX5_canBeGone 43 = .ok (.ireturn, 1) := by decide +kernel
theorem dX5_canBeGone_44 : decode cX5_canBeGone 44 = .ok (.iload 6, 2) := by decide +kernel
theorem dX5_canBeGone_46 : decode cX5_canBeGone 46 = .ok (.istore_n 3, 1) := by decide +kernel
theorem dX5_canBeGone_47 : decode cX5_canBeGone 47 = .ok (.iload 4, 2) := by decide +kernel
theorem dX5_canBeGone_49 : decode cX5_canBeGone 49 = .ok (.bipush 10, 2) := by decide +kernel
theorem dX5_canBeGone_51 : decode cX5_canBeGone 51 = .ok (.idiv, 1) := by decide +kernel
theorem dX5_canBeGone_52 : decode cX5_canBeGone 52 = .ok (.istore 4, 2) := by decide +kernel
theorem dX5_canBeGone_54 : decode cX5_canBeGone 54 = .ok (.iinc 5 1, 3) := by decide +kernel
theorem dX5_canBeGone_57 : decode cX5_canBeGone 57 = .ok (.goto (-49), 3) := by decide +kernel
theorem dX5_canBeGone_60 : decode cX5_canBeGone 60 = .ok (.iconst 1, 1) := by decide +kernel
theorem dX5_canBeGone_61 : decode cX5_canBeGone 61 = .ok (.ireturn, 1) := by decide +kernel
theorem dX5_distance_0 : decode cX5_distance 0 = .ok (.iconst 1, 1) := by decide +kernel
theorem dX5_distance_1 : decode cX5_distance 1 = .ok (.iload_n 1, 1) := by decide +kernel
theorem dX5_distance_2 : decode cX5_distance 2 = .ok (.ishl, 1) := by decide +kernel
theorem dX5_distance_3 : decode cX5_distance 3 = .ok (.istore_n 3, 1) := by decide +kernel
theorem dX5_distance_4 : decode cX5_distance 4 = .ok (.iconst 0, 1) := by decide +kernel
theorem dX5_distance_5 : decode cX5_distance 5 = .ok (.istore 4, 2) := by decide +kernel
theorem dX5_distance_7 : decode cX5_distance 7 = .ok (.iload 4, 2) := by decide +kernel
theorem dX5_distance_9 : decode cX5_distance 9 = .ok (.bipush 8, 2) := by decide +kernel
theorem dX5_distance_11 : decode cX5_distance 11 = .ok (.if_icmp .ge 28, 3) := by decide +kernel
theorem dX5_distance_14 : decode cX5_distance 14 = .ok (.iload_n 3, 1) := by decide +kernel
theorem dX5_distance_15 : decode cX5_distance 15 = .ok (.iload_n 2, 1) := by decide +kernel
theorem dX5_distance_16 : decode cX5_distance 16 = .ok (.invokestatic 72, 3) := by decide +kernel
theorem dX5_distance_19 : decode cX5_distance 19 = .ok (.ifCond .eq 6, 3) := by decide +kernel
theorem dX5_distance_22 : decode cX5_distance 22 = .ok (.iload 4, 2) := by decide +kernel
theorem dX5_distance_24 : decode cX5_distance 24 = .ok (.ireturn, 1) := by decide +kernel
theorem dX5_distance_25 : decode cX5_distance 25 = .ok (.iload_n 3, 1) := by decide +kernel
theorem dX5_distance_26 : decode cX5_distance 26 = .ok (.aload_n 0, 1) := by decide +kernel
theorem dX5_distance_27 : decode cX5_distance 27 = .ok (.iload_n 3, 1) := by decide +kernel
theorem dX5_distance_28 : decode cX5_distance 28 = .ok (.invokevirtual 80, 3) := by decide +kernel
theorem dX5_distance_31 : decode cX5_distance 31 = .ok (.ior, 1) := by decide +kernel
theorem dX5_distance_32 : decode cX5_distance 32 = .ok (.istore_n 3, 1) := by decide +kernel
theorem dX5_distance_33 : decode cX5_distance 33 = .ok (.iinc 4 1, 3) := by decide +kernel
theorem dX5_distance_36 : decode cX5_distance 36 = .ok (.goto (-29), 3) := by decide +kernel
theorem dX5_distance_39 : decode cX5_distance 39 = .ok (.iconst (-1), 1) := by decide +kernel
theorem dX5_distance_40 : decode cX5_distance 40 = .ok (.ireturn, 1) := by decide +kernel
theorem dX5_nextTowards_0 : decode cX5_nextTowards 0 = .ok (.aload_n 0, 1) := by decide +kernel
theorem dX5_nextTowards_1 : decode cX5_nextTowards 1 = .ok (.iload_n 1, 1) := by decide +kernel
theorem dX5_nextTowards_2 : decode cX5_nextTowards 2 = .ok (.iload_n 2, 1) := by decide +kernel
theorem dX5_nextTowards_3 : decode cX5_nextTowards 3 = .ok (.invokevirtual 83, 3) := by decide +kernel
theorem dX5_nextTowards_6 : decode cX5_nextTowards 6 = .ok (.istore_n 3, 1) := by decide +kernel
theorem dX5_nextTowards_7 : decode cX5_nextTowards 7 = .ok (.iload_n 3, 1) := by decide +kernel
theorem dX5_nextTowards_8 : decode cX5_nextTowards 8 = .ok (.ifCond .gt 5, 3) := by decide +kernel
theorem dX5_nextTowards_11 : decode cX5_nextTowards 11 = .ok (.iconst (-1), 1) := by decide +kernel
theorem dX5_nextTowards_12 : decode cX5_nextTowards 12 = .ok (.ireturn, 1) := by decide +kernel
theorem dX5_nextTowards_13 : decode cX5_nextTowards 13 = .ok (.iconst 0, 1) := by decide +kernel
theorem dX5_nextTowards_14 : decode cX5_nextTowards 14 = .ok (.istore 4, 2) := by decide +kernel
theorem dX5_nextTowards_16 : decode cX5_nextTowards 16 = .ok (.iload 4, 2) := by decide +kernel
theorem dX5_nextTowards_18 : decode cX5_nextTowards 18 = .ok (.aload_n 0, 1) := by decide +kernel
theorem dX5_nextTowards_19 : decode cX5_nextTowards 19 = .ok (.getfield 33, 3) := by decide +kernel
theorem dX5_nextTowards_22 : decode cX5_nextTowards 22 = .ok (.if_icmp .ge 38, 3) := by decide +kernel
theorem dX5_nextTowards_25 : decode cX5_nextTowards 25 = .ok (.aload_n 0, 1) := by decide +kernel
theorem dX5_nextTowards_26 : decode cX5_nextTowards 26 = .ok (.iload_n 1, 1) := by decide +kernel
theorem dX5_nextTowards_27 : decode cX5_nextTowards 27 = .ok (.invokevirtual 76, 3) := by decide +kernel
theorem dX5_nextTowards_30 : decode cX5_nextTowards 30 = .ok (.iload 4, 2) := by decide +kernel
theorem dX5_nextTowards_32 : decode cX5_nextTowards 32 = .ok (.invokestatic 72, 3) := by decide +kernel
theorem dX5_nextTowards_35 : decode cX5_nextTowards 35 = .ok (.ifCond .eq 19, 3) := by decide +kernel
theorem dX5_nextTowards_38 : decode cX5_nextTowards 38 = .ok (.aload_n 0, 1) := by decide +kernel
theorem dX5_nextTowards_39 : decode cX5_nextTowards 39 = .ok (.iload 4, 2) := by decide +kernel
theorem dX5_nextTowards_41 : decode cX5_nextTowards 41 = .ok (.iload_n 2, 1) := by decide +kernel
theorem dX5_nextTowards_42 : decode cX5_nextTowards 42 = .ok (.invokevirtual 83, 3) := by decide +kernel
theorem dX5_nextTowards_45 : decode cX5_nextTowards 45 = .ok (.iload_n 3, 1) := by decide +kernel
theorem dX5_nextTowards_46 : decode cX5_nextTowards 46 = .ok (.iconst 1, 1) := by decide +kernel
theorem dX5_nextTowards_47 : decode cX5_nextTowards 47 = .ok (.isub, 1) := by decide +kernel
theorem dX5_nextTowards_48 : decode cX5_nextTowards 48 = .ok (.if_icmp .ne 6, 3) := by decide +kernel
theorem dX5_nextTowards_51 : decode cX5_nextTowards 51 = .ok (.iload 4, 2) := by decide +kernel
theorem dX5_nextTowards_53 : decode cX5_nextTowards 53 = .ok (.ireturn, 1) := by decide +kernel
theorem dX5_nextTowards_54 : decode cX5_nextTowards 54 = .ok (.iinc 4 1, 3) := by decide +kernel
theorem dX5_nextTowards_57 : decode cX5_nextTowards 57 = .ok (.goto (-41), 3) := by decide +kernel
theorem dX5_nextTowards_60 : decode cX5_nextTowards 60 = .ok (.iconst (-1), 1) := by decide +kernel
theorem dX5_nextTowards_61 : decode cX5_nextTowards 61 = .ok (.ireturn, 1) := by decide +kernel
theorem dX5_weightOf_0 : decode cX5_weightOf 0 = .ok (.aload_n 0, 1) := by decide +kernel
theorem dX5_weightOf_1 : decode cX5_weightOf 1 = .ok (.getfield 21, 3) := by decide +kernel
theorem dX5_weightOf_4 : decode cX5_weightOf 4 = .ok (.iload_n 1, 1) := by decide +kernel
theorem dX5_weightOf_5 : decode cX5_weightOf 5 = .ok (.invokestatic 87, 3) := by decide +kernel
theorem dX5_weightOf_8 : decode cX5_weightOf 8 = .ok (.ireturn, 1) := by decide +kernel
theorem dX5_worthOf_0 : decode cX5_worthOf 0 = .ok (.aload_n 0, 1) := by decide +kernel
theorem dX5_worthOf_1 : decode cX5_worthOf 1 = .ok (.getfield 24, 3) := by decide +kernel
theorem dX5_worthOf_4 : decode cX5_worthOf 4 = .ok (.iload_n 1, 1) := by decide +kernel
theorem dX5_worthOf_5 : decode cX5_worthOf 5 = .ok (.invokestatic 87, 3) := by decide +kernel
theorem dX5_worthOf_8 : decode cX5_worthOf 8 = .ok (.ireturn, 1) := by decide +kernel
theorem dX5_sumOf_0 : decode cX5_sumOf 0 = .ok (.iconst 0, 1) := by decide +kernel
theorem dX5_sumOf_1 : decode cX5_sumOf 1 = .ok (.istore_n 2, 1) := by decide +kernel
theorem dX5_sumOf_2 : decode cX5_sumOf 2 = .ok (.iconst 0, 1) := by decide +kernel
theorem dX5_sumOf_3 : decode cX5_sumOf 3 = .ok (.istore_n 3, 1) := by decide +kernel
theorem dX5_sumOf_4 : decode cX5_sumOf 4 = .ok (.iload_n 3, 1) := by decide +kernel
theorem dX5_sumOf_5 : decode cX5_sumOf 5 = .ok (.aload_n 0, 1) := by decide +kernel
theorem dX5_sumOf_6 : decode cX5_sumOf 6 = .ok (.arraylength, 1) := by decide +kernel
theorem dX5_sumOf_7 : decode cX5_sumOf 7 = .ok (.if_icmp .ge 23, 3) := by decide +kernel
theorem dX5_sumOf_10 : decode cX5_sumOf 10 = .ok (.iload_n 1, 1) := by decide +kernel
theorem dX5_sumOf_11 : decode cX5_sumOf 11 = .ok (.iload_n 3, 1) := by decide +kernel
theorem dX5_sumOf_12 : decode cX5_sumOf 12 = .ok (.invokestatic 72, 3) := by decide +kernel
theorem dX5_sumOf_15 : decode cX5_sumOf 15 = .ok (.ifCond .eq 9, 3) := by decide +kernel
theorem dX5_sumOf_18 : decode cX5_sumOf 18 = .ok (.iload_n 2, 1) := by decide +kernel
theorem dX5_sumOf_19 : decode cX5_sumOf 19 = .ok (.aload_n 0, 1) := by decide +kernel
theorem dX5_sumOf_20 : decode cX5_sumOf 20 = .ok (.iload_n 3, 1) := by decide +kernel
theorem dX5_sumOf_21 : decode cX5_sumOf 21 = .ok (.iaload, 1) := by decide +kernel
theorem dX5_sumOf_22 : decode cX5_sumOf 22 = .ok (.iadd, 1) := by decide +kernel
theorem dX5_sumOf_23 : decode cX5_sumOf 23 = .ok (.istore_n 2, 1) := by decide +kernel
theorem dX5_sumOf_24 : decode cX5_sumOf 24 = .ok (.iinc 3 1, 3) := by decide +kernel
theorem dX5_sumOf_27 : decode cX5_sumOf 27 = .ok (.goto (-23), 3) := by decide +kernel
theorem dX5_sumOf_30 : decode cX5_sumOf 30 = .ok (.iload_n 2, 1) := by decide +kernel
theorem dX5_sumOf_31 : decode cX5_sumOf 31 = .ok (.ireturn, 1) := by decide +kernel
theorem dX5_heaviestOf_0 : decode cX5_heaviestOf 0 = .ok (.iconst (-1), 1) := by decide +kernel
theorem dX5_heaviestOf_1 : decode cX5_heaviestOf 1 = .ok (.istore_n 2, 1) := by decide +kernel
theorem dX5_heaviestOf_2 : decode cX5_heaviestOf 2 = .ok (.iconst 0, 1) := by decide +kernel
theorem dX5_heaviestOf_3 : decode cX5_heaviestOf 3 = .ok (.istore_n 3, 1) := by decide +kernel
theorem dX5_heaviestOf_4 : decode cX5_heaviestOf 4 = .ok (.iconst 0, 1) := by decide +kernel
theorem dX5_heaviestOf_5 : decode cX5_heaviestOf 5 = .ok (.istore 4, 2) := by decide +kernel
theorem dX5_heaviestOf_7 : decode cX5_heaviestOf 7 = .ok (.iload 4, 2) := by decide +kernel
theorem dX5_heaviestOf_9 : decode cX5_heaviestOf 9 = .ok (.bipush 8, 2) := by decide +kernel
theorem dX5_heaviestOf_11 : decode cX5_heaviestOf 11 = .ok (.if_icmp .ge 40, 3) := by decide +kernel
theorem dX5_heaviestOf_14 : decode cX5_heaviestOf 14 = .ok (.iload_n 1, 1) := by decide +kernel
theorem dX5_heaviestOf_15 : decode cX5_heaviestOf 15 = .ok (.iload 4, 2) := by decide +kernel
theorem dX5_heaviestOf_17 : decode cX5_heaviestOf 17 = .ok (.invokestatic 72, 3) := by decide +kernel
theorem dX5_heaviestOf_20 : decode cX5_heaviestOf 20 = .ok (.ifCond .eq 25, 3) := by decide +kernel
theorem dX5_heaviestOf_23 : decode cX5_heaviestOf 23 = .ok (.aload_n 0, 1) := by decide +kernel
theorem dX5_heaviestOf_24 : decode cX5_heaviestOf 24 = .ok (.getfield 21, 3) := by decide +kernel
theorem dX5_heaviestOf_27 : decode cX5_heaviestOf 27 = .ok (.iload 4, 2) := by decide +kernel
theorem dX5_heaviestOf_29 : decode cX5_heaviestOf 29 = .ok (.iaload, 1) := by decide +kernel
theorem dX5_heaviestOf_30 : decode cX5_heaviestOf 30 = .ok (.iload_n 3, 1) := by decide +kernel
theorem dX5_heaviestOf_31 : decode cX5_heaviestOf 31 = .ok (.if_icmp .le 14, 3) := by decide +kernel
theorem dX5_heaviestOf_34 : decode cX5_heaviestOf 34 = .ok (.iload 4, 2) := by decide +kernel
theorem dX5_heaviestOf_36 : decode cX5_heaviestOf 36 = .ok (.istore_n 2, 1) := by decide +kernel
theorem dX5_heaviestOf_37 : decode cX5_heaviestOf 37 = .ok (.aload_n 0, 1) := by decide +kernel
theorem dX5_heaviestOf_38 : decode cX5_heaviestOf 38 = .ok (.getfield 21, 3) := by decide +kernel
theorem dX5_heaviestOf_41 : decode cX5_heaviestOf 41 = .ok (.iload 4, 2) := by decide +kernel
theorem dX5_heaviestOf_43 : decode cX5_heaviestOf 43 = .ok (.iaload, 1) := by decide +kernel
theorem dX5_heaviestOf_44 : decode cX5_heaviestOf 44 = .ok (.istore_n 3, 1) := by decide +kernel
theorem dX5_heaviestOf_45 : decode cX5_heaviestOf 45 = .ok (.iinc 4 1, 3) := by decide +kernel
theorem dX5_heaviestOf_48 : decode cX5_heaviestOf 48 = .ok (.goto (-41), 3) := by decide +kernel
theorem dX5_heaviestOf_51 : decode cX5_heaviestOf 51 = .ok (.iload_n 2, 1) := by decide +kernel
theorem dX5_heaviestOf_52 : decode cX5_heaviestOf 52 = .ok (.ireturn, 1) := by decide +kernel
theorem dX5_difference_0 : decode cX5_difference 0 = .ok (.aload_n 0, 1) := by decide +kernel
theorem dX5_difference_1 : decode cX5_difference 1 = .ok (.iload_n 2, 1) := by decide +kernel
theorem dX5_difference_2 : decode cX5_difference 2 = .ok (.invokevirtual 91, 3) := by decide +kernel
theorem dX5_difference_5 : decode cX5_difference 5 = .ok (.aload_n 0, 1) := by decide +kernel
theorem dX5_difference_6 : decode cX5_difference 6 = .ok (.iload_n 1, 1) := by decide +kernel
theorem dX5_difference_7 : decode cX5_difference 7 = .ok (.iload_n 2, 1) := by decide +kernel
theorem dX5_difference_8 : decode cX5_difference 8 = .ok (.iconst (-1), 1) := by decide +kernel
theorem dX5_difference_9 : decode cX5_difference 9 = .ok (.ixor, 1) := by decide +kernel
theorem dX5_difference_10 : decode cX5_difference 10 = .ok (.iand, 1) := by decide +kernel
theorem dX5_difference_11 : decode cX5_difference 11 = .ok (.invokevirtual 91, 3) := by decide +kernel
theorem dX5_difference_14 : decode cX5_difference 14 = .ok (.isub, 1) := by decide +kernel
theorem dX5_difference_15 : decode cX5_difference 15 = .ok (.invokestatic 94, 3) := by decide +kernel
theorem dX5_difference_18 : decode cX5_difference 18 = .ok (.ireturn, 1) := by decide +kernel
theorem dX5_evenestLeft_0 : decode cX5_evenestLeft 0 = .ok (.iconst 0, 1) := by decide +kernel
theorem dX5_evenestLeft_1 : decode cX5_evenestLeft 1 = .ok (.istore_n 2, 1) := by decide +kernel
theorem dX5_evenestLeft_2 : decode cX5_evenestLeft 2 = .ok (.aload_n 0, 1) := by decide +kernel
theorem dX5_evenestLeft_3 : decode cX5_evenestLeft 3 = .ok (.iload_n 1, 1) := by decide +kernel
theorem dX5_evenestLeft_4 : decode cX5_evenestLeft 4 = .ok (.invokevirtual 91, 3) := by decide +kernel
theorem dX5_evenestLeft_7 : decode cX5_evenestLeft 7 = .ok (.istore_n 3, 1) := by decide +kernel
theorem dX5_evenestLeft_8 : decode cX5_evenestLeft 8 = .ok (.iconst 1, 1) := by decide +kernel
theorem dX5_evenestLeft_9 : decode cX5_evenestLeft 9 = .ok (.istore 4, 2) := by decide +kernel
theorem dX5_evenestLeft_11 : decode cX5_evenestLeft 11 = .ok (.iload 4, 2) := by decide +kernel
theorem dX5_evenestLeft_13 : decode cX5_evenestLeft 13 = .ok (.sipush 256, 3) := by decide +kernel
theorem dX5_evenestLeft_16 : decode cX5_evenestLeft 16 = .ok (.if_icmp .ge 43, 3) := by decide +kernel
theorem dX5_evenestLeft_19 : decode cX5_evenestLeft 19 = .ok (.iload 4, 2) := by decide +kernel
theorem dX5_evenestLeft_21 : decode cX5_evenestLeft 21 = .ok (.iload_n 1, 1) := by decide +kernel
theorem dX5_evenestLeft_22 : decode cX5_evenestLeft 22 = .ok (.iconst (-1), 1) := by decide +kernel
theorem dX5_evenestLeft_23 : decode cX5_evenestLeft 23 = .ok (.ixor, 1) := by decide +kernel
theorem dX5_evenestLeft_24 : decode cX5_evenestLeft 24 = .ok (.iand, 1) := by decide +kernel
theorem dX5_evenestLeft_25 : decode cX5_evenestLeft 25 = .ok (.ifCond .ne 13, 3) := by decide +kernel
theorem dX5_evenestLeft_28 : decode cX5_evenestLeft 28 = .ok (.aload_n 0, 1) := by decide +kernel
theorem dX5_evenestLeft_29 : decode cX5_evenestLeft 29 = .ok (.iload_n 1, 1) := by decide +kernel
theorem dX5_evenestLeft_30 : decode cX5_evenestLeft 30 = .ok (.iload 4, 2) := by decide +kernel
theorem dX5_evenestLeft_32 : decode cX5_evenestLeft 32 = .ok (.invokevirtual 99, 3) := by decide +kernel
theorem dX5_evenestLeft_35 : decode cX5_evenestLeft 35 = .ok (.goto 4, 3) := by decide +kernel
theorem dX5_evenestLeft_38 : decode cX5_evenestLeft 38 = .ok (.iload_n 3, 1) := by decide +kernel
theorem dX5_evenestLeft_39 : decode cX5_evenestLeft 39 = .ok (.istore 5, 2) := by decide +kernel
theorem dX5_evenestLeft_41 : decode cX5_evenestLeft 41 = .ok (.iload 5, 2) := by decide +kernel
theorem dX5_evenestLeft_43 : decode cX5_evenestLeft 43 = .ok (.iload_n 3, 1) := by decide +kernel
theorem dX5_evenestLeft_44 : decode cX5_evenestLeft 44 = .ok (.if_icmp .ge 9, 3) := by decide +kernel
theorem dX5_evenestLeft_47 : decode cX5_evenestLeft 47 = .ok (.iload 4, 2) := by decide +kernel
theorem dX5_evenestLeft_49 : decode cX5_evenestLeft 49 = .ok (.istore_n 2, 1) := by decide +kernel
theorem dX5_evenestLeft_50 : decode cX5_evenestLeft 50 = .ok (.iload 5, 2) := by decide +kernel
theorem dX5_evenestLeft_52 : decode cX5_evenestLeft 52 = .ok (.istore_n 3, 1) := by decide +kernel
theorem dX5_evenestLeft_53 : decode cX5_evenestLeft 53 = .ok (.iinc 4 1, 3) := by decide +kernel
theorem dX5_evenestLeft_56 : decode cX5_evenestLeft 56 = .ok (.goto (-45), 3) := by decide +kernel
theorem dX5_evenestLeft_59 : decode cX5_evenestLeft 59 = .ok (.iload_n 2, 1) := by decide +kernel
theorem dX5_evenestLeft_60 : decode cX5_evenestLeft 60 = .ok (.ireturn, 1) := by decide +kernel
theorem dX5_worthiest_0 : decode cX5_worthiest 0 = .ok (.iconst 0, 1) := by decide +kernel
theorem dX5_worthiest_1 : decode cX5_worthiest 1 = .ok (.istore_n 3, 1) := by decide +kernel
theorem dX5_worthiest_2 : decode cX5_worthiest 2 = .ok (.iconst 0, 1) := by decide +kernel
theorem dX5_worthiest_3 : decode cX5_worthiest 3 = .ok (.istore 4, 2) := by decide +kernel
theorem dX5_worthiest_5 : decode cX5_worthiest 5 = .ok (.iconst 1, 1) := by decide +kernel
theorem dX5_worthiest_6 : decode cX5_worthiest 6 = .ok (.istore 5, 2) := by decide +kernel
theorem dX5_worthiest_8 : decode cX5_worthiest 8 = .ok (.iload 5, 2) := by decide +kernel
theorem dX5_worthiest_10 : decode cX5_worthiest 10 = .ok (.sipush 256, 3) := by decide +kernel
theorem dX5_worthiest_13 : decode cX5_worthiest 13 = .ok (.if_icmp .ge 54, 3) := by decide +kernel
theorem dX5_worthiest_16 : decode cX5_worthiest 16 = .ok (.iload 5, 2) := by decide +kernel
theorem dX5_worthiest_18 : decode cX5_worthiest 18 = .ok (.iload_n 1, 1) := by decide +kernel
theorem dX5_worthiest_19 : decode cX5_worthiest 19 = .ok (.iconst (-1), 1) := by decide +kernel
theorem dX5_worthiest_20 : decode cX5_worthiest 20 = .ok (.ixor, 1) := by decide +kernel
theorem dX5_worthiest_21 : decode cX5_worthiest 21 = .ok (.iand, 1) := by decide +kernel
theorem dX5_worthiest_22 : decode cX5_worthiest 22 = .ok (.ifCond .ne 12, 3) := by decide +kernel
theorem dX5_worthiest_25 : decode cX5_worthiest 25 = .ok (.aload_n 0, 1) := by decide +kernel
theorem dX5_worthiest_26 : decode cX5_worthiest 26 = .ok (.iload 5, 2) := by decide +kernel
theorem dX5_worthiest_28 : decode cX5_worthiest 28 = .ok (.invokevirtual 102, 3) := by decide +kernel
theorem dX5_worthiest_31 : decode cX5_worthiest 31 = .ok (.goto 4, 3) := by decide +kernel
theorem dX5_worthiest_34 : decode cX5_worthiest 34 = .ok (.iconst 0, 1) := by decide +kernel
theorem dX5_worthiest_35 : decode cX5_worthiest 35 = .ok (.istore 6, 2) := by decide +kernel
theorem dX5_worthiest_37 : decode cX5_worthiest 37 = .ok (.iload 6, 2) := by decide +kernel
theorem dX5_worthiest_39 : decode cX5_worthiest 39 = .ok (.iload 4, 2) := by decide +kernel
theorem dX5_worthiest_41 : decode cX5_worthiest 41 = .ok (.if_icmp .le 20, 3) := by decide +kernel
theorem dX5_worthiest_44 : decode cX5_worthiest 44 = .ok (.aload_n 0, 1) := by decide +kernel
theorem dX5_worthiest_45 : decode cX5_worthiest 45 = .ok (.iload 5, 2) := by decide +kernel
theorem dX5_worthiest_47 : decode cX5_worthiest 47 = .ok (.invokevirtual 91, 3) := by decide +kernel
theorem dX5_worthiest_50 : decode cX5_worthiest 50 = .ok (.iload_n 2, 1) := by decide +kernel
theorem dX5_worthiest_51 : decode cX5_worthiest 51 = .ok (.if_icmp .gt 10, 3) := by decide +kernel
theorem dX5_worthiest_54 : decode cX5_worthiest 54 = .ok (.iload 5, 2) := by decide +kernel
theorem dX5_worthiest_56 : decode cX5_worthiest 56 = .ok (.istore_n 3, 1) := by decide +kernel
theorem dX5_worthiest_57 : decode cX5_worthiest 57 = .ok (.iload 6, 2) := by decide +kernel
theorem dX5_worthiest_59 : decode cX5_worthiest 59 = .ok (.istore 4, 2) := by decide +kernel
theorem dX5_worthiest_61 : decode cX5_worthiest 61 = .ok (.iinc 5 1, 3) := by decide +kernel
theorem dX5_worthiest_64 : decode cX5_worthiest 64 = .ok (.goto (-56), 3) := by decide +kernel
theorem dX5_worthiest_67 : decode cX5_worthiest 67 = .ok (.iload_n 3, 1) := by decide +kernel
theorem dX5_worthiest_68 : decode cX5_worthiest 68 = .ok (.ireturn, 1) := by decide +kernel
theorem dX6_init_0 : decode cX6_init 0 = .ok (.aload_n 0, 1) := by decide +kernel
theorem dX6_init_1 : decode cX6_init 1 = .ok (.invokespecial 3, 3) := by decide +kernel
theorem dX6_init_4 : decode cX6_init 4 = .ok (.aload_n 0, 1) := by decide +kernel
theorem dX6_init_5 : decode cX6_init 5 = .ok (.new 9, 3) := by decide +kernel
theorem dX6_init_8 : decode cX6_init 8 = .ok (.dup, 1) := by decide +kernel
theorem dX6_init_9 : decode cX6_init 9 = .ok (.invokespecial 11, 3) := by decide +kernel
theorem dX6_init_12 : decode cX6_init 12 = .ok (.putfield 12, 3) := by decide +kernel
theorem dX6_init_15 : decode cX6_init 15 = .ok (.aload_n 0, 1) := by decide +kernel
theorem dX6_init_16 : decode cX6_init 16 = .ok (.sipush 240, 3) := by decide +kernel
theorem dX6_init_19 : decode cX6_init 19 = .ok (.newarray .char, 2) := by decide +kernel
theorem dX6_init_21 : decode cX6_init 21 = .ok (.putfield 18, 3) := by decide +kernel
theorem dX6_init_24 : decode cX6_init 24 = .ok (.aload_n 0, 1) := by decide +kernel
theorem dX6_init_25 : decode cX6_init 25 = .ok (.iconst (-1), 1) := by decide +kernel
theorem dX6_init_26 : decode cX6_init 26 = .ok (.putfield 22, 3) := by decide +kernel
theorem dX6_init_29 : decode cX6_init 29 = .ok (.return_, 1) := by decide +kernel
theorem dX6_append_0 : decode cX6_append 0 = .ok (.aload_n 0, 1) := by decide +kernel
theorem dX6_append_1 : decode cX6_append 1 = .ok (.getfield 26, 3) := by decide +kernel
theorem dX6_append_4 : decode cX6_append 4 = .ok (.sipush 240, 3) := by decide +kernel
theorem dX6_append_7 : decode cX6_append 7 = .ok (.if_icmp .lt 5, 3) := by decide +kernel
theorem dX6_append_10 : decode cX6_append 10 = .ok (.iconst 0, 1) := by decide +kernel
theorem dX6_append_11 : decode cX6_append 11 = .ok (.ireturn, 1) := by decide +kernel
theorem dX6_append_12 : decode cX6_append 12 = .ok (.aload_n 0, 1) := by decide +kernel
theorem dX6_append_13 : decode cX6_append 13 = .ok (.getfield 18, 3) := by decide +kernel
theorem dX6_append_16 : decode cX6_append 16 = .ok (.aload_n 0, 1) := by decide +kernel
theorem dX6_append_17 : decode cX6_append 17 = .ok (.getfield 26, 3) := by decide +kernel
theorem dX6_append_20 : decode cX6_append 20 = .ok (.iload_n 1, 1) := by decide +kernel
theorem dX6_append_21 : decode cX6_append 21 = .ok (.i2c, 1) := by decide +kernel
theorem dX6_append_22 : decode cX6_append 22 = .ok (.castore, 1) := by decide +kernel
theorem dX6_append_23 : decode cX6_append 23 = .ok (.aload_n 0, 1) := by decide +kernel
theorem dX6_append_24 : decode cX6_append 24 = .ok (.dup, 1) := by decide +kernel
theorem dX6_append_25 : decode cX6_append 25 = .ok (.getfield 26, 3) := by decide +kernel
theorem dX6_append_28 : decode cX6_append 28 = .ok (.iconst 1, 1) := by decide +kernel
theorem dX6_append_29 : decode cX6_append 29 = .ok (.iadd, 1) := by decide +kernel
theorem dX6_append_30 : decode cX6_append 30 = .ok (.putfield 26, 3) := by decide +kernel
theorem dX6_append_33 : decode cX6_append 33 = .ok (.iconst 1, 1) := by decide +kernel
theorem dX6_append_34 : decode cX6_append 34 = .ok (.ireturn, 1) := by decide +kernel
theorem dX6_readAll_0 : decode cX6_readAll 0 = .ok (.aload_n 0, 1) := by decide +kernel
theorem dX6_readAll_1 : decode cX6_readAll 1 = .ok (.getfield 12, 3) := by decide +kernel
theorem dX6_readAll_4 : decode cX6_readAll 4 = .ok (.invokevirtual 29, 3) := by decide +kernel
theorem dX6_readAll_7 : decode cX6_readAll 7 = .ok (.aload_n 0, 1) := by decide +kernel
theorem dX6_readAll_8 : decode cX6_readAll 8 = .ok (.iconst 0, 1) := by decide +kernel
theorem dX6_readAll_9 : decode cX6_readAll 9 = .ok (.putfield 32, 3) := by decide +kernel
theorem dX6_readAll_12 : decode cX6_readAll 12 = .ok (.aload_n 0, 1) := by decide +kernel
theorem dX6_readAll_13 : decode cX6_readAll 13 = .ok (.iconst (-1), 1) := by decide +kernel
theorem dX6_readAll_14 : decode cX6_readAll 14 = .ok (.putfield 22, 3) := by decide +kernel
theorem dX6_readAll_17 : decode cX6_readAll 17 = .ok (.aload_n 0, 1) := by decide +kernel
theorem dX6_readAll_18 : decode cX6_readAll 18 = .ok (.iconst 0, 1) := by decide +kernel
theorem dX6_readAll_19 : decode cX6_readAll 19 = .ok (.putfield 35, 3) := by decide +kernel
theorem dX6_readAll_22 : decode cX6_readAll 22 = .ok (.aload_n 0, 1) := by decide +kernel
theorem dX6_readAll_23 : decode cX6_readAll 23 = .ok (.invokevirtual 38, 3) := by decide +kernel
theorem dX6_readAll_26 : decode cX6_readAll 26 = .ok (.iconst 0, 1) := by decide +kernel
theorem dX6_readAll_27 : decode cX6_readAll 27 = .ok (.istore_n 1, 1) := by decide +kernel
theorem dX6_readAll_28 : decode cX6_readAll 28 = .ok (.iload_n 1, 1) := by decide +kernel
theorem dX6_readAll_29 : decode cX6_readAll 29 = .ok (.sipush 240, 3) := by decide +kernel
theorem dX6_readAll_32 : decode cX6_readAll 32 = .ok (.if_icmp .ge 35, 3) := by decide +kernel
theorem dX6_readAll_35 : decode cX6_readAll 35 = .ok (.aload_n 0, 1) := by decide +kernel
theorem dX6_readAll_36 : decode cX6_readAll 36 = .ok (.getfield 35, 3) := by decide +kernel
theorem dX6_readAll_39 : decode cX6_readAll 39 = .ok (.aload_n 0, 1) := by decide +kernel
theorem dX6_readAll_40 : decode cX6_readAll 40 = .ok (.getfield 26, 3) := by decide +kernel
theorem dX6_readAll_43 : decode cX6_readAll 43 = .ok (.if_icmp .ge 24, 3) := by decide +kernel
theorem dX6_readAll_46 : decode cX6_readAll 46 = .ok (.aload_n 0, 1) := by decide +kernel
theorem dX6_readAll_47 : decode cX6_readAll 47 = .ok (.getfield 32, 3) := by decide +kernel
theorem dX6_readAll_50 : decode cX6_readAll 50 = .ok (.ifCond .ne 17, 3) := by decide +kernel
theorem dX6_readAll_53 : decode cX6_readAll 53 = .ok (.aload_n 0, 1) := by decide +kernel
theorem dX6_readAll_54 : decode cX6_readAll 54 = .ok (.invokevirtual 41, 3) := by decide +kernel
theorem dX6_readAll_57 : decode cX6_readAll 57 = .ok (.aload_n 0, 1) := by decide +kernel
theorem dX6_readAll_58 : decode cX6_readAll 58 = .ok (.invokevirtual 38, 3) := by decide +kernel
theorem dX6_readAll_61 : decode cX6_readAll 61 = .ok (.iinc 1 1, 3) := by decide +kernel
theorem dX6_readAll_64 : decode cX6_readAll 64 = .ok (.goto (-36), 3) := by decide +kernel
theorem dX6_readAll_67 : decode cX6_readAll 67 = .ok (.aload_n 0, 1) := by decide +kernel
theorem dX6_readAll_68 : decode cX6_readAll 68 = .ok (.iconst 0, 1) := by decide +kernel
theorem dX6_readAll_69 : decode cX6_readAll 69 = .ok (.putfield 26, 3) := by decide +kernel
theorem dX6_readAll_72 : decode cX6_readAll 72 = .ok (.aload_n 0, 1) := by decide +kernel
theorem dX6_readAll_73 : decode cX6_readAll 73 = .ok (.getfield 32, 3) := by decide +kernel
theorem dX6_readAll_76 : decode cX6_readAll 76 = .ok (.ireturn, 1) := by decide +kernel
theorem dX6_readClause_0 : decode cX6_readClause 0 = .ok (.aload_n 0, 1) := by decide +kernel
theorem dX6_readClause_1 : decode cX6_readClause 1 = .ok (.aload_n 0, 1) := by decide +kernel
theorem dX6_readClause_2 : decode cX6_readClause 2 = .ok (.getfield 35, 3) := by decide +kernel
theorem dX6_readClause_5 : decode cX6_readClause 5 = .ok (.invokevirtual 44, 3) := by decide +kernel
theorem dX6_readClause_8 : decode cX6_readClause 8 = .ok (.istore_n 1, 1) := by decide +kernel
theorem dX6_readClause_9 : decode cX6_readClause 9 = .ok (.aload_n 0, 1) := by decide +kernel
theorem dX6_readClause_10 : decode cX6_readClause 10 = .ok (.iload_n 1, 1) := by decide +kernel
theorem dX6_readClause_11 : decode cX6_readClause 11 = .ok (.invokevirtual 48, 3) := by decide +kernel
theorem dX6_readClause_14 : decode cX6_readClause 14 = .ok (.istore_n 2, 1) := by decide +kernel
theorem dX6_readClause_15 : decode cX6_readClause 15 = .ok (.iload_n 2, 1) := by decide +kernel
theorem dX6_readClause_16 : decode cX6_readClause 16 = .ok (.ifCond .eq 13, 3) := by decide +kernel
theorem dX6_readClause_19 : decode cX6_readClause 19 = .ok (.aload_n 0, 1) := by decide +kernel
theorem dX6_readClause_20 : decode cX6_readClause 20 = .ok (.iload_n 2, 1) := by decide +kernel
theorem dX6_readClause_21 : decode cX6_readClause 21 = .ok (.aload_n 0, 1) := by decide +kernel
theorem dX6_readClause_22 : decode cX6_readClause 22 = .ok (.getfield 35, 3) := by decide +kernel
theorem dX6_readClause_25 : decode cX6_readClause 25 = .ok (.invokevirtual 51, 3) := by decide +kernel
theorem dX6_readClause_28 : decode cX6_readClause 28 = .ok (.return_, 1) := by decide +kernel
theorem dX6_readClause_29 : decode cX6_readClause 29 = .ok (.aload_n 0, 1) := by decide +kernel
theorem dX6_readClause_30 : decode cX6_readClause 30 = .ok (.dup, 1) := by decide +kernel
theorem dX6_readClause_31 : decode cX6_readClause 31 = .ok (.getfield 35, 3) := by decide +kernel
theorem dX6_readClause_34 : decode cX6_readClause 34 = .ok (.iconst 1, 1) := by decide +kernel
theorem dX6_readClause_35 : decode cX6_readClause 35 = .ok (.iadd, 1) := by decide +kernel
theorem dX6_readClause_36 : decode cX6_readClause 36 = .ok (.putfield 35, 3) := by decide +kernel
theorem dX6_readClause_39 : decode cX6_readClause 39 = .ok (.aload_n 0, 1) := by decide +kernel
theorem dX6_readClause_40 : decode cX6_readClause 40 = .ok (.aload_n 0, 1) := by decide +kernel
theorem dX6_readClause_41 : decode cX6_readClause 41 = .ok (.iload_n 1, 1) := by decide +kernel
theorem dX6_readClause_42 : decode cX6_readClause 42 = .ok (.invokevirtual 55, 3) := by decide +kernel
theorem dX6_readClause_45 : decode cX6_readClause 45 = .ok (.aload_n 0, 1) := by decide +kernel
theorem dX6_readClause_46 : decode cX6_readClause 46 = .ok (.iload_n 1, 1) := by decide +kernel
theorem dX6_readClause_47 : decode cX6_readClause 47 = .ok (.invokevirtual 58, 3) := by decide +kernel
theorem dX6_readClause_50 : decode cX6_readClause 50 = .ok (.invokevirtual 61, 3) := by decide +kernel
theorem dX6_readClause_53 : decode cX6_readClause 53 = .ok (.istore_n 3, 1) := by decide +kernel
theorem dX6_readClause_54 : decode cX6_readClause 54 = .ok (.aload_n 0, 1) := by decide +kernel
theorem dX6_readClause_55 : decode cX6_readClause 55 = .ok (.getfield 32, 3) := by decide +kernel
theorem dX6_readClause_58 : decode cX6_readClause 58 = .ok (.ifCond .ne 20, 3) := by decide +kernel
theorem dX6_readClause_61 : decode cX6_readClause 61 = .ok (.aload_n 0, 1) := by decide +kernel
theorem dX6_readClause_62 : decode cX6_readClause 62 = .ok (.aload_n 0, 1) := by decide +kernel
theorem dX6_readClause_63 : decode cX6_readClause 63 = .ok (.iload_n 1, 1) := by decide +kernel
theorem dX6_readClause_64 : decode cX6_readClause 64 = .ok (.invokevirtual 65, 3) := by decide +kernel
theorem dX6_readClause_67 : decode cX6_readClause 67 = .ok (.aload_n 0, 1) := by decide +kernel
theorem dX6_readClause_68 : decode cX6_readClause 68 = .ok (.iload_n 1, 1) := by decide +kernel
theorem dX6_readClause_69 : decode cX6_readClause 69 = .ok (.invokevirtual 68, 3) := by decide +kernel
theorem dX6_readClause_72 : decode cX6_readClause 72 = .ok (.invokevirtual 61, 3) := by decide +kernel
theorem dX6_readClause_75 : decode cX6_readClause 75 = .ok (.goto 4, 3) := by decide +kernel
theorem dX6_readClause_78 : decode cX6_readClause 78 = .ok (.iconst 0, 1) := by decide +kernel
theorem dX6_readClause_79 : decode cX6_readClause 79 = .ok (.istore 4, 2) := by decide +kernel
theorem dX6_readClause_81 : decode cX6_readClause 81 = .ok (.aload_n 0, 1) := by decide +kernel
theorem dX6_readClause_82 : decode cX6_readClause 82 = .ok (.getfield 32, 3) := by decide +kernel
theorem dX6_readClause_85 : decode cX6_readClause 85 = .ok (.ifCond .ne 40, 3) := by decide +kernel
theorem dX6_readClause_88 : decode cX6_readClause 88 = .ok (.iload_n 1, 1) := by decide +kernel
theorem dX6_readClause_89 : decode cX6_readClause 89 = .ok (.bipush 112, 2) := by decide +kernel
theorem dX6_readClause_91 : decode cX6_readClause 91 = .ok (.if_icmp .ne 34, 3) := by decide +kernel
theorem dX6_readClause_94 : decode cX6_readClause 94 = .ok (.iload_n 3, 1) := by decide +kernel
theorem dX6_readClause_95 : decode cX6_readClause 95 = .ok (.iload 4, 2) := by decide +kernel
theorem dX6_readClause_97 : decode cX6_readClause 97 = .ok (.if_icmp .eq 19, 3) := by decide +kernel
theorem dX6_readClause_100 : decode cX6_readClause 100 = .ok (.aload_n 0, 1) := by decide +kernel
theorem dX6_readClause_101 : decode cX6_readClause 101 = .ok (.getfield 12, 3) := by decide +kernel
theorem dX6_readClause_104 : decode cX6_readClause 104 = .ok (.iload_n 3, 1) := by decide +kernel
theorem dX6_readClause_105 : decode cX6_readClause 105 = .ok (.invokevirtual 71, 3) := by decide +kernel
theorem dX6_readClause_108 : decode cX6_readClause 108 = .ok (.iload 4, 2) := by decide +kernel
theorem dX6_readClause_110 : decode cX6_readClause 110 = .ok (.invokestatic 74, 3) := by decide +kernel
theorem dX6_readClause_113 : decode cX6_readClause 113 = .ok (.ifCond .eq 12, 3) := by decide +kernel
theorem dX6_readClause_116 : decode cX6_readClause 116 = .ok (.aload_n 0, 1) := by decide +kernel
theorem dX6_readClause_117 : decode cX6_readClause 117 = .ok (.iconst 4, 1) := by decide +kernel
theorem dX6_readClause_118 : decode cX6_readClause 118 = .ok (.aload_n 0, 1) := by decide +kernel
theorem dX6_readClause_119 : decode cX6_readClause 119 = .ok (.getfield 78, 3) := by decide +kernel
theorem dX6_readClause_122 : decode cX6_readClause 122 = .ok (.invokevirtual 51, 3) := by decide +kernel
theorem dX6_readClause_125 : decode cX6_readClause 125 = .ok (.aload_n 0, 1) := by decide +kernel
theorem dX6_readClause_126 : decode cX6_readClause 126 = .ok (.getfield 32, 3) := by decide +kernel
theorem dX6_readClause_129 : decode cX6_readClause 129 = .ok (.ifCond .ne 7, 3) := by decide +kernel
theorem dX6_readClause_132 : decode cX6_readClause 132 = .ok (.aload_n 0, 1) := by decide +kernel
theorem dX6_readClause_133 : decode cX6_readClause 133 = .ok (.invokevirtual 81, 3) := by decide +kernel
theorem dX6_readClause_136 : decode cX6_readClause 136 = .ok (.aload_n 0, 1) := by decide +kernel
theorem dX6_readClause_137 : decode cX6_readClause 137 = .ok (.getfield 32, 3) := by decide +kernel
theorem dX6_readClause_140 : decode cX6_readClause 140 = .ok (.ifCond .ne 14, 3) := by decide +kernel
theorem dX6_readClause_143 : decode cX6_readClause 143 = .ok (.aload_n 0, 1) := by decide +kernel
theorem dX6_readClause_144 : decode cX6_readClause 144 = .ok (.getfield 12, 3) := by decide +kernel
theorem dX6_readClause_147 : decode cX6_readClause 147 = .ok (.iload_n 1, 1) := by decide +kernel
theorem dX6_readClause_148 : decode cX6_readClause 148 = .ok (.iload_n 3, 1) := by decide +kernel
theorem dX6_readClause_149 : decode cX6_readClause 149 = .ok (.iload 4, 2) := by decide +kernel
theorem dX6_readClause_151 : decode cX6_readClause 151 = .ok (.invokevirtual 84, 3) := by decide +kernel
theorem dX6_readClause_154 : decode cX6_readClause 154 = .ok (.return_, 1) := by decide +kernel
theorem dX6_faultOfWord_0 : decode cX6_faultOfWord 0 = .ok (.iload_n 1, 1) := by decide +kernel
theorem dX6_faultOfWord_1 : decode cX6_faultOfWord 1 = .ok (.bipush 104, 2) := by decide +kernel
theorem dX6_faultOfWord_3 : decode cX6_faultOfWord 3 = .ok (.if_icmp .eq 27, 3) := by decide +kernel
theorem dX6_faultOfWord_6 : decode cX6_faultOfWord 6 = .ok (.iload_n 1, 1) := by decide +kernel
theorem dX6_faultOfWord_7 : decode cX6_faultOfWord 7 = .ok (.bipush 112, 2) := by decide +kernel
theorem dX6_faultOfWord_9 : decode cX6_faultOfWord 9 = .ok (.if_icmp .eq 21, 3) := by decide +kernel
theorem dX6_faultOfWord_12 : decode cX6_faultOfWord 12 = .ok (.iload_n 1, 1) := by decide +kernel
theorem dX6_faultOfWord_13 : decode cX6_faultOfWord 13 = .ok (.bipush 119, 2) := by decide +kernel
theorem dX6_faultOfWord_15 : decode cX6_faultOfWord 15 = .ok (.if_icmp .eq 15, 3) := by decide +kernel
theorem dX6_faultOfWord_18 : decode cX6_faultOfWord 18 = .ok (.iload_n 1, 1) := by decide +kernel
theorem dX6_faultOfWord_19 : decode cX6_faultOfWord 19 = .ok (.bipush 116, 2) := by decide +kernel
theorem dX6_faultOfWord_21 : decode cX6_faultOfWord 21 = .ok (.if_icmp .eq 9, 3) := by decide +kernel
theorem dX6_faultOfWord_24 : decode cX6_faultOfWord 24 = .ok (.iload_n 1, 1) := by decide +kernel
theorem dX6_faultOfWord_25 : decode cX6_faultOfWord 25 = .ok (.bipush 111, 2) := by decide +kernel
theorem dX6_faultOfWord_27 : decode cX6_faultOfWord 27 = .ok (.if_icmp .ne 7, 3) := by decide +kernel
theorem dX6_faultOfWord_30 : decode cX6_faultOfWord 30 = .ok (.iconst 1, 1) := by decide +kernel
theorem dX6_faultOfWord_31 : decode cX6_faultOfWord 31 = .ok (.goto 4, 3) := by decide +kernel
theorem dX6_faultOfWord_34 : decode cX6_faultOfWord 34 = .ok (.iconst 0, 1) := by decide +kernel
theorem dX6_faultOfWord_35 : decode cX6_faultOfWord 35 = .ok (.istore_n 2, 1) := by decide +kernel
theorem dX6_faultOfWord_36 : decode cX6_faultOfWord 36 = .ok (.iload_n 2, 1) := by decide +kernel
theorem dX6_faultOfWord_37 : decode cX6_faultOfWord 37 = .ok (.ifCond .eq 19, 3) := by decide +kernel
theorem dX6_faultOfWord_40 : decode cX6_faultOfWord 40 = .ok (.aload_n 0, 1) := by decide +kernel
theorem dX6_faultOfWord_41 : decode cX6_faultOfWord 41 = .ok (.getfield 12, 3) := by decide +kernel
theorem dX6_faultOfWord_44 : decode cX6_faultOfWord 44 = .ok (.getfield 88, 3) := by decide +kernel
theorem dX6_faultOfWord_47 : decode cX6_faultOfWord 47 = .ok (.ifCond .ne 11, 3) := by decide +kernel
theorem dX6_faultOfWord_50 : decode cX6_faultOfWord 50 = .ok (.iload_n 1, 1) := by decide +kernel
theorem dX6_faultOfWord_51 : decode cX6_faultOfWord 51 = .ok (.bipush 104, 2) := by decide +kernel
theorem dX6_faultOfWord_53 : decode cX6_faultOfWord 53 = .ok (.if_icmp .eq 5, 3) := by decide +kernel
theorem dX6_faultOfWord_56 : decode cX6_faultOfWord 56 = .ok (.iconst 1, 1) := by decide +kernel
theorem dX6_faultOfWord_57 : decode cX6_faultOfWord 57 = .ok (.ireturn, 1) := by decide +kernel
theorem dX6_faultOfWord_58 : decode cX6_faultOfWord 58 = .ok (.aload_n 0, 1) := by decide +kernel
theorem dX6_faultOfWord_59 : decode cX6_faultOfWord 59 = .ok (.getfield 12, 3) := by decide +kernel
theorem dX6_faultOfWord_62 : decode cX6_faultOfWord 62 = .ok (.iload_n 1, 1) := by decide +kernel
theorem dX6_faultOfWord_63 : decode cX6_faultOfWord 63 = .ok (.invokevirtual 91, 3) := by decide +kernel
theorem dX6_faultOfWord_66 : decode cX6_faultOfWord 66 = .ok (.ifCond .eq 7, 3) := by decide +kernel
theorem dX6_faultOfWord_69 : decode cX6_faultOfWord 69 = .ok (.iconst 3, 1) := by decide +kernel
theorem dX6_faultOfWord_70 : decode cX6_faultOfWord 70 = .ok (.goto 4, 3) := by decide +kernel
theorem dX6_faultOfWord_73 : decode cX6_faultOfWord 73 = .ok (.iconst 0, 1) := by decide +kernel
theorem dX6_faultOfWord_74 : decode cX6_faultOfWord 74 = .ok (.ireturn, 1) := by decide +kernel
theorem dX6_readNumber_0 : decode cX6_readNumber 0 = .ok (.aload_n 0, 1) := by decide +kernel
theorem dX6_readNumber_1 : decode cX6_readNumber 1 = .ok (.invokevirtual 38, 3) := by decide +kernel
theorem dX6_readNumber_4 : decode cX6_readNumber 4 = .ok (.aload_n 0, 1) := by decide +kernel
theorem dX6_readNumber_5 : decode cX6_readNumber 5 = .ok (.aload_n 0, 1) := by decide +kernel
theorem dX6_readNumber_6 : decode cX6_readNumber 6 = .ok (.getfield 35, 3) := by decide +kernel
theorem dX6_readNumber_9 : decode cX6_readNumber 9 = .ok (.putfield 78, 3) := by decide +kernel
theorem dX6_readNumber_12 : decode cX6_readNumber 12 = .ok (.iconst 0, 1) := by decide +kernel
theorem dX6_readNumber_13 : decode cX6_readNumber 13 = .ok (.istore_n 3, 1) := by decide +kernel
theorem dX6_readNumber_14 : decode cX6_readNumber 14 = .ok (.iconst 0, 1) := by decide +kernel
theorem dX6_readNumber_15 : decode cX6_readNumber 15 = .ok (.istore 4, 2) := by decide +kernel
theorem dX6_readNumber_17 : decode cX6_readNumber 17 = .ok (.iload 4, 2) := by decide +kernel
theorem dX6_readNumber_19 : decode cX6_readNumber 19 = .ok (.sipush 240, 3) := by decide +kernel
theorem dX6_readNumber_22 : decode cX6_readNumber 22 = .ok (.if_icmp .ge 60, 3) := by decide +kernel
theorem dX6_readNumber_25 : decode cX6_readNumber 25 = .ok (.aload_n 0, 1) := by decide +kernel
theorem dX6_readNumber_26 : decode cX6_readNumber 26 = .ok (.aload_n 0, 1) := by decide +kernel
theorem dX6_readNumber_27 : decode cX6_readNumber 27 = .ok (.getfield 35, 3) := by decide +kernel
theorem dX6_readNumber_30 : decode cX6_readNumber 30 = .ok (.invokevirtual 44, 3) := by decide +kernel
theorem dX6_readNumber_33 : decode cX6_readNumber 33 = .ok (.invokestatic 95, 3) := by decide +kernel
theorem dX6_readNumber_36 : decode cX6_readNumber 36 = .ok (.ifCond .eq 46, 3) := by decide +kernel
theorem dX6_readNumber_39 : decode cX6_readNumber 39 = .ok (.iload 4, 2) := by decide +kernel
theorem dX6_readNumber_41 : decode cX6_readNumber 41 = .ok (.iconst 3, 1) := by decide +kernel
theorem dX6_readNumber_42 : decode cX6_readNumber 42 = .ok (.if_icmp .ge 22, 3) := by decide +kernel
theorem dX6_readNumber_45 : decode cX6_readNumber 45 = .ok (.iload_n 3, 1) := by decide +kernel
theorem dX6_readNumber_46 : decode cX6_readNumber 46 = .ok (.bipush 10, 2) := by decide +kernel
theorem dX6_readNumber_48 : decode cX6_readNumber 48 = .ok (.imul, 1) := by decide +kernel
theorem dX6_readNumber_49 : decode cX6_readNumber 49 = .ok (.aload_n 0, 1) := by decide +kernel
theorem dX6_readNumber_50 : decode cX6_readNumber 50 = .ok (.aload_n 0, 1) := by decide +kernel
theorem dX6_readNumber_51 : decode cX6_readNumber 51 = .ok (.getfield 35, 3) := by decide +kernel
theorem dX6_readNumber_54 : decode cX6_readNumber 54 = .ok (.invokevirtual 44, 3) := by decide +kernel
theorem dX6_readNumber_57 : decode cX6_readNumber 57 = .ok (.iadd, 1) := by decide +kernel
theorem dX6_readNumber_58 : decode cX6_readNumber 58 = .ok (.bipush 48, 2) := by decide +kernel
theorem dX6_readNumber_60 : decode cX6_readNumber 60 = .ok (.isub, 1) := by decide +kernel
theorem dX6_readNumber_61 : decode cX6_readNumber 61 = .ok (.goto 4, 3) := by decide +kernel
theorem dX6_readNumber_64 : decode cX6_readNumber 64 = .ok (.iload_n 3, 1) := by decide +kernel
theorem dX6_readNumber_65 : decode cX6_readNumber 65 = .ok (.istore_n 3, 1) := by decide +kernel
theorem dX6_readNumber_66 : decode cX6_readNumber 66 = .ok (.aload_n 0, 1) := by decide +kernel
theorem dX6_readNumber_67 : decode cX6_readNumber 67 = .ok (.dup, 1) := by decide +kernel
theorem dX6_readNumber_68 : decode cX6_readNumber 68 = .ok (.getfield 35, 3) := by decide +kernel
theorem dX6_readNumber_71 : decode cX6_readNumber 71 = .ok (.iconst 1, 1) := by decide +kernel
theorem dX6_readNumber_72 : decode cX6_readNumber 72 = .ok (.iadd, 1) := by decide +kernel
theorem dX6_readNumber_73 : decode cX6_readNumber 73 = .ok (.putfield 35, 3) := by decide +kernel
theorem dX6_readNumber_76 : decode cX6_readNumber 76 = .ok (.iinc 4 1, 3) := by decide +kernel
theorem dX6_readNumber_79 : decode cX6_readNumber 79 = .ok (.goto (-62), 3) := by decide +kernel
theorem dX6_readNumber_82 : decode cX6_readNumber 82 = .ok (.aload_n 0, 1) := by decide +kernel
theorem dX6_readNumber_83 : decode cX6_readNumber 83 = .ok (.getfield 35, 3) := by decide +kernel
theorem dX6_readNumber_86 : decode cX6_readNumber 86 = .ok (.aload_n 0, 1) := by decide +kernel
theorem dX6_readNumber_87 : decode cX6_readNumber 87 = .ok (.getfield 78, 3) := by decide +kernel
theorem dX6_readNumber_90 : decode cX6_readNumber 90 = .ok (.if_icmp .ne 15, 3) := by decide +kernel
theorem dX6_readNumber_93 : decode cX6_readNumber 93 = .ok (.aload_n 0, 1) := by decide +kernel
theorem dX6_readNumber_94 : decode cX6_readNumber 94 = .ok (.iconst 1, 1) := by decide +kernel
theorem dX6_readNumber_95 : decode cX6_readNumber 95 = .ok (.aload_n 0, 1) := by decide +kernel
theorem dX6_readNumber_96 : decode cX6_readNumber 96 = .ok (.getfield 35, 3) := by decide +kernel
theorem dX6_readNumber_99 : decode cX6_readNumber 99 = .ok (.invokevirtual 51, 3) := by decide +kernel
theorem dX6_readNumber_102 : decode cX6_readNumber 102 = .ok (.goto 35, 3) := by decide +kernel
theorem dX6_readNumber_105 : decode cX6_readNumber 105 = .ok (.aload_n 0, 1) := by decide +kernel
theorem dX6_readNumber_106 : decode cX6_readNumber 106 = .ok (.getfield 35, 3) := by decide +kernel
theorem dX6_readNumber_109 : decode cX6_readNumber 109 = .ok (.aload_n 0, 1) := by decide +kernel
theorem dX6_readNumber_110 : decode cX6_readNumber 110 = .ok (.getfield 78, 3) := by decide +kernel
theorem dX6_readNumber_113 : decode cX6_readNumber 113 = .ok (.isub, 1) := by decide +kernel
theorem dX6_readNumber_114 : decode cX6_readNumber 114 = .ok (.iconst 3, 1) := by decide +kernel
theorem dX6_readNumber_115 : decode cX6_readNumber 115 = .ok (.if_icmp .gt 13, 3) := by decide +kernel
theorem dX6_readNumber_118 : decode cX6_readNumber 118 = .ok (.iload_n 3, 1) := by decide +kernel
theorem dX6_readNumber_119 : decode cX6_readNumber 119 = .ok (.iload_n 1, 1) := by decide +kernel
theorem dX6_readNumber_120 : decode cX6_readNumber 120 = .ok (.if_icmp .lt 8, 3) := by decide +kernel
theorem dX6_readNumber_123 : decode cX6_readNumber 123 = .ok (.iload_n 3, 1) := by decide +kernel
theorem dX6_readNumber_124 : decode cX6_readNumber 124 = .ok (.iload_n 2, 1) := by decide +kernel
theorem dX6_readNumber_125 : decode cX6_readNumber 125 = .ok (.if_icmp .le 12, 3) := by decide +kernel
theorem dX6_readNumber_128 : decode cX6_readNumber 128 = .ok (.aload_n 0, 1) := by decide +kernel
theorem dX6_readNumber_129 : decode cX6_readNumber 129 = .ok (.iconst 2, 1) := by decide +kernel
theorem dX6_readNumber_130 : decode cX6_readNumber 130 = .ok (.aload_n 0, 1) := by decide +kernel
theorem dX6_readNumber_131 : decode cX6_readNumber 131 = .ok (.getfield 78, 3) := by decide +kernel
theorem dX6_readNumber_134 : decode cX6_readNumber 134 = .ok (.invokevirtual 51, 3) := by decide +kernel
theorem dX6_readNumber_137 : decode cX6_readNumber 137 = .ok (.iload_n 3, 1) := by decide +kernel
theorem dX6_readNumber_138 : decode cX6_readNumber 138 = .ok (.ireturn, 1) := by decide +kernel
theorem dX6_readEnd_0 : decode cX6_readEnd 0 = .ok (.aload_n 0, 1) := by decide +kernel
theorem dX6_readEnd_1 : decode cX6_readEnd 1 = .ok (.invokevirtual 38, 3) := by decide +kernel
theorem dX6_readEnd_4 : decode cX6_readEnd 4 = .ok (.aload_n 0, 1) := by decide +kernel
theorem dX6_readEnd_5 : decode cX6_readEnd 5 = .ok (.aload_n 0, 1) := by decide +kernel
theorem dX6_readEnd_6 : decode cX6_readEnd 6 = .ok (.getfield 35, 3) := by decide +kernel
theorem dX6_readEnd_9 : decode cX6_readEnd 9 = .ok (.invokevirtual 44, 3) := by decide +kernel
theorem dX6_readEnd_12 : decode cX6_readEnd 12 = .ok (.bipush 59, 2) := by decide +kernel
theorem dX6_readEnd_14 : decode cX6_readEnd 14 = .ok (.if_icmp .ne 16, 3) := by decide +kernel
theorem dX6_readEnd_17 : decode cX6_readEnd 17 = .ok (.aload_n 0, 1) := by decide +kernel
theorem dX6_readEnd_18 : decode cX6_readEnd 18 = .ok (.dup, 1) := by decide +kernel
theorem dX6_readEnd_19 : decode cX6_readEnd 19 = .ok (.getfield 35, 3) := by decide +kernel
theorem dX6_readEnd_22 : decode cX6_readEnd 22 = .ok (.iconst 1, 1) := by decide +kernel
theorem dX6_readEnd_23 : decode cX6_readEnd 23 = .ok (.iadd, 1) := by decide +kernel
theorem dX6_readEnd_24 : decode cX6_readEnd 24 = .ok (.putfield 35, 3) := by decide +kernel
theorem dX6_readEnd_27 : decode cX6_readEnd 27 = .ok (.goto 12, 3) := by decide +kernel
theorem dX6_readEnd_30 : decode cX6_readEnd 30 = .ok (.aload_n 0, 1) := by decide +kernel
theorem dX6_readEnd_31 : decode cX6_readEnd 31 = .ok (.iconst 1, 1) := by decide +kernel
theorem dX6_readEnd_32 : decode cX6_readEnd 32 = .ok (.aload_n 0, 1) := by decide +kernel
theorem dX6_readEnd_33 : decode cX6_readEnd 33 = .ok (.getfield 35, 3) := by decide +kernel
theorem dX6_readEnd_36 : decode cX6_readEnd 36 = .ok (.invokevirtual 51, 3) := by decide +kernel
theorem dX6_readEnd_39 : decode cX6_readEnd 39 = .ok (.return_, 1) := by decide +kernel
theorem dX6_skipBlanks_0 : decode cX6_skipBlanks 0 = .ok (.iconst 0, 1) := by decide +kernel
theorem dX6_skipBlanks_1 : decode cX6_skipBlanks 1 = .ok (.istore_n 1, 1) := by decide +kernel
theorem dX6_skipBlanks_2 : decode cX6_skipBlanks 2 = .ok (.iload_n 1, 1) := by decide +kernel
theorem dX6_skipBlanks_3 : decode cX6_skipBlanks 3 = .ok (.sipush 240, 3) := by decide +kernel
theorem dX6_skipBlanks_6 : decode cX6_skipBlanks 6 = .ok (.if_icmp .ge 32, 3) := by decide +kernel
theorem dX6_skipBlanks_9 : decode cX6_skipBlanks 9 = .ok (.aload_n 0, 1) := by decide +kernel
theorem dX6_skipBlanks_10 : decode cX6_skipBlanks 10 = .ok (.aload_n 0, 1) := by decide +kernel
theorem dX6_skipBlanks_11 : decode cX6_skipBlanks 11 = .ok (.getfield 35, 3) := by decide +kernel
theorem dX6_skipBlanks_14 : decode cX6_skipBlanks 14 = .ok (.invokevirtual 44, 3) := by decide +kernel
theorem dX6_skipBlanks_17 : decode cX6_skipBlanks 17 = .ok (.bipush 32, 2) := by decide +kernel
theorem dX6_skipBlanks_19 : decode cX6_skipBlanks 19 = .ok (.if_icmp .ne 19, 3) := by decide +kernel
theorem dX6_skipBlanks_22 : decode cX6_skipBlanks 22 = .ok (.aload_n 0, 1) := by decide +kernel
theorem dX6_skipBlanks_23 : decode cX6_skipBlanks 23 = .ok (.dup, 1) := by decide +kernel
theorem dX6_skipBlanks_24 : decode cX6_skipBlanks 24 = .ok (.getfield 35, 3) := by decide +kernel
theorem dX6_skipBlanks_27 : decode cX6_skipBlanks 27 = .ok (.iconst 1, 1) := by decide +kernel
theorem dX6_skipBlanks_28 : decode cX6_skipBlanks 28 = .ok (.iadd, 1) := by decide +kernel
theorem dX6_skipBlanks_29 : decode cX6_skipBlanks 29 = .ok (.putfield 35, 3) := by decide +kernel
theorem dX6_skipBlanks_32 : decode cX6_skipBlanks 32 = .ok (.iinc 1 1, 3) := by decide +kernel
theorem dX6_skipBlanks_35 : decode cX6_skipBlanks 35 = .ok (.goto (-33), 3) := by decide +kernel
theorem dX6_skipBlanks_38 : decode cX6_skipBlanks 38 = .ok (.return_, 1) := by decide +kernel
theorem dX6_letterAt_0 : decode cX6_letterAt 0 = .ok (.iload_n 1, 1) := by decide +kernel
theorem dX6_letterAt_1 : decode cX6_letterAt 1 = .ok (.ifCond .lt 27, 3) := by decide +kernel
theorem dX6_letterAt_4 : decode cX6_letterAt 4 = .ok (.iload_n 1, 1) := by decide +kernel
theorem dX6_letterAt_5 : decode cX6_letterAt 5 = .ok (.aload_n 0, 1) := by decide +kernel
theorem dX6_letterAt_6 : decode cX6_letterAt 6 = .ok (.getfield 26, 3) := by decide +kernel
theorem dX6_letterAt_9 : decode cX6_letterAt 9 = .ok (.if_icmp .ge 19, 3) := by decide +kernel
theorem dX6_letterAt_12 : decode cX6_letterAt 12 = .ok (.iload_n 1, 1) := by decide +kernel
theorem dX6_letterAt_13 : decode cX6_letterAt 13 = .ok (.sipush 240, 3) := by decide +kernel
theorem dX6_letterAt_16 : decode cX6_letterAt 16 = .ok (.if_icmp .ge 12, 3) := by decide +kernel
theorem dX6_letterAt_19 : decode cX6_letterAt 19 = .ok (.aload_n 0, 1) := by decide +kernel
theorem dX6_letterAt_20 : decode cX6_letterAt 20 = .ok (.getfield 18, 3) := by decide +kernel
theorem dX6_letterAt_23 : decode cX6_letterAt 23 = .ok (.iload_n 1, 1) := by decide +kernel
theorem dX6_letterAt_24 : decode cX6_letterAt 24 = .ok (.caload, 1) := by decide +kernel
theorem dX6_letterAt_25 : decode cX6_letterAt 25 = .ok (.goto 4, 3) := by decide +kernel
theorem dX6_letterAt_28 : decode cX6_letterAt 28 = .ok (.iconst (-1), 1) := by decide +kernel
theorem dX6_letterAt_29 : decode cX6_letterAt 29 = .ok (.ireturn, 1) := by decide +kernel
theorem dX6_blame_0 : decode cX6_blame 0 = .ok (.aload_n 0, 1) := by decide +kernel
theorem dX6_blame_1 : decode cX6_blame 1 = .ok (.iload_n 1, 1) := by decide +kernel
theorem dX6_blame_2 : decode cX6_blame 2 = .ok (.putfield 32, 3) := by decide +kernel
theorem dX6_blame_5 : decode cX6_blame 5 = .ok (.aload_n 0, 1) := by decide +kernel
theorem dX6_blame_6 : decode cX6_blame 6 = .ok (.iload_n 2, 1) := by decide +kernel
theorem dX6_blame_7 : decode cX6_blame 7 = .ok (.putfield 22, 3) := by decide +kernel
theorem dX6_blame_10 : decode cX6_blame 10 = .ok (.return_, 1) := by decide +kernel
theorem dX6_firstLeast_0 : decode cX6_firstLeast 0 = .ok (.iload_n 1, 1) := by decide +kernel
theorem dX6_firstLeast_1 : decode cX6_firstLeast 1 = .ok (.bipush 104, 2) := by decide +kernel
theorem dX6_firstLeast_3 : decode cX6_firstLeast 3 = .ok (.if_icmp .eq 9, 3) := by decide +kernel
theorem dX6_firstLeast_6 : decode cX6_firstLeast 6 = .ok (.iload_n 1, 1) := by decide +kernel
theorem dX6_firstLeast_7 : decode cX6_firstLeast 7 = .ok (.bipush 116, 2) := by decide +kernel
theorem dX6_firstLeast_9 : decode cX6_firstLeast 9 = .ok (.if_icmp .ne 7, 3) := by decide +kernel
theorem dX6_firstLeast_12 : decode cX6_firstLeast 12 = .ok (.iconst 1, 1) := by decide +kernel
theorem dX6_firstLeast_13 : decode cX6_firstLeast 13 = .ok (.goto 4, 3) := by decide +kernel
theorem dX6_firstLeast_16 : decode cX6_firstLeast 16 = .ok (.iconst 0, 1) := by decide +kernel
theorem dX6_firstLeast_17 : decode cX6_firstLeast 17 = .ok (.ireturn, 1) := by decide +kernel
theorem dX6_firstMost_0 : decode cX6_firstMost 0 = .ok (.iload_n 1, 1) := by decide +kernel
theorem dX6_firstMost_1 : decode cX6_firstMost 1 = .ok (.lookupswitch 33 #[(104, 27), (116, 30)], 27) := by decide +kernel
theorem dX6_firstMost_28 : decode cX6_firstMost 28 = .ok (.bipush 8, 2) := by decide +kernel
theorem dX6_firstMost_30 : decode cX6_firstMost 30 = .ok (.ireturn, 1) := by decide +kernel
theorem dX6_firstMost_31 : decode cX6_firstMost 31 = .ok (.bipush 99, 2) := by decide +kernel
theorem dX6_firstMost_33 : decode cX6_firstMost 33 = .ok (.ireturn, 1) := by decide +kernel
theorem dX6_firstMost_34 : decode cX6_firstMost 34 = .ok (.aload_n 0, 1) := by decide +kernel
theorem dX6_firstMost_35 : decode cX6_firstMost 35 = .ok (.getfield 12, 3) := by decide +kernel
theorem dX6_firstMost_38 : decode cX6_firstMost 38 = .ok (.getfield 88, 3) := by decide +kernel
theorem dX6_firstMost_41 : decode cX6_firstMost 41 = .ok (.iconst 1, 1) := by decide +kernel
theorem dX6_firstMost_42 : decode cX6_firstMost 42 = .ok (.isub, 1) := by decide +kernel
theorem dX6_firstMost_43 : decode cX6_firstMost 43 = .ok (.ireturn, 1) := by decide +kernel
theorem dX6_secondLeast_0 : decode cX6_secondLeast 0 = .ok (.iload_n 1, 1) := by decide +kernel
theorem dX6_secondLeast_1 : decode cX6_secondLeast 1 = .ok (.bipush 119, 2) := by decide +kernel
theorem dX6_secondLeast_3 : decode cX6_secondLeast 3 = .ok (.if_icmp .ne 7, 3) := by decide +kernel
theorem dX6_secondLeast_6 : decode cX6_secondLeast 6 = .ok (.iconst 1, 1) := by decide +kernel
theorem dX6_secondLeast_7 : decode cX6_secondLeast 7 = .ok (.goto 4, 3) := by decide +kernel
theorem dX6_secondLeast_10 : decode cX6_secondLeast 10 = .ok (.iconst 0, 1) := by decide +kernel
theorem dX6_secondLeast_11 : decode cX6_secondLeast 11 = .ok (.ireturn, 1) := by decide +kernel
theorem dX6_secondMost_0 : decode cX6_secondMost 0 = .ok (.iload_n 1, 1) := by decide +kernel
theorem dX6_secondMost_1 : decode cX6_secondMost 1 = .ok (.lookupswitch 41 #[(112, 27), (119, 37)], 27) := by decide +kernel
theorem dX6_secondMost_28 : decode cX6_secondMost 28 = .ok (.aload_n 0, 1) := by decide +kernel
theorem dX6_secondMost_29 : decode cX6_secondMost 29 = .ok (.getfield 12, 3) := by decide +kernel
theorem dX6_secondMost_32 : decode cX6_secondMost 32 = .ok (.getfield 88, 3) := by decide +kernel
theorem dX6_secondMost_35 : decode cX6_secondMost 35 = .ok (.iconst 1, 1) := by decide +kernel
theorem dX6_secondMost_36 : decode cX6_secondMost 36 = .ok (.isub, 1) := by decide +kernel
theorem dX6_secondMost_37 : decode cX6_secondMost 37 = .ok (.ireturn, 1) := by decide +kernel
theorem dX6_secondMost_38 : decode cX6_secondMost 38 = .ok (.sipush 999, 3) := by decide +kernel
theorem dX6_secondMost_41 : decode cX6_secondMost 41 = .ok (.ireturn, 1) := by decide +kernel
theorem dX6_secondMost_42 : decode cX6_secondMost 42 = .ok (.bipush 99, 2) := by decide +kernel
theorem dX6_secondMost_44 : decode cX6_secondMost 44 = .ok (.ireturn, 1) := by decide +kernel
theorem dX6_isFigure_0 : decode cX6_isFigure 0 = .ok (.iload_n 0, 1) := by decide +kernel
theorem dX6_isFigure_1 : decode cX6_isFigure 1 = .ok (.bipush 48, 2) := by decide +kernel
theorem dX6_isFigure_3 : decode cX6_isFigure 3 = .ok (.if_icmp .lt 13, 3) := by decide +kernel
theorem dX6_isFigure_6 : decode cX6_isFigure 6 = .ok (.iload_n 0, 1) := by decide +kernel
theorem dX6_isFigure_7 : decode cX6_isFigure 7 = .ok (.bipush 57, 2) := by decide +kernel
theorem dX6_isFigure_9 : decode cX6_isFigure 9 = .ok (.if_icmp .gt 7, 3) := by decide +kernel
theorem dX6_isFigure_12 : decode cX6_isFigure 12 = .ok (.iconst 1, 1) := by decide +kernel
theorem dX6_isFigure_13 : decode cX6_isFigure 13 = .ok (.goto 4, 3) := by decide +kernel
theorem dX6_isFigure_16 : decode cX6_isFigure 16 = .ok (.iconst 0, 1) := by decide +kernel
theorem dX6_isFigure_17 : decode cX6_isFigure 17 = .ok (.ireturn, 1) := by decide +kernel
theorem dX7_init_0 : decode cX7_init 0 = .ok (.aload_n 0, 1) := by decide +kernel
theorem dX7_init_1 : decode cX7_init 1 = .ok (.invokespecial 3, 3) := by decide +kernel
theorem dX7_init_4 : decode cX7_init 4 = .ok (.aload_n 0, 1) := by decide +kernel
theorem dX7_init_5 : decode cX7_init 5 = .ok (.iconst 4, 1) := by decide +kernel
theorem dX7_init_6 : decode cX7_init 6 = .ok (.newarray .int, 2) := by decide +kernel
theorem dX7_init_8 : decode cX7_init 8 = .ok (.putfield 9, 3) := by decide +kernel
theorem dX7_init_11 : decode cX7_init 11 = .ok (.aload_n 0, 1) := by decide +kernel
theorem dX7_init_12 : decode cX7_init 12 = .ok (.iconst 4, 1) := by decide +kernel
theorem dX7_init_13 : decode cX7_init 13 = .ok (.newarray .int, 2) := by decide +kernel
theorem dX7_init_15 : decode cX7_init 15 = .ok (.putfield 15, 3) := by decide +kernel
theorem dX7_init_18 : decode cX7_init 18 = .ok (.aload_n 0, 1) := by decide +kernel
theorem dX7_init_19 : decode cX7_init 19 = .ok (.iconst 4, 1) := by decide +kernel
theorem dX7_init_20 : decode cX7_init 20 = .ok (.newarray .int, 2) := by decide +kernel
theorem dX7_init_22 : decode cX7_init 22 = .ok (.putfield 18, 3) := by decide +kernel
theorem dX7_init_25 : decode cX7_init 25 = .ok (.aload_n 0, 1) := by decide +kernel
theorem dX7_init_26 : decode cX7_init 26 = .ok (.aload_n 1, 1) := by decide +kernel
theorem dX7_init_27 : decode cX7_init 27 = .ok (.putfield 21, 3) := by decide +kernel
theorem dX7_init_30 : decode cX7_init 30 = .ok (.aload_n 0, 1) := by decide +kernel
theorem dX7_init_31 : decode cX7_init 31 = .ok (.aload_n 2, 1) := by decide +kernel
theorem dX7_init_32 : decode cX7_init 32 = .ok (.putfield 25, 3) := by decide +kernel
theorem dX7_init_35 : decode cX7_init 35 = .ok (.return_, 1) := by decide +kernel
theorem dX7_answer_0 : decode cX7_answer 0 = .ok (.iload_n 1, 1) := by decide +kernel
theorem dX7_answer_1 : decode cX7_answer 1 = .ok (.iconst (-1), 1) := by decide +kernel
theorem dX7_answer_2 : decode cX7_answer 2 = .ok (.if_icmp .ne 8, 3) := by decide +kernel
theorem dX7_answer_5 : decode cX7_answer 5 = .ok (.aload_n 0, 1) := by decide +kernel
theorem dX7_answer_6 : decode cX7_answer 6 = .ok (.getfield 29, 3) := by decide +kernel
theorem dX7_answer_9 : decode cX7_answer 9 = .ok (.ireturn, 1) := by decide +kernel
theorem dX7_answer_10 : decode cX7_answer 10 = .ok (.aload_n 0, 1) := by decide +kernel
theorem dX7_answer_11 : decode cX7_answer 11 = .ok (.getfield 21, 3) := by decide +kernel
theorem dX7_answer_14 : decode cX7_answer 14 = .ok (.iload_n 1, 1) := by decide +kernel
theorem dX7_answer_15 : decode cX7_answer 15 = .ok (.invokevirtual 33, 3) := by decide +kernel
theorem dX7_answer_18 : decode cX7_answer 18 = .ok (.ifCond .ne 6, 3) := by decide +kernel
theorem dX7_answer_21 : decode cX7_answer 21 = .ok (.ldc 39, 2) := by decide +kernel
theorem dX7_answer_23 : decode cX7_answer 23 = .ok (.ireturn, 1) := by decide +kernel
theorem dX7_answer_24 : decode cX7_answer 24 = .ok (.aload_n 0, 1) := by decide +kernel
theorem dX7_answer_25 : decode cX7_answer 25 = .ok (.getfield 21, 3) := by decide +kernel
theorem dX7_answer_28 : decode cX7_answer 28 = .ok (.aload_n 0, 1) := by decide +kernel
theorem dX7_answer_29 : decode cX7_answer 29 = .ok (.getfield 18, 3) := by decide +kernel
theorem dX7_answer_32 : decode cX7_answer 32 = .ok (.iload_n 1, 1) := by decide +kernel
theorem dX7_answer_33 : decode cX7_answer 33 = .ok (.iaload, 1) := by decide +kernel
theorem dX7_answer_34 : decode cX7_answer 34 = .ok (.invokevirtual 40, 3) := by decide +kernel
theorem dX7_answer_37 : decode cX7_answer 37 = .ok (.ifCond .eq 12, 3) := by decide +kernel
theorem dX7_answer_40 : decode cX7_answer 40 = .ok (.aload_n 0, 1) := by decide +kernel
theorem dX7_answer_41 : decode cX7_answer 41 = .ok (.getfield 18, 3) := by decide +kernel
theorem dX7_answer_44 : decode cX7_answer 44 = .ok (.iload_n 1, 1) := by decide +kernel
theorem dX7_answer_45 : decode cX7_answer 45 = .ok (.iaload, 1) := by decide +kernel
theorem dX7_answer_46 : decode cX7_answer 46 = .ok (.goto 4, 3) := by decide +kernel
theorem dX7_answer_49 : decode cX7_answer 49 = .ok (.iconst (-1), 1) := by decide +kernel
theorem dX7_answer_50 : decode cX7_answer 50 = .ok (.ireturn, 1) := by decide +kernel
theorem dX7_seek_0 : decode cX7_seek 0 = .ok (.aload_n 0, 1) := by decide +kernel
theorem dX7_seek_1 : decode cX7_seek 1 = .ok (.invokevirtual 43, 3) := by decide +kernel
theorem dX7_seek_4 : decode cX7_seek 4 = .ok (.aload_n 0, 1) := by decide +kernel
theorem dX7_seek_5 : decode cX7_seek 5 = .ok (.iconst (-1), 1) := by decide +kernel
theorem dX7_seek_6 : decode cX7_seek 6 = .ok (.putfield 29, 3) := by decide +kernel
theorem dX7_seek_9 : decode cX7_seek 9 = .ok (.aload_n 0, 1) := by decide +kernel
theorem dX7_seek_10 : decode cX7_seek 10 = .ok (.getfield 21, 3) := by decide +kernel
theorem dX7_seek_13 : decode cX7_seek 13 = .ok (.getfield 46, 3) := by decide +kernel
theorem dX7_seek_16 : decode cX7_seek 16 = .ok (.iconst 1, 1) := by decide +kernel
theorem dX7_seek_17 : decode cX7_seek 17 = .ok (.iadd, 1) := by decide +kernel
theorem dX7_seek_18 : decode cX7_seek 18 = .ok (.istore_n 1, 1) := by decide +kernel
theorem dX7_seek_19 : decode cX7_seek 19 = .ok (.iload_n 1, 1) := by decide +kernel
theorem dX7_seek_20 : decode cX7_seek 20 = .ok (.aload_n 0, 1) := by decide +kernel
theorem dX7_seek_21 : decode cX7_seek 21 = .ok (.getfield 21, 3) := by decide +kernel
theorem dX7_seek_24 : decode cX7_seek 24 = .ok (.getfield 49, 3) := by decide +kernel
theorem dX7_seek_27 : decode cX7_seek 27 = .ok (.invokestatic 52, 3) := by decide +kernel
theorem dX7_seek_30 : decode cX7_seek 30 = .ok (.istore_n 2, 1) := by decide +kernel
theorem dX7_seek_31 : decode cX7_seek 31 = .ok (.iconst 0, 1) := by decide +kernel
theorem dX7_seek_32 : decode cX7_seek 32 = .ok (.istore_n 3, 1) := by decide +kernel
theorem dX7_seek_33 : decode cX7_seek 33 = .ok (.iload_n 3, 1) := by decide +kernel
theorem dX7_seek_34 : decode cX7_seek 34 = .ok (.iload_n 2, 1) := by decide +kernel
theorem dX7_seek_35 : decode cX7_seek 35 = .ok (.if_icmp .ge 60, 3) := by decide +kernel
theorem dX7_seek_38 : decode cX7_seek 38 = .ok (.iload_n 3, 1) := by decide +kernel
theorem dX7_seek_39 : decode cX7_seek 39 = .ok (.iload_n 1, 1) := by decide +kernel
theorem dX7_seek_40 : decode cX7_seek 40 = .ok (.aload_n 0, 1) := by decide +kernel
theorem dX7_seek_41 : decode cX7_seek 41 = .ok (.getfield 15, 3) := by decide +kernel
theorem dX7_seek_44 : decode cX7_seek 44 = .ok (.aload_n 0, 1) := by decide +kernel
theorem dX7_seek_45 : decode cX7_seek 45 = .ok (.getfield 21, 3) := by decide +kernel
theorem dX7_seek_48 : decode cX7_seek 48 = .ok (.getfield 49, 3) := by decide +kernel
theorem dX7_seek_51 : decode cX7_seek 51 = .ok (.invokestatic 56, 3) := by decide +kernel
theorem dX7_seek_54 : decode cX7_seek 54 = .ok (.aload_n 0, 1) := by decide +kernel
theorem dX7_seek_55 : decode cX7_seek 55 = .ok (.invokevirtual 60, 3) := by decide +kernel
theorem dX7_seek_58 : decode cX7_seek 58 = .ok (.istore 4, 2) := by decide +kernel
theorem dX7_seek_60 : decode cX7_seek 60 = .ok (.iload 4, 2) := by decide +kernel
theorem dX7_seek_62 : decode cX7_seek 62 = .ok (.aload_n 0, 1) := by decide +kernel
theorem dX7_seek_63 : decode cX7_seek 63 = .ok (.getfield 29, 3) := by decide +kernel
theorem dX7_seek_66 : decode cX7_seek 66 = .ok (.if_icmp .le 23, 3) := by decide +kernel
theorem dX7_seek_69 : decode cX7_seek 69 = .ok (.aload_n 0, 1) := by decide +kernel
theorem dX7_seek_70 : decode cX7_seek 70 = .ok (.iload 4, 2) := by decide +kernel
theorem dX7_seek_72 : decode cX7_seek 72 = .ok (.putfield 29, 3) := by decide +kernel
theorem dX7_seek_75 : decode cX7_seek 75 = .ok (.aload_n 0, 1) := by decide +kernel
theorem dX7_seek_76 : decode cX7_seek 76 = .ok (.getfield 15, 3) := by decide +kernel
theorem dX7_seek_79 : decode cX7_seek 79 = .ok (.iconst 0, 1) := by decide +kernel
theorem dX7_seek_80 : decode cX7_seek 80 = .ok (.aload_n 0, 1) := by decide +kernel
theorem dX7_seek_81 : decode cX7_seek 81 = .ok (.getfield 18, 3) := by decide +kernel
theorem dX7_seek_84 : decode cX7_seek 84 = .ok (.iconst 0, 1) := by decide +kernel
theorem dX7_seek_85 : decode cX7_seek 85 = .ok (.iconst 4, 1) := by decide +kernel
theorem dX7_seek_86 : decode cX7_seek 86 = .ok (.invokestatic 64, 3) := by decide +kernel
theorem dX7_seek_89 : decode cX7_seek 89 = .ok (.iinc 3 1, 3) := by decide +kernel
theorem dX7_seek_92 : decode cX7_seek 92 = .ok (.goto (-59), 3) := by decide +kernel
theorem dX7_seek_95 : decode cX7_seek 95 = .ok (.return_, 1) := by decide +kernel
theorem dX7_markInTime_0 : decode cX7_markInTime 0 = .ok (.iconst 0, 1) := by decide +kernel
theorem dX7_markInTime_1 : decode cX7_markInTime 1 = .ok (.istore_n 1, 1) := by decide +kernel
theorem dX7_markInTime_2 : decode cX7_markInTime 2 = .ok (.iload_n 1, 1) := by decide +kernel
theorem dX7_markInTime_3 : decode cX7_markInTime 3 = .ok (.aload_n 0, 1) := by decide +kernel
theorem dX7_markInTime_4 : decode cX7_markInTime 4 = .ok (.getfield 21, 3) := by decide +kernel
theorem dX7_markInTime_7 : decode cX7_markInTime 7 = .ok (.getfield 49, 3) := by decide +kernel
theorem dX7_markInTime_10 : decode cX7_markInTime 10 = .ok (.if_icmp .ge 98, 3) := by decide +kernel
theorem dX7_markInTime_13 : decode cX7_markInTime 13 = .ok (.aload_n 0, 1) := by decide +kernel
theorem dX7_markInTime_14 : decode cX7_markInTime 14 = .ok (.getfield 9, 3) := by decide +kernel
theorem dX7_markInTime_17 : decode cX7_markInTime 17 = .ok (.iload_n 1, 1) := by decide +kernel
theorem dX7_markInTime_18 : decode cX7_markInTime 18 = .ok (.iconst 0, 1) := by decide +kernel
theorem dX7_markInTime_19 : decode cX7_markInTime 19 = .ok (.iastore, 1) := by decide +kernel
theorem dX7_markInTime_20 : decode cX7_markInTime 20 = .ok (.iconst 0, 1) := by decide +kernel
theorem dX7_markInTime_21 : decode cX7_markInTime 21 = .ok (.istore_n 2, 1) := by decide +kernel
theorem dX7_markInTime_22 : decode cX7_markInTime 22 = .ok (.iload_n 2, 1) := by decide +kernel
theorem dX7_markInTime_23 : decode cX7_markInTime 23 = .ok (.aload_n 0, 1) := by decide +kernel
theorem dX7_markInTime_24 : decode cX7_markInTime 24 = .ok (.getfield 21, 3) := by decide +kernel
theorem dX7_markInTime_27 : decode cX7_markInTime 27 = .ok (.getfield 46, 3) := by decide +kernel
theorem dX7_markInTime_30 : decode cX7_markInTime 30 = .ok (.if_icmp .ge 72, 3) := by decide +kernel
theorem dX7_markInTime_33 : decode cX7_markInTime 33 = .ok (.aload_n 0, 1) := by decide +kernel
theorem dX7_markInTime_34 : decode cX7_markInTime 34 = .ok (.getfield 21, 3) := by decide +kernel
theorem dX7_markInTime_37 : decode cX7_markInTime 37 = .ok (.aload_n 0, 1) := by decide +kernel
theorem dX7_markInTime_38 : decode cX7_markInTime 38 = .ok (.getfield 25, 3) := by decide +kernel
theorem dX7_markInTime_41 : decode cX7_markInTime 41 = .ok (.iload_n 2, 1) := by decide +kernel
theorem dX7_markInTime_42 : decode cX7_markInTime 42 = .ok (.invokevirtual 70, 3) := by decide +kernel
theorem dX7_markInTime_45 : decode cX7_markInTime 45 = .ok (.aload_n 0, 1) := by decide +kernel
theorem dX7_markInTime_46 : decode cX7_markInTime 46 = .ok (.getfield 21, 3) := by decide +kernel
theorem dX7_markInTime_49 : decode cX7_markInTime 49 = .ok (.getfield 76, 3) := by decide +kernel
theorem dX7_markInTime_52 : decode cX7_markInTime 52 = .ok (.iload_n 1, 1) := by decide +kernel
theorem dX7_markInTime_53 : decode cX7_markInTime 53 = .ok (.iaload, 1) := by decide +kernel
theorem dX7_markInTime_54 : decode cX7_markInTime 54 = .ok (.invokevirtual 79, 3) := by decide +kernel
theorem dX7_markInTime_57 : decode cX7_markInTime 57 = .ok (.istore_n 3, 1) := by decide +kernel
theorem dX7_markInTime_58 : decode cX7_markInTime 58 = .ok (.iload_n 3, 1) := by decide +kernel
theorem dX7_markInTime_59 : decode cX7_markInTime 59 = .ok (.iconst (-1), 1) := by decide +kernel
theorem dX7_markInTime_60 : decode cX7_markInTime 60 = .ok (.if_icmp .eq 36, 3) := by decide +kernel
theorem dX7_markInTime_63 : decode cX7_markInTime 63 = .ok (.aload_n 0, 1) := by decide +kernel
theorem dX7_markInTime_64 : decode cX7_markInTime 64 = .ok (.getfield 25, 3) := by decide +kernel
theorem dX7_markInTime_67 : decode cX7_markInTime 67 = .ok (.getfield 82, 3) := by decide +kernel
theorem dX7_markInTime_70 : decode cX7_markInTime 70 = .ok (.iload_n 3, 1) := by decide +kernel
theorem dX7_markInTime_71 : decode cX7_markInTime 71 = .ok (.iadd, 1) := by decide +kernel
theorem dX7_markInTime_72 : decode cX7_markInTime 72 = .ok (.aload_n 0, 1) := by decide +kernel
theorem dX7_markInTime_73 : decode cX7_markInTime 73 = .ok (.getfield 21, 3) := by decide +kernel
theorem dX7_markInTime_76 : decode cX7_markInTime 76 = .ok (.getfield 85, 3) := by decide +kernel
theorem dX7_markInTime_79 : decode cX7_markInTime 79 = .ok (.iload_n 1, 1) := by decide +kernel
theorem dX7_markInTime_80 : decode cX7_markInTime 80 = .ok (.iaload, 1) := by decide +kernel
theorem dX7_markInTime_81 : decode cX7_markInTime 81 = .ok (.if_icmp .gt 15, 3) := by decide +kernel
theorem dX7_markInTime_84 : decode cX7_markInTime 84 = .ok (.aload_n 0, 1) := by decide +kernel
theorem dX7_markInTime_85 : decode cX7_markInTime 85 = .ok (.getfield 9, 3) := by decide +kernel
theorem dX7_markInTime_88 : decode cX7_markInTime 88 = .ok (.iload_n 1, 1) := by decide +kernel
theorem dX7_markInTime_89 : decode cX7_markInTime 89 = .ok (.dup2, 1) := by decide +kernel
theorem dX7_markInTime_90 : decode cX7_markInTime 90 = .ok (.iaload, 1) := by decide +kernel
theorem dX7_markInTime_91 : decode cX7_markInTime 91 = .ok (.iconst 1, 1) := by decide +kernel
theorem dX7_markInTime_92 : decode cX7_markInTime 92 = .ok (.iload_n 2, 1) := by decide +kernel
theorem dX7_markInTime_93 : decode cX7_markInTime 93 = .ok (.ishl, 1) := by decide +kernel
theorem dX7_markInTime_94 : decode cX7_markInTime 94 = .ok (.ior, 1) := by decide +kernel
theorem dX7_markInTime_95 : decode cX7_markInTime 95 = .ok (.iastore, 1) := by decide +kernel
theorem dX7_markInTime_96 : decode cX7_markInTime 96 = .ok (.iinc 2 1, 3) := by decide +kernel
theorem dX7_markInTime_99 : decode cX7_markInTime 99 = .ok (.goto (-77), 3) := by decide +kernel
theorem dX7_markInTime_102 : decode cX7_markInTime 102 = .ok (.iinc 1 1, 3) := by decide +kernel
theorem dX7_markInTime_105 : decode cX7_markInTime 105 = .ok (.goto (-103), 3) := by decide +kernel
theorem dX7_markInTime_108 : decode cX7_markInTime 108 = .ok (.return_, 1) := by decide +kernel
theorem dX7_ordersTaken_0 : decode cX7_ordersTaken 0 = .ok (.iconst 0, 1) := by decide +kernel
theorem dX7_ordersTaken_1 : decode cX7_ordersTaken 1 = .ok (.istore_n 1, 1) := by decide +kernel
theorem dX7_ordersTaken_2 : decode cX7_ordersTaken 2 = .ok (.iconst 0, 1) := by decide +kernel
theorem dX7_ordersTaken_3 : decode cX7_ordersTaken 3 = .ok (.istore_n 2, 1) := by decide +kernel
theorem dX7_ordersTaken_4 : decode cX7_ordersTaken 4 = .ok (.iconst 0, 1) := by decide +kernel
theorem dX7_ordersTaken_5 : decode cX7_ordersTaken 5 = .ok (.istore_n 3, 1) := by decide +kernel
theorem dX7_ordersTaken_6 : decode cX7_ordersTaken 6 = .ok (.iload_n 3, 1) := by decide +kernel
theorem dX7_ordersTaken_7 : decode cX7_ordersTaken 7 = .ok (.aload_n 0, 1) := by decide +kernel
theorem dX7_ordersTaken_8 : decode cX7_ordersTaken 8 = .ok (.getfield 21, 3) := by decide +kernel
theorem dX7_ordersTaken_11 : decode cX7_ordersTaken 11 = .ok (.getfield 49, 3) := by decide +kernel
theorem dX7_ordersTaken_14 : decode cX7_ordersTaken 14 = .ok (.if_icmp .ge 67, 3) := by decide +kernel
theorem dX7_ordersTaken_17 : decode cX7_ordersTaken 17 = .ok (.aload_n 0, 1) := by decide +kernel
theorem dX7_ordersTaken_18 : decode cX7_ordersTaken 18 = .ok (.getfield 15, 3) := by decide +kernel
theorem dX7_ordersTaken_21 : decode cX7_ordersTaken 21 = .ok (.iload_n 3, 1) := by decide +kernel
theorem dX7_ordersTaken_22 : decode cX7_ordersTaken 22 = .ok (.iaload, 1) := by decide +kernel
theorem dX7_ordersTaken_23 : decode cX7_ordersTaken 23 = .ok (.istore 4, 2) := by decide +kernel
theorem dX7_ordersTaken_25 : decode cX7_ordersTaken 25 = .ok (.iload 4, 2) := by decide +kernel
theorem dX7_ordersTaken_27 : decode cX7_ordersTaken 27 = .ok (.aload_n 0, 1) := by decide +kernel
theorem dX7_ordersTaken_28 : decode cX7_ordersTaken 28 = .ok (.getfield 21, 3) := by decide +kernel
theorem dX7_ordersTaken_31 : decode cX7_ordersTaken 31 = .ok (.getfield 46, 3) := by decide +kernel
theorem dX7_ordersTaken_34 : decode cX7_ordersTaken 34 = .ok (.if_icmp .ne 6, 3) := by decide +kernel
theorem dX7_ordersTaken_37 : decode cX7_ordersTaken 37 = .ok (.goto 38, 3) := by decide +kernel
theorem dX7_ordersTaken_40 : decode cX7_ordersTaken 40 = .ok (.iload_n 1, 1) := by decide +kernel
theorem dX7_ordersTaken_41 : decode cX7_ordersTaken 41 = .ok (.iload 4, 2) := by decide +kernel
theorem dX7_ordersTaken_43 : decode cX7_ordersTaken 43 = .ok (.invokestatic 88, 3) := by decide +kernel
theorem dX7_ordersTaken_46 : decode cX7_ordersTaken 46 = .ok (.ifCond .ne 17, 3) := by decide +kernel
theorem dX7_ordersTaken_49 : decode cX7_ordersTaken 49 = .ok (.aload_n 0, 1) := by decide +kernel
theorem dX7_ordersTaken_50 : decode cX7_ordersTaken 50 = .ok (.getfield 9, 3) := by decide +kernel
theorem dX7_ordersTaken_53 : decode cX7_ordersTaken 53 = .ok (.iload_n 3, 1) := by decide +kernel
theorem dX7_ordersTaken_54 : decode cX7_ordersTaken 54 = .ok (.iaload, 1) := by decide +kernel
theorem dX7_ordersTaken_55 : decode cX7_ordersTaken 55 = .ok (.iload 4, 2) := by decide +kernel
theorem dX7_ordersTaken_57 : decode cX7_ordersTaken 57 = .ok (.invokestatic 88, 3) := by decide +kernel
theorem dX7_ordersTaken_60 : decode cX7_ordersTaken 60 = .ok (.ifCond .ne 5, 3) := by decide +kernel
theorem dX7_ordersTaken_63 : decode cX7_ordersTaken 63 = .ok (.iconst (-1), 1) := by decide +kernel
theorem dX7_ordersTaken_64 : decode cX7_ordersTaken 64 = .ok (.ireturn, 1) := by decide +kernel
theorem dX7_ordersTaken_65 : decode cX7_ordersTaken 65 = .ok (.iload_n 1, 1) := by decide +kernel
theorem dX7_ordersTaken_66 : decode cX7_ordersTaken 66 = .ok (.iconst 1, 1) := by decide +kernel
theorem dX7_ordersTaken_67 : decode cX7_ordersTaken 67 = .ok (.iload 4, 2) := by decide +kernel
theorem dX7_ordersTaken_69 : decode cX7_ordersTaken 69 = .ok (.ishl, 1) := by decide +kernel
theorem dX7_ordersTaken_70 : decode cX7_ordersTaken 70 = .ok (.ior, 1) := by decide +kernel
theorem dX7_ordersTaken_71 : decode cX7_ordersTaken 71 = .ok (.istore_n 1, 1) := by decide +kernel
theorem dX7_ordersTaken_72 : decode cX7_ordersTaken 72 = .ok (.iinc 2 1, 3) := by decide +kernel
theorem dX7_ordersTaken_75 : decode cX7_ordersTaken 75 = .ok (.iinc 3 1, 3) := by decide +kernel
theorem dX7_ordersTaken_78 : decode cX7_ordersTaken 78 = .ok (.goto (-72), 3) := by decide +kernel
theorem dX7_ordersTaken_81 : decode cX7_ordersTaken 81 = .ok (.iload_n 2, 1) := by decide +kernel
theorem dX7_ordersTaken_82 : decode cX7_ordersTaken 82 = .ok (.ireturn, 1) := by decide +kernel
theorem dX8_init_0 : decode cX8_init 0 = .ok (.aload_n 0, 1) := by decide +kernel
theorem dX8_init_1 : decode cX8_init 1 = .ok (.invokespecial 3, 3) := by decide +kernel
theorem dX8_init_4 : decode cX8_init 4 = .ok (.aload_n 0, 1) := by decide +kernel
theorem dX8_init_5 : decode cX8_init 5 = .ok (.iconst 4, 1) := by decide +kernel
theorem dX8_init_6 : decode cX8_init 6 = .ok (.newarray .int, 2) := by decide +kernel
theorem dX8_init_8 : decode cX8_init 8 = .ok (.putfield 9, 3) := by decide +kernel
theorem dX8_init_11 : decode cX8_init 11 = .ok (.aload_n 0, 1) := by decide +kernel
theorem dX8_init_12 : decode cX8_init 12 = .ok (.iconst 4, 1) := by decide +kernel
theorem dX8_init_13 : decode cX8_init 13 = .ok (.newarray .int, 2) := by decide +kernel
theorem dX8_init_15 : decode cX8_init 15 = .ok (.putfield 15, 3) := by decide +kernel
theorem dX8_init_18 : decode cX8_init 18 = .ok (.aload_n 0, 1) := by decide +kernel
theorem dX8_init_19 : decode cX8_init 19 = .ok (.iconst 4, 1) := by decide +kernel
theorem dX8_init_20 : decode cX8_init 20 = .ok (.newarray .int, 2) := by decide +kernel
theorem dX8_init_22 : decode cX8_init 22 = .ok (.putfield 18, 3) := by decide +kernel
theorem dX8_init_25 : decode cX8_init 25 = .ok (.aload_n 0, 1) := by decide +kernel
theorem dX8_init_26 : decode cX8_init 26 = .ok (.bipush 8, 2) := by decide +kernel
theorem dX8_init_28 : decode cX8_init 28 = .ok (.newarray .int, 2) := by decide +kernel
theorem dX8_init_30 : decode cX8_init 30 = .ok (.putfield 21, 3) := by decide +kernel
theorem dX8_init_33 : decode cX8_init 33 = .ok (.iconst 0, 1) := by decide +kernel
theorem dX8_init_34 : decode cX8_init 34 = .ok (.istore_n 1, 1) := by decide +kernel
theorem dX8_init_35 : decode cX8_init 35 = .ok (.iload_n 1, 1) := by decide +kernel
theorem dX8_init_36 : decode cX8_init 36 = .ok (.bipush 8, 2) := by decide +kernel
theorem dX8_init_38 : decode cX8_init 38 = .ok (.if_icmp .ge 17, 3) := by decide +kernel
theorem dX8_init_41 : decode cX8_init 41 = .ok (.aload_n 0, 1) := by decide +kernel
theorem dX8_init_42 : decode cX8_init 42 = .ok (.getfield 21, 3) := by decide +kernel
theorem dX8_init_45 : decode cX8_init 45 = .ok (.iload_n 1, 1) := by decide +kernel
theorem dX8_init_46 : decode cX8_init 46 = .ok (.bipush (-3), 2) := by decide +kernel
theorem dX8_init_48 : decode cX8_init 48 = .ok (.iastore, 1) := by decide +kernel
theorem dX8_init_49 : decode cX8_init 49 = .ok (.iinc 1 1, 3) := by decide +kernel
theorem dX8_init_52 : decode cX8_init 52 = .ok (.goto (-17), 3) := by decide +kernel
theorem dX8_init_55 : decode cX8_init 55 = .ok (.return_, 1) := by decide +kernel
theorem dX8_become_0 : decode cX8_become 0 = .ok (.aload_n 0, 1) := by decide +kernel
theorem dX8_become_1 : decode cX8_become 1 = .ok (.aload_n 1, 1) := by decide +kernel
theorem dX8_become_2 : decode cX8_become 2 = .ok (.getfield 24, 3) := by decide +kernel
theorem dX8_become_5 : decode cX8_become 5 = .ok (.putfield 24, 3) := by decide +kernel
theorem dX8_become_8 : decode cX8_become 8 = .ok (.aload_n 0, 1) := by decide +kernel
theorem dX8_become_9 : decode cX8_become 9 = .ok (.aload_n 1, 1) := by decide +kernel
theorem dX8_become_10 : decode cX8_become 10 = .ok (.getfield 28, 3) := by decide +kernel
theorem dX8_become_13 : decode cX8_become 13 = .ok (.putfield 28, 3) := by decide +kernel
theorem dX8_become_16 : decode cX8_become 16 = .ok (.aload_n 1, 1) := by decide +kernel
theorem dX8_become_17 : decode cX8_become 17 = .ok (.getfield 9, 3) := by decide +kernel
theorem dX8_become_20 : decode cX8_become 20 = .ok (.iconst 0, 1) := by decide +kernel
theorem dX8_become_21 : decode cX8_become 21 = .ok (.aload_n 0, 1) := by decide +kernel
theorem dX8_become_22 : decode cX8_become 22 = .ok (.getfield 9, 3) := by decide +kernel
theorem dX8_become_25 : decode cX8_become 25 = .ok (.iconst 0, 1) := by decide +kernel
theorem dX8_become_26 : decode cX8_become 26 = .ok (.iconst 4, 1) := by decide +kernel
theorem dX8_become_27 : decode cX8_become 27 = .ok (.invokestatic 31, 3) := by decide +kernel
theorem dX8_become_30 : decode cX8_become 30 = .ok (.aload_n 1, 1) := by decide +kernel
theorem dX8_become_31 : decode cX8_become 31 = .ok (.getfield 15, 3) := by decide +kernel
theorem dX8_become_34 : decode cX8_become 34 = .ok (.iconst 0, 1) := by decide +kernel
theorem dX8_become_35 : decode cX8_become 35 = .ok (.aload_n 0, 1) := by decide +kernel
theorem dX8_become_36 : decode cX8_become 36 = .ok (.getfield 15, 3) := by decide +kernel
theorem dX8_become_39 : decode cX8_become 39 = .ok (.iconst 0, 1) := by decide +kernel
theorem dX8_become_40 : decode cX8_become 40 = .ok (.iconst 4, 1) := by decide +kernel
theorem dX8_become_41 : decode cX8_become 41 = .ok (.invokestatic 31, 3) := by decide +kernel
theorem dX8_become_44 : decode cX8_become 44 = .ok (.aload_n 1, 1) := by decide +kernel
theorem dX8_become_45 : decode cX8_become 45 = .ok (.getfield 18, 3) := by decide +kernel
theorem dX8_become_48 : decode cX8_become 48 = .ok (.iconst 0, 1) := by decide +kernel
theorem dX8_become_49 : decode cX8_become 49 = .ok (.aload_n 0, 1) := by decide +kernel
theorem dX8_become_50 : decode cX8_become 50 = .ok (.getfield 18, 3) := by decide +kernel
theorem dX8_become_53 : decode cX8_become 53 = .ok (.iconst 0, 1) := by decide +kernel
theorem dX8_become_54 : decode cX8_become 54 = .ok (.iconst 4, 1) := by decide +kernel
theorem dX8_become_55 : decode cX8_become 55 = .ok (.invokestatic 31, 3) := by decide +kernel
theorem dX8_become_58 : decode cX8_become 58 = .ok (.aload_n 1, 1) := by decide +kernel
theorem dX8_become_59 : decode cX8_become 59 = .ok (.getfield 21, 3) := by decide +kernel
theorem dX8_become_62 : decode cX8_become 62 = .ok (.iconst 0, 1) := by decide +kernel
theorem dX8_become_63 : decode cX8_become 63 = .ok (.aload_n 0, 1) := by decide +kernel
theorem dX8_become_64 : decode cX8_become 64 = .ok (.getfield 21, 3) := by decide +kernel
theorem dX8_become_67 : decode cX8_become 67 = .ok (.iconst 0, 1) := by decide +kernel
theorem dX8_become_68 : decode cX8_become 68 = .ok (.bipush 8, 2) := by decide +kernel
theorem dX8_become_70 : decode cX8_become 70 = .ok (.invokestatic 31, 3) := by decide +kernel
theorem dX8_become_73 : decode cX8_become 73 = .ok (.return_, 1) := by decide +kernel
theorem dX8_open_0 : decode cX8_open 0 = .ok (.aload_n 0, 1) := by decide +kernel
theorem dX8_open_1 : decode cX8_open 1 = .ok (.iconst 0, 1) := by decide +kernel
theorem dX8_open_2 : decode cX8_open 2 = .ok (.putfield 24, 3) := by decide +kernel
theorem dX8_open_5 : decode cX8_open 5 = .ok (.aload_n 0, 1) := by decide +kernel
theorem dX8_open_6 : decode cX8_open 6 = .ok (.iconst 0, 1) := by decide +kernel
theorem dX8_open_7 : decode cX8_open 7 = .ok (.putfield 28, 3) := by decide +kernel
theorem dX8_open_10 : decode cX8_open 10 = .ok (.iconst 0, 1) := by decide +kernel
theorem dX8_open_11 : decode cX8_open 11 = .ok (.istore_n 2, 1) := by decide +kernel
theorem dX8_open_12 : decode cX8_open 12 = .ok (.iload_n 2, 1) := by decide +kernel
theorem dX8_open_13 : decode cX8_open 13 = .ok (.iconst 4, 1) := by decide +kernel
theorem dX8_open_14 : decode cX8_open 14 = .ok (.if_icmp .ge 35, 3) := by decide +kernel
theorem dX8_open_17 : decode cX8_open 17 = .ok (.aload_n 0, 1) := by decide +kernel
theorem dX8_open_18 : decode cX8_open 18 = .ok (.getfield 9, 3) := by decide +kernel
theorem dX8_open_21 : decode cX8_open 21 = .ok (.iload_n 2, 1) := by decide +kernel
theorem dX8_open_22 : decode cX8_open 22 = .ok (.aload_n 1, 1) := by decide +kernel
theorem dX8_open_23 : decode cX8_open 23 = .ok (.getfield 37, 3) := by decide +kernel
theorem dX8_open_26 : decode cX8_open 26 = .ok (.iload_n 2, 1) := by decide +kernel
theorem dX8_open_27 : decode cX8_open 27 = .ok (.iaload, 1) := by decide +kernel
theorem dX8_open_28 : decode cX8_open 28 = .ok (.iastore, 1) := by decide +kernel
theorem dX8_open_29 : decode cX8_open 29 = .ok (.aload_n 0, 1) := by decide +kernel
theorem dX8_open_30 : decode cX8_open 30 = .ok (.getfield 15, 3) := by decide +kernel
theorem dX8_open_33 : decode cX8_open 33 = .ok (.iload_n 2, 1) := by decide +kernel
theorem dX8_open_34 : decode cX8_open 34 = .ok (.iconst 0, 1) := by decide +kernel
theorem dX8_open_35 : decode cX8_open 35 = .ok (.iastore, 1) := by decide +kernel
theorem dX8_open_36 : decode cX8_open 36 = .ok (.aload_n 0, 1) := by decide +kernel
theorem dX8_open_37 : decode cX8_open 37 = .ok (.getfield 18, 3) := by decide +kernel
theorem dX8_open_40 : decode cX8_open 40 = .ok (.iload_n 2, 1) := by decide +kernel
theorem dX8_open_41 : decode cX8_open 41 = .ok (.iconst 0, 1) := by decide +kernel
theorem dX8_open_42 : decode cX8_open 42 = .ok (.iastore, 1) := by decide +kernel
theorem dX8_open_43 : decode cX8_open 43 = .ok (.iinc 2 1, 3) := by decide +kernel
theorem dX8_open_46 : decode cX8_open 46 = .ok (.goto (-34), 3) := by decide +kernel
theorem dX8_open_49 : decode cX8_open 49 = .ok (.iconst 0, 1) := by decide +kernel
theorem dX8_open_50 : decode cX8_open 50 = .ok (.istore_n 2, 1) := by decide +kernel
theorem dX8_open_51 : decode cX8_open 51 = .ok (.iload_n 2, 1) := by decide +kernel
theorem dX8_open_52 : decode cX8_open 52 = .ok (.bipush 8, 2) := by decide +kernel
theorem dX8_open_54 : decode cX8_open 54 = .ok (.if_icmp .ge 29, 3) := by decide +kernel
theorem dX8_open_57 : decode cX8_open 57 = .ok (.aload_n 0, 1) := by decide +kernel
theorem dX8_open_58 : decode cX8_open 58 = .ok (.getfield 21, 3) := by decide +kernel
theorem dX8_open_61 : decode cX8_open 61 = .ok (.iload_n 2, 1) := by decide +kernel
theorem dX8_open_62 : decode cX8_open 62 = .ok (.iload_n 2, 1) := by decide +kernel
theorem dX8_open_63 : decode cX8_open 63 = .ok (.aload_n 1, 1) := by decide +kernel
theorem dX8_open_64 : decode cX8_open 64 = .ok (.getfield 42, 3) := by decide +kernel
theorem dX8_open_67 : decode cX8_open 67 = .ok (.if_icmp .ge 7, 3) := by decide +kernel
theorem dX8_open_70 : decode cX8_open 70 = .ok (.iconst (-1), 1) := by decide +kernel
theorem dX8_open_71 : decode cX8_open 71 = .ok (.goto 5, 3) := by decide +kernel
theorem dX8_open_74 : decode cX8_open 74 = .ok (.bipush (-3), 2) := by decide +kernel
theorem dX8_open_76 : decode cX8_open 76 = .ok (.iastore, 1) := by decide +kernel
theorem dX8_open_77 : decode cX8_open 77 = .ok (.iinc 2 1, 3) := by decide +kernel
theorem dX8_open_80 : decode cX8_open 80 = .ok (.goto (-29), 3) := by decide +kernel
theorem dX8_open_83 : decode cX8_open 83 = .ok (.return_, 1) := by decide +kernel
theorem dX8_isSeat_0 : decode cX8_isSeat 0 = .ok (.iload_n 0, 1) := by decide +kernel
theorem dX8_isSeat_1 : decode cX8_isSeat 1 = .ok (.ifCond .lt 12, 3) := by decide +kernel
theorem dX8_isSeat_4 : decode cX8_isSeat 4 = .ok (.iload_n 0, 1) := by decide +kernel
theorem dX8_isSeat_5 : decode cX8_isSeat 5 = .ok (.iconst 4, 1) := by decide +kernel
theorem dX8_isSeat_6 : decode cX8_isSeat 6 = .ok (.if_icmp .ge 7, 3) := by decide +kernel
theorem dX8_isSeat_9 : decode cX8_isSeat 9 = .ok (.iconst 1, 1) := by decide +kernel
theorem dX8_isSeat_10 : decode cX8_isSeat 10 = .ok (.goto 4, 3) := by decide +kernel
theorem dX8_isSeat_13 : decode cX8_isSeat 13 = .ok (.iconst 0, 1) := by decide +kernel
theorem dX8_isSeat_14 : decode cX8_isSeat 14 = .ok (.ireturn, 1) := by decide +kernel
theorem dX8_roomOf_0 : decode cX8_roomOf 0 = .ok (.iload_n 1, 1) := by decide +kernel
theorem dX8_roomOf_1 : decode cX8_roomOf 1 = .ok (.invokestatic 45, 3) := by decide +kernel
theorem dX8_roomOf_4 : decode cX8_roomOf 4 = .ok (.ifCond .eq 12, 3) := by decide +kernel
theorem dX8_roomOf_7 : decode cX8_roomOf 7 = .ok (.aload_n 0, 1) := by decide +kernel
theorem dX8_roomOf_8 : decode cX8_roomOf 8 = .ok (.getfield 9, 3) := by decide +kernel
theorem dX8_roomOf_11 : decode cX8_roomOf 11 = .ok (.iload_n 1, 1) := by decide +kernel
theorem dX8_roomOf_12 : decode cX8_roomOf 12 = .ok (.iaload, 1) := by decide +kernel
theorem dX8_roomOf_13 : decode cX8_roomOf 13 = .ok (.goto 4, 3) := by decide +kernel
theorem dX8_roomOf_16 : decode cX8_roomOf 16 = .ok (.iconst (-1), 1) := by decide +kernel
theorem dX8_roomOf_17 : decode cX8_roomOf 17 = .ok (.ireturn, 1) := by decide +kernel
theorem dX8_routeOf_0 : decode cX8_routeOf 0 = .ok (.iload_n 1, 1) := by decide +kernel
theorem dX8_routeOf_1 : decode cX8_routeOf 1 = .ok (.invokestatic 45, 3) := by decide +kernel
theorem dX8_routeOf_4 : decode cX8_routeOf 4 = .ok (.ifCond .eq 12, 3) := by decide +kernel
theorem dX8_routeOf_7 : decode cX8_routeOf 7 = .ok (.aload_n 0, 1) := by decide +kernel
theorem dX8_routeOf_8 : decode cX8_routeOf 8 = .ok (.getfield 15, 3) := by decide +kernel
theorem dX8_routeOf_11 : decode cX8_routeOf 11 = .ok (.iload_n 1, 1) := by decide +kernel
theorem dX8_routeOf_12 : decode cX8_routeOf 12 = .ok (.iaload, 1) := by decide +kernel
theorem dX8_routeOf_13 : decode cX8_routeOf 13 = .ok (.goto 4, 3) := by decide +kernel
theorem dX8_routeOf_16 : decode cX8_routeOf 16 = .ok (.iconst 0, 1) := by decide +kernel
theorem dX8_routeOf_17 : decode cX8_routeOf 17 = .ok (.ireturn, 1) := by decide +kernel
theorem dX8_treatiesOf_0 : decode cX8_treatiesOf 0 = .ok (.iload_n 1, 1) := by decide +kernel
theorem dX8_treatiesOf_1 : decode cX8_treatiesOf 1 = .ok (.invokestatic 45, 3) := by decide +kernel
theorem dX8_treatiesOf_4 : decode cX8_treatiesOf 4 = .ok (.ifCond .eq 12, 3) := by decide +kernel
theorem dX8_treatiesOf_7 : decode cX8_treatiesOf 7 = .ok (.aload_n 0, 1) := by decide +kernel
theorem dX8_treatiesOf_8 : decode cX8_treatiesOf 8 = .ok (.getfield 18, 3) := by decide +kernel
theorem dX8_treatiesOf_11 : decode cX8_treatiesOf 11 = .ok (.iload_n 1, 1) := by decide +kernel
theorem dX8_treatiesOf_12 : decode cX8_treatiesOf 12 = .ok (.iaload, 1) := by decide +kernel
theorem dX8_treatiesOf_13 : decode cX8_treatiesOf 13 = .ok (.goto 4, 3) := by decide +kernel
theorem dX8_treatiesOf_16 : decode cX8_treatiesOf 16 = .ok (.iconst 0, 1) := by decide +kernel
theorem dX8_treatiesOf_17 : decode cX8_treatiesOf 17 = .ok (.ireturn, 1) := by decide +kernel
theorem dX8_placeOf_0 : decode cX8_placeOf 0 = .ok (.iload_n 1, 1) := by decide +kernel
theorem dX8_placeOf_1 : decode cX8_placeOf 1 = .ok (.ifCond .lt 18, 3) := by decide +kernel
theorem dX8_placeOf_4 : decode cX8_placeOf 4 = .ok (.iload_n 1, 1) := by decide +kernel
theorem dX8_placeOf_5 : decode cX8_placeOf 5 = .ok (.bipush 8, 2) := by decide +kernel
theorem dX8_placeOf_7 : decode cX8_placeOf 7 = .ok (.if_icmp .ge 12, 3) := by decide +kernel
theorem dX8_placeOf_10 : decode cX8_placeOf 10 = .ok (.aload_n 0, 1) := by decide +kernel
theorem dX8_placeOf_11 : decode cX8_placeOf 11 = .ok (.getfield 21, 3) := by decide +kernel
theorem dX8_placeOf_14 : decode cX8_placeOf 14 = .ok (.iload_n 1, 1) := by decide +kernel
theorem dX8_placeOf_15 : decode cX8_placeOf 15 = .ok (.iaload, 1) := by decide +kernel
theorem dX8_placeOf_16 : decode cX8_placeOf 16 = .ok (.goto 5, 3) := by decide +kernel
theorem dX8_placeOf_19 : decode cX8_placeOf 19 = .ok (.bipush (-3), 2) := by decide +kernel
theorem dX8_placeOf_21 : decode cX8_placeOf 21 = .ok (.ireturn, 1) := by decide +kernel
theorem dX8_bearerOf_0 : decode cX8_bearerOf 0 = .ok (.aload_n 0, 1) := by decide +kernel
theorem dX8_bearerOf_1 : decode cX8_bearerOf 1 = .ok (.iload_n 1, 1) := by decide +kernel
theorem dX8_bearerOf_2 : decode cX8_bearerOf 2 = .ok (.invokevirtual 49, 3) := by decide +kernel
theorem dX8_bearerOf_5 : decode cX8_bearerOf 5 = .ok (.istore_n 2, 1) := by decide +kernel
theorem dX8_bearerOf_6 : decode cX8_bearerOf 6 = .ok (.iload_n 2, 1) := by decide +kernel
theorem dX8_bearerOf_7 : decode cX8_bearerOf 7 = .ok (.ifCond .ge 7, 3) := by decide +kernel
theorem dX8_bearerOf_10 : decode cX8_bearerOf 10 = .ok (.iconst (-1), 1) := by decide +kernel
theorem dX8_bearerOf_11 : decode cX8_bearerOf 11 = .ok (.goto 6, 3) := by decide +kernel
theorem dX8_bearerOf_14 : decode cX8_bearerOf 14 = .ok (.iload_n 2, 1) := by decide +kernel
theorem dX8_bearerOf_15 : decode cX8_bearerOf 15 = .ok (.iconst 2, 1) := by decide +kernel
theorem dX8_bearerOf_16 : decode cX8_bearerOf 16 = .ok (.idiv, 1) := by decide +kernel
theorem dX8_bearerOf_17 : decode cX8_bearerOf 17 = .ok (.ireturn, 1) := by decide +kernel
theorem dX8_thingsAt_0 : decode cX8_thingsAt 0 = .ok (.iconst 0, 1) := by decide +kernel
theorem dX8_thingsAt_1 : decode cX8_thingsAt 1 = .ok (.istore_n 2, 1) := by decide +kernel
theorem dX8_thingsAt_2 : decode cX8_thingsAt 2 = .ok (.iconst 0, 1) := by decide +kernel
theorem dX8_thingsAt_3 : decode cX8_thingsAt 3 = .ok (.istore_n 3, 1) := by decide +kernel
theorem dX8_thingsAt_4 : decode cX8_thingsAt 4 = .ok (.iload_n 3, 1) := by decide +kernel
theorem dX8_thingsAt_5 : decode cX8_thingsAt 5 = .ok (.bipush 8, 2) := by decide +kernel
theorem dX8_thingsAt_7 : decode cX8_thingsAt 7 = .ok (.if_icmp .ge 25, 3) := by decide +kernel
theorem dX8_thingsAt_10 : decode cX8_thingsAt 10 = .ok (.aload_n 0, 1) := by decide +kernel
theorem dX8_thingsAt_11 : decode cX8_thingsAt 11 = .ok (.getfield 21, 3) := by decide +kernel
theorem dX8_thingsAt_14 : decode cX8_thingsAt 14 = .ok (.iload_n 3, 1) := by decide +kernel
theorem dX8_thingsAt_15 : decode cX8_thingsAt 15 = .ok (.iaload, 1) := by decide +kernel
theorem dX8_thingsAt_16 : decode cX8_thingsAt 16 = .ok (.iload_n 1, 1) := by decide +kernel
theorem dX8_thingsAt_17 : decode cX8_thingsAt 17 = .ok (.if_icmp .ne 9, 3) := by decide +kernel
theorem dX8_thingsAt_20 : decode cX8_thingsAt 20 = .ok (.iload_n 2, 1) := by decide +kernel
theorem dX8_thingsAt_21 : decode cX8_thingsAt 21 = .ok (.iconst 1, 1) := by decide +kernel
theorem dX8_thingsAt_22 : decode cX8_thingsAt 22 = .ok (.iload_n 3, 1) := by decide +kernel
theorem dX8_thingsAt_23 : decode cX8_thingsAt 23 = .ok (.ishl, 1) := by decide +kernel
theorem dX8_thingsAt_24 : decode cX8_thingsAt 24 = .ok (.ior, 1) := by decide +kernel
theorem dX8_thingsAt_25 : decode cX8_thingsAt 25 = .ok (.istore_n 2, 1) := by decide +kernel
theorem dX8_thingsAt_26 : decode cX8_thingsAt 26 = .ok (.iinc 3 1, 3) := by decide +kernel
theorem dX8_thingsAt_29 : decode cX8_thingsAt 29 = .ok (.goto (-25), 3) := by decide +kernel
theorem dX8_thingsAt_32 : decode cX8_thingsAt 32 = .ok (.iload_n 2, 1) := by decide +kernel
theorem dX8_thingsAt_33 : decode cX8_thingsAt 33 = .ok (.ireturn, 1) := by decide +kernel
theorem dX8_thingsOf_0 : decode cX8_thingsOf 0 = .ok (.aload_n 0, 1) := by decide +kernel
theorem dX8_thingsOf_1 : decode cX8_thingsOf 1 = .ok (.iload_n 1, 1) := by decide +kernel
theorem dX8_thingsOf_2 : decode cX8_thingsOf 2 = .ok (.iconst 0, 1) := by decide +kernel
theorem dX8_thingsOf_3 : decode cX8_thingsOf 3 = .ok (.invokestatic 53, 3) := by decide +kernel
theorem dX8_thingsOf_6 : decode cX8_thingsOf 6 = .ok (.invokevirtual 57, 3) := by decide +kernel
theorem dX8_thingsOf_9 : decode cX8_thingsOf 9 = .ok (.aload_n 0, 1) := by decide +kernel
theorem dX8_thingsOf_10 : decode cX8_thingsOf 10 = .ok (.iload_n 1, 1) := by decide +kernel
theorem dX8_thingsOf_11 : decode cX8_thingsOf 11 = .ok (.iconst 1, 1) := by decide +kernel
theorem dX8_thingsOf_12 : decode cX8_thingsOf 12 = .ok (.invokestatic 53, 3) := by decide +kernel
theorem dX8_thingsOf_15 : decode cX8_thingsOf 15 = .ok (.invokevirtual 57, 3) := by decide +kernel
theorem dX8_thingsOf_18 : decode cX8_thingsOf 18 = .ok (.ior, 1) := by decide +kernel
theorem dX8_thingsOf_19 : decode cX8_thingsOf 19 = .ok (.ireturn, 1) := by decide +kernel
theorem dX8_isAtHand_0 : decode cX8_isAtHand 0 = .ok (.aload_n 0, 1) := by decide +kernel
theorem dX8_isAtHand_1 : decode cX8_isAtHand 1 = .ok (.iload_n 1, 1) := by decide +kernel
theorem dX8_isAtHand_2 : decode cX8_isAtHand 2 = .ok (.invokevirtual 60, 3) := by decide +kernel
theorem dX8_isAtHand_5 : decode cX8_isAtHand 5 = .ok (.istore_n 3, 1) := by decide +kernel
theorem dX8_isAtHand_6 : decode cX8_isAtHand 6 = .ok (.iload_n 3, 1) := by decide +kernel
theorem dX8_isAtHand_7 : decode cX8_isAtHand 7 = .ok (.iconst (-1), 1) := by decide +kernel
theorem dX8_isAtHand_8 : decode cX8_isAtHand 8 = .ok (.if_icmp .ne 18, 3) := by decide +kernel
theorem dX8_isAtHand_11 : decode cX8_isAtHand 11 = .ok (.aload_n 0, 1) := by decide +kernel
theorem dX8_isAtHand_12 : decode cX8_isAtHand 12 = .ok (.iload_n 1, 1) := by decide +kernel
theorem dX8_isAtHand_13 : decode cX8_isAtHand 13 = .ok (.invokevirtual 49, 3) := by decide +kernel
theorem dX8_isAtHand_16 : decode cX8_isAtHand 16 = .ok (.iconst (-1), 1) := by decide +kernel
theorem dX8_isAtHand_17 : decode cX8_isAtHand 17 = .ok (.if_icmp .ne 7, 3) := by decide +kernel
theorem dX8_isAtHand_20 : decode cX8_isAtHand 20 = .ok (.iconst 1, 1) := by decide +kernel
theorem dX8_isAtHand_21 : decode cX8_isAtHand 21 = .ok (.goto 4, 3) := by decide +kernel
theorem dX8_isAtHand_24 : decode cX8_isAtHand 24 = .ok (.iconst 0, 1) := by decide +kernel
theorem dX8_isAtHand_25 : decode cX8_isAtHand 25 = .ok (.ireturn, 1) := by decide +kernel
theorem dX8_isAtHand_26 : decode cX8_isAtHand 26 = .ok (.iload_n 3, 1) := by decide +kernel
theorem dX8_isAtHand_27 : decode cX8_isAtHand 27 = .ok (.iload_n 2, 1) := by decide +kernel
theorem dX8_isAtHand_28 : decode cX8_isAtHand 28 = .ok (.if_icmp .eq 20, 3) := by decide +kernel
theorem dX8_isAtHand_31 : decode cX8_isAtHand 31 = .ok (.aload_n 0, 1) := by decide +kernel
theorem dX8_isAtHand_32 : decode cX8_isAtHand 32 = .ok (.iload_n 3, 1) := by decide +kernel
theorem dX8_isAtHand_33 : decode cX8_isAtHand 33 = .ok (.invokevirtual 63, 3) := by decide +kernel
theorem dX8_isAtHand_36 : decode cX8_isAtHand 36 = .ok (.aload_n 0, 1) := by decide +kernel
theorem dX8_isAtHand_37 : decode cX8_isAtHand 37 = .ok (.iload_n 2, 1) := by decide +kernel
theorem dX8_isAtHand_38 : decode cX8_isAtHand 38 = .ok (.invokevirtual 63, 3) := by decide +kernel
theorem dX8_isAtHand_41 : decode cX8_isAtHand 41 = .ok (.if_icmp .ne 7, 3) := by decide +kernel
theorem dX8_isAtHand_44 : decode cX8_isAtHand 44 = .ok (.iconst 1, 1) := by decide +kernel
theorem dX8_isAtHand_45 : decode cX8_isAtHand 45 = .ok (.goto 4, 3) := by decide +kernel
theorem dX8_isAtHand_48 : decode cX8_isAtHand 48 = .ok (.iconst 0, 1) := by decide +kernel
theorem dX8_isAtHand_49 : decode cX8_isAtHand 49 = .ok (.ireturn, 1) := by decide +kernel
theorem dX8_put_0 : decode cX8_put 0 = .ok (.iload_n 1, 1) := by decide +kernel
theorem dX8_put_1 : decode cX8_put 1 = .ok (.ifCond .lt 16, 3) := by decide +kernel
theorem dX8_put_4 : decode cX8_put 4 = .ok (.iload_n 1, 1) := by decide +kernel
theorem dX8_put_5 : decode cX8_put 5 = .ok (.bipush 8, 2) := by decide +kernel
theorem dX8_put_7 : decode cX8_put 7 = .ok (.if_icmp .ge 10, 3) := by decide +kernel
theorem dX8_put_10 : decode cX8_put 10 = .ok (.aload_n 0, 1) := by decide +kernel
theorem dX8_put_11 : decode cX8_put 11 = .ok (.getfield 21, 3) := by decide +kernel
theorem dX8_put_14 : decode cX8_put 14 = .ok (.iload_n 1, 1) := by decide +kernel
theorem dX8_put_15 : decode cX8_put 15 = .ok (.iload_n 2, 1) := by decide +kernel
theorem dX8_put_16 : decode cX8_put 16 = .ok (.iastore, 1) := by decide +kernel
theorem dX8_put_17 : decode cX8_put 17 = .ok (.return_, 1) := by decide +kernel
theorem dX8_setRoute_0 : decode cX8_setRoute 0 = .ok (.iload_n 1, 1) := by decide +kernel
theorem dX8_setRoute_1 : decode cX8_setRoute 1 = .ok (.invokestatic 45, 3) := by decide +kernel
theorem dX8_setRoute_4 : decode cX8_setRoute 4 = .ok (.ifCond .eq 10, 3) := by decide +kernel
theorem dX8_setRoute_7 : decode cX8_setRoute 7 = .ok (.aload_n 0, 1) := by decide +kernel
theorem dX8_setRoute_8 : decode cX8_setRoute 8 = .ok (.getfield 15, 3) := by decide +kernel
theorem dX8_setRoute_11 : decode cX8_setRoute 11 = .ok (.iload_n 1, 1) := by decide +kernel
theorem dX8_setRoute_12 : decode cX8_setRoute 12 = .ok (.iload_n 2, 1) := by decide +kernel
theorem dX8_setRoute_13 : decode cX8_setRoute 13 = .ok (.iastore, 1) := by decide +kernel
theorem dX8_setRoute_14 : decode cX8_setRoute 14 = .ok (.return_, 1) := by decide +kernel
theorem dX8_setTreaty_0 : decode cX8_setTreaty 0 = .ok (.iload_n 1, 1) := by decide +kernel
theorem dX8_setTreaty_1 : decode cX8_setTreaty 1 = .ok (.invokestatic 45, 3) := by decide +kernel
theorem dX8_setTreaty_4 : decode cX8_setTreaty 4 = .ok (.ifCond .eq 45, 3) := by decide +kernel
theorem dX8_setTreaty_7 : decode cX8_setTreaty 7 = .ok (.iload_n 2, 1) := by decide +kernel
theorem dX8_setTreaty_8 : decode cX8_setTreaty 8 = .ok (.invokestatic 45, 3) := by decide +kernel
theorem dX8_setTreaty_11 : decode cX8_setTreaty 11 = .ok (.ifCond .eq 38, 3) := by decide +kernel
theorem dX8_setTreaty_14 : decode cX8_setTreaty 14 = .ok (.aload_n 0, 1) := by decide +kernel
theorem dX8_setTreaty_15 : decode cX8_setTreaty 15 = .ok (.getfield 18, 3) := by decide +kernel
theorem dX8_setTreaty_18 : decode cX8_setTreaty 18 = .ok (.iload_n 1, 1) := by decide +kernel
theorem dX8_setTreaty_19 : decode cX8_setTreaty 19 = .ok (.iload_n 3, 1) := by decide +kernel
theorem dX8_setTreaty_20 : decode cX8_setTreaty 20 = .ok (.ifCond .eq 16, 3) := by decide +kernel
theorem dX8_setTreaty_23 : decode cX8_setTreaty 23 = .ok (.aload_n 0, 1) := by decide +kernel
theorem dX8_setTreaty_24 : decode cX8_setTreaty 24 = .ok (.getfield 18, 3) := by decide +kernel
theorem dX8_setTreaty_27 : decode cX8_setTreaty 27 = .ok (.iload_n 1, 1) := by decide +kernel
theorem dX8_setTreaty_28 : decode cX8_setTreaty 28 = .ok (.iaload, 1) := by decide +kernel
theorem dX8_setTreaty_29 : decode cX8_setTreaty 29 = .ok (.iconst 1, 1) := by decide +kernel
theorem dX8_setTreaty_30 : decode cX8_setTreaty 30 = .ok (.iload_n 2, 1) := by decide +kernel
theorem dX8_setTreaty_31 : decode cX8_setTreaty 31 = .ok (.ishl, 1) := by decide +kernel
theorem dX8_setTreaty_32 : decode cX8_setTreaty 32 = .ok (.ior, 1) := by decide +kernel
theorem dX8_setTreaty_33 : decode cX8_setTreaty 33 = .ok (.goto 15, 3) := by decide +kernel
theorem dX8_setTreaty_36 : decode cX8_setTreaty 36 = .ok (.aload_n 0, 1) := by decide +kernel
theorem dX8_setTreaty_37 : decode cX8_setTreaty 37 = .ok (.getfield 18, 3) := by decide +kernel
theorem dX8_setTreaty_40 : decode cX8_setTreaty 40 = .ok (.iload_n 1, 1) := by decide +kernel
theorem dX8_setTreaty_41 : decode cX8_setTreaty 41 = .ok (.iaload, 1) := by decide +kernel
theorem dX8_setTreaty_42 : decode cX8_setTreaty 42 = .ok (.iconst 1, 1) := by decide +kernel
theorem dX8_setTreaty_43 : decode cX8_setTreaty 43 = .ok (.iload_n 2, 1) := by decide +kernel
theorem dX8_setTreaty_44 : decode cX8_setTreaty 44 = .ok (.ishl, 1) := by decide +kernel
theorem dX8_setTreaty_45 : decode cX8_setTreaty 45 = .ok (.iconst (-1), 1) := by decide +kernel
theorem dX8_setTreaty_46 : decode cX8_setTreaty 46 = .ok (.ixor, 1) := by decide +kernel
theorem dX8_setTreaty_47 : decode cX8_setTreaty 47 = .ok (.iand, 1) := by decide +kernel
theorem dX8_setTreaty_48 : decode cX8_setTreaty 48 = .ok (.iastore, 1) := by decide +kernel
theorem dX8_setTreaty_49 : decode cX8_setTreaty 49 = .ok (.return_, 1) := by decide +kernel
theorem dX8_step_0 : decode cX8_step 0 = .ok (.iload_n 1, 1) := by decide +kernel
theorem dX8_step_1 : decode cX8_step 1 = .ok (.invokestatic 45, 3) := by decide +kernel
theorem dX8_step_4 : decode cX8_step 4 = .ok (.ifCond .eq 40, 3) := by decide +kernel
theorem dX8_step_7 : decode cX8_step 7 = .ok (.aload_n 0, 1) := by decide +kernel
theorem dX8_step_8 : decode cX8_step 8 = .ok (.getfield 15, 3) := by decide +kernel
theorem dX8_step_11 : decode cX8_step 11 = .ok (.iload_n 1, 1) := by decide +kernel
theorem dX8_step_12 : decode cX8_step 12 = .ok (.iaload, 1) := by decide +kernel
theorem dX8_step_13 : decode cX8_step 13 = .ok (.ifCond .le 31, 3) := by decide +kernel
theorem dX8_step_16 : decode cX8_step 16 = .ok (.aload_n 0, 1) := by decide +kernel
theorem dX8_step_17 : decode cX8_step 17 = .ok (.getfield 9, 3) := by decide +kernel
theorem dX8_step_20 : decode cX8_step 20 = .ok (.iload_n 1, 1) := by decide +kernel
theorem dX8_step_21 : decode cX8_step 21 = .ok (.aload_n 0, 1) := by decide +kernel
theorem dX8_step_22 : decode cX8_step 22 = .ok (.getfield 15, 3) := by decide +kernel
theorem dX8_step_25 : decode cX8_step 25 = .ok (.iload_n 1, 1) := by decide +kernel
theorem dX8_step_26 : decode cX8_step 26 = .ok (.iaload, 1) := by decide +kernel
theorem dX8_step_27 : decode cX8_step 27 = .ok (.bipush 10, 2) := by decide +kernel
theorem dX8_step_29 : decode cX8_step 29 = .ok (.irem, 1) := by decide +kernel
theorem dX8_step_30 : decode cX8_step 30 = .ok (.iconst 1, 1) := by decide +kernel
theorem dX8_step_31 : decode cX8_step 31 = .ok (.isub, 1) := by decide +kernel
theorem dX8_step_32 : decode cX8_step 32 = .ok (.iastore, 1) := by decide +kernel
theorem dX8_step_33 : decode cX8_step 33 = .ok (.aload_n 0, 1) := by decide +kernel
theorem dX8_step_34 : decode cX8_step 34 = .ok (.getfield 15, 3) := by decide +kernel
theorem dX8_step_37 : decode cX8_step 37 = .ok (.iload_n 1, 1) := by decide +kernel
theorem dX8_step_38 : decode cX8_step 38 = .ok (.dup2, 1) := by decide +kernel
theorem dX8_step_39 : decode cX8_step 39 = .ok (.iaload, 1) := by decide +kernel
theorem dX8_step_40 : decode cX8_step 40 = .ok (.bipush 10, 2) := by decide +kernel
theorem dX8_step_42 : decode cX8_step 42 = .ok (.idiv, 1) := by decide +kernel
theorem dX8_step_43 : decode cX8_step 43 = .ok (.iastore, 1) := by decide +kernel
theorem dX8_step_44 : decode cX8_step 44 = .ok (.return_, 1) := by decide +kernel
theorem dX8_roomAfter_0 : decode cX8_roomAfter 0 = .ok (.aload_n 0, 1) := by decide +kernel
theorem dX8_roomAfter_1 : decode cX8_roomAfter 1 = .ok (.iload_n 1, 1) := by decide +kernel
theorem dX8_roomAfter_2 : decode cX8_roomAfter 2 = .ok (.invokevirtual 63, 3) := by decide +kernel
theorem dX8_roomAfter_5 : decode cX8_roomAfter 5 = .ok (.istore_n 3, 1) := by decide +kernel
theorem dX8_roomAfter_6 : decode cX8_roomAfter 6 = .ok (.aload_n 0, 1) := by decide +kernel
theorem dX8_roomAfter_7 : decode cX8_roomAfter 7 = .ok (.iload_n 1, 1) := by decide +kernel
theorem dX8_roomAfter_8 : decode cX8_roomAfter 8 = .ok (.invokevirtual 66, 3) := by decide +kernel
theorem dX8_roomAfter_11 : decode cX8_roomAfter 11 = .ok (.istore 4, 2) := by decide +kernel
theorem dX8_roomAfter_13 : decode cX8_roomAfter 13 = .ok (.iconst 0, 1) := by decide +kernel
theorem dX8_roomAfter_14 : decode cX8_roomAfter 14 = .ok (.istore 5, 2) := by decide +kernel
theorem dX8_roomAfter_16 : decode cX8_roomAfter 16 = .ok (.iload 5, 2) := by decide +kernel
theorem dX8_roomAfter_18 : decode cX8_roomAfter 18 = .ok (.iload_n 2, 1) := by decide +kernel
theorem dX8_roomAfter_19 : decode cX8_roomAfter 19 = .ok (.if_icmp .ge 29, 3) := by decide +kernel
theorem dX8_roomAfter_22 : decode cX8_roomAfter 22 = .ok (.iload 4, 2) := by decide +kernel
theorem dX8_roomAfter_24 : decode cX8_roomAfter 24 = .ok (.ifCond .le 24, 3) := by decide +kernel
theorem dX8_roomAfter_27 : decode cX8_roomAfter 27 = .ok (.iload 4, 2) := by decide +kernel
theorem dX8_roomAfter_29 : decode cX8_roomAfter 29 = .ok (.bipush 10, 2) := by decide +kernel
theorem dX8_roomAfter_31 : decode cX8_roomAfter 31 = .ok (.irem, 1) := by decide +kernel
theorem dX8_roomAfter_32 : decode cX8_roomAfter 32 = .ok (.iconst 1, 1) := by decide +kernel
theorem dX8_roomAfter_33 : decode cX8_roomAfter 33 = .ok (.isub, 1) := by decide +kernel
theorem dX8_roomAfter_34 : decode cX8_roomAfter 34 = .ok (.istore_n 3, 1) := by decide +kernel
theorem dX8_roomAfter_35 : decode cX8_roomAfter 35 = .ok (.iload 4, 2) := by decide +kernel
theorem dX8_roomAfter_37 : decode cX8_roomAfter 37 = .ok (.bipush 10, 2) := by decide +kernel
theorem dX8_roomAfter_39 : decode cX8_roomAfter 39 = .ok (.idiv, 1) := by decide +kernel
theorem dX8_roomAfter_40 : decode cX8_roomAfter 40 = .ok (.istore 4, 2) := by decide +kernel
theorem dX8_roomAfter_42 : decode cX8_roomAfter 42 = .ok (.iinc 5 1, 3) := by decide +kernel
theorem dX8_roomAfter_45 : decode cX8_roomAfter 45 = .ok (.goto (-29), 3) := by decide +kernel
theorem dX8_roomAfter_48 : decode cX8_roomAfter 48 = .ok (.iload_n 3, 1) := by decide +kernel
theorem dX8_roomAfter_49 : decode cX8_roomAfter 49 = .ok (.ireturn, 1) := by decide +kernel
theorem dX8_roomsCameTo_0 : decode cX8_roomsCameTo 0 = .ok (.iconst 0, 1) := by decide +kernel
theorem dX8_roomsCameTo_1 : decode cX8_roomsCameTo 1 = .ok (.istore_n 3, 1) := by decide +kernel
theorem dX8_roomsCameTo_2 : decode cX8_roomsCameTo 2 = .ok (.aload_n 0, 1) := by decide +kernel
theorem dX8_roomsCameTo_3 : decode cX8_roomsCameTo 3 = .ok (.iload_n 1, 1) := by decide +kernel
theorem dX8_roomsCameTo_4 : decode cX8_roomsCameTo 4 = .ok (.invokevirtual 66, 3) := by decide +kernel
theorem dX8_roomsCameTo_7 : decode cX8_roomsCameTo 7 = .ok (.istore 4, 2) := by decide +kernel
theorem dX8_roomsCameTo_9 : decode cX8_roomsCameTo 9 = .ok (.iconst 0, 1) := by decide +kernel
theorem dX8_roomsCameTo_10 : decode cX8_roomsCameTo 10 = .ok (.istore 5, 2) := by decide +kernel
theorem dX8_roomsCameTo_12 : decode cX8_roomsCameTo 12 = .ok (.iload 5, 2) := by decide +kernel
theorem dX8_roomsCameTo_14 : decode cX8_roomsCameTo 14 = .ok (.iload_n 2, 1) := by decide +kernel
theorem dX8_roomsCameTo_15 : decode cX8_roomsCameTo 15 = .ok (.if_icmp .ge 33, 3) := by decide +kernel
theorem dX8_roomsCameTo_18 : decode cX8_roomsCameTo 18 = .ok (.iload 4, 2) := by decide +kernel
theorem dX8_roomsCameTo_20 : decode cX8_roomsCameTo 20 = .ok (.ifCond .le 28, 3) := by decide +kernel
theorem dX8_roomsCameTo_23 : decode cX8_roomsCameTo 23 = .ok (.iload_n 3, 1) := by decide +kernel
theorem dX8_roomsCameTo_24 : decode cX8_roomsCameTo 24 = .ok (.iconst 1, 1) := by decide +kernel
theorem dX8_roomsCameTo_25 : decode cX8_roomsCameTo 25 = .ok (.iload 4, 2) := by decide +kernel
theorem dX8_roomsCameTo_27 : decode cX8_roomsCameTo 27 = .ok (.bipush 10, 2) := by decide +kernel
theorem dX8_roomsCameTo_29 : decode cX8_roomsCameTo 29 = .ok (.irem, 1) := by decide +kernel
theorem dX8_roomsCameTo_30 : decode cX8_roomsCameTo 30 = .ok (.iconst 1, 1) := by decide +kernel
theorem dX8_roomsCameTo_31 : decode cX8_roomsCameTo 31 = .ok (.isub, 1) := by decide +kernel
theorem dX8_roomsCameTo_32 : decode cX8_roomsCameTo 32 = .ok (.ishl, 1) := by decide +kernel
theorem dX8_roomsCameTo_33 : decode cX8_roomsCameTo 33 = .ok (.ior, 1) := by decide +kernel
theorem dX8_roomsCameTo_34 : decode cX8_roomsCameTo 34 = .ok (.istore_n 3, 1) := by decide +kernel
theorem dX8_roomsCameTo_35 : decode cX8_roomsCameTo 35 = .ok (.iload 4, 2) := by decide +kernel
theorem dX8_roomsCameTo_37 : decode cX8_roomsCameTo 37 = .ok (.bipush 10, 2) := by decide +kernel
theorem dX8_roomsCameTo_39 : decode cX8_roomsCameTo 39 = .ok (.idiv, 1) := by decide +kernel
theorem dX8_roomsCameTo_40 : decode cX8_roomsCameTo 40 = .ok (.istore 4, 2) := by decide +kernel
theorem dX8_roomsCameTo_42 : decode cX8_roomsCameTo 42 = .ok (.iinc 5 1, 3) := by decide +kernel
theorem dX8_roomsCameTo_45 : decode cX8_roomsCameTo 45 = .ok (.goto (-33), 3) := by decide +kernel
theorem dX8_roomsCameTo_48 : decode cX8_roomsCameTo 48 = .ok (.iload_n 3, 1) := by decide +kernel
theorem dX8_roomsCameTo_49 : decode cX8_roomsCameTo 49 = .ok (.ireturn, 1) := by decide +kernel
theorem dX9_init_0 : decode cX9_init 0 = .ok (.aload_n 0, 1) := by decide +kernel
theorem dX9_init_1 : decode cX9_init 1 = .ok (.invokespecial 1, 3) := by decide +kernel
theorem dX9_init_4 : decode cX9_init 4 = .ok (.new 7, 3) := by decide +kernel
theorem dX9_init_7 : decode cX9_init 7 = .ok (.dup, 1) := by decide +kernel
theorem dX9_init_8 : decode cX9_init 8 = .ok (.invokespecial 9, 3) := by decide +kernel
theorem dX9_init_11 : decode cX9_init 11 = .ok (.astore_n 1, 1) := by decide +kernel
theorem dX9_init_12 : decode cX9_init 12 = .ok (.new 10, 3) := by decide +kernel
theorem dX9_init_15 : decode cX9_init 15 = .ok (.dup, 1) := by decide +kernel
theorem dX9_init_16 : decode cX9_init 16 = .ok (.invokespecial 12, 3) := by decide +kernel
theorem dX9_init_19 : decode cX9_init 19 = .ok (.astore_n 2, 1) := by decide +kernel
theorem dX9_init_20 : decode cX9_init 20 = .ok (.iconst 2, 1) := by decide +kernel
theorem dX9_init_21 : decode cX9_init 21 = .ok (.anewarray 15, 3) := by decide +kernel
theorem dX9_init_24 : decode cX9_init 24 = .ok (.astore_n 3, 1) := by decide +kernel
theorem dX9_init_25 : decode cX9_init 25 = .ok (.iconst 0, 1) := by decide +kernel
theorem dX9_init_26 : decode cX9_init 26 = .ok (.istore 4, 2) := by decide +kernel
theorem dX9_init_28 : decode cX9_init 28 = .ok (.iload 4, 2) := by decide +kernel
theorem dX9_init_30 : decode cX9_init 30 = .ok (.iconst 2, 1) := by decide +kernel
theorem dX9_init_31 : decode cX9_init 31 = .ok (.if_icmp .ge 20, 3) := by decide +kernel
theorem dX9_init_34 : decode cX9_init 34 = .ok (.aload_n 3, 1) := by decide +kernel
theorem dX9_init_35 : decode cX9_init 35 = .ok (.iload 4, 2) := by decide +kernel
theorem dX9_init_37 : decode cX9_init 37 = .ok (.new 15, 3) := by decide +kernel
theorem dX9_init_40 : decode cX9_init 40 = .ok (.dup, 1) := by decide +kernel
theorem dX9_init_41 : decode cX9_init 41 = .ok (.invokespecial 17, 3) := by decide +kernel
theorem dX9_init_44 : decode cX9_init 44 = .ok (.aastore, 1) := by decide +kernel
theorem dX9_init_45 : decode cX9_init 45 = .ok (.iinc 4 1, 3) := by decide +kernel
theorem dX9_init_48 : decode cX9_init 48 = .ok (.goto (-20), 3) := by decide +kernel
theorem dX9_init_51 : decode cX9_init 51 = .ok (.aload_n 0, 1) := by decide +kernel
theorem dX9_init_52 : decode cX9_init 52 = .ok (.new 18, 3) := by decide +kernel
theorem dX9_init_55 : decode cX9_init 55 = .ok (.dup, 1) := by decide +kernel
theorem dX9_init_56 : decode cX9_init 56 = .ok (.invokespecial 20, 3) := by decide +kernel
theorem dX9_init_59 : decode cX9_init 59 = .ok (.putfield 21, 3) := by decide +kernel
theorem dX9_init_62 : decode cX9_init 62 = .ok (.aload_n 0, 1) := by decide +kernel
theorem dX9_init_63 : decode cX9_init 63 = .ok (.aload_n 1, 1) := by decide +kernel
theorem dX9_init_64 : decode cX9_init 64 = .ok (.putfield 25, 3) := by decide +kernel
theorem dX9_init_67 : decode cX9_init 67 = .ok (.aload_n 0, 1) := by decide +kernel
theorem dX9_init_68 : decode cX9_init 68 = .ok (.aload_n 2, 1) := by decide +kernel
theorem dX9_init_69 : decode cX9_init 69 = .ok (.putfield 29, 3) := by decide +kernel
theorem dX9_init_72 : decode cX9_init 72 = .ok (.aload_n 0, 1) := by decide +kernel
theorem dX9_init_73 : decode cX9_init 73 = .ok (.new 33, 3) := by decide +kernel
theorem dX9_init_76 : decode cX9_init 76 = .ok (.dup, 1) := by decide +kernel
theorem dX9_init_77 : decode cX9_init 77 = .ok (.invokespecial 35, 3) := by decide +kernel
theorem dX9_init_80 : decode cX9_init 80 = .ok (.putfield 36, 3) := by decide +kernel
theorem dX9_init_83 : decode cX9_init 83 = .ok (.aload_n 0, 1) := by decide +kernel
theorem dX9_init_84 : decode cX9_init 84 = .ok (.new 40, 3) := by decide +kernel
theorem dX9_init_87 : decode cX9_init 87 = .ok (.dup, 1) := by decide +kernel
theorem dX9_init_88 : decode cX9_init 88 = .ok (.aload_n 1, 1) := by decide +kernel
theorem dX9_init_89 : decode cX9_init 89 = .ok (.aload_n 2, 1) := by decide +kernel
theorem dX9_init_90 : decode cX9_init 90 = .ok (.invokespecial 42, 3) := by decide +kernel
theorem dX9_init_93 : decode cX9_init 93 = .ok (.putfield 45, 3) := by decide +kernel
theorem dX9_init_96 : decode cX9_init 96 = .ok (.aload_n 0, 1) := by decide +kernel
theorem dX9_init_97 : decode cX9_init 97 = .ok (.new 49, 3) := by decide +kernel
theorem dX9_init_100 : decode cX9_init 100 = .ok (.dup, 1) := by decide +kernel
theorem dX9_init_101 : decode cX9_init 101 = .ok (.aload_n 1, 1) := by decide +kernel
theorem dX9_init_102 : decode cX9_init 102 = .ok (.aload_n 2, 1) := by decide +kernel
theorem dX9_init_103 : decode cX9_init 103 = .ok (.invokespecial 51, 3) := by decide +kernel
theorem dX9_init_106 : decode cX9_init 106 = .ok (.putfield 52, 3) := by decide +kernel
theorem dX9_init_109 : decode cX9_init 109 = .ok (.aload_n 0, 1) := by decide +kernel
theorem dX9_init_110 : decode cX9_init 110 = .ok (.new 56, 3) := by decide +kernel
theorem dX9_init_113 : decode cX9_init 113 = .ok (.dup, 1) := by decide +kernel
theorem dX9_init_114 : decode cX9_init 114 = .ok (.aload_n 1, 1) := by decide +kernel
theorem dX9_init_115 : decode cX9_init 115 = .ok (.aload_n 2, 1) := by decide +kernel
theorem dX9_init_116 : decode cX9_init 116 = .ok (.invokespecial 58, 3) := by decide +kernel
theorem dX9_init_119 : decode cX9_init 119 = .ok (.putfield 59, 3) := by decide +kernel
theorem dX9_init_122 : decode cX9_init 122 = .ok (.aload_n 0, 1) := by decide +kernel
theorem dX9_init_123 : decode cX9_init 123 = .ok (.new 63, 3) := by decide +kernel
theorem dX9_init_126 : decode cX9_init 126 = .ok (.dup, 1) := by decide +kernel
theorem dX9_init_127 : decode cX9_init 127 = .ok (.aload_n 1, 1) := by decide +kernel
theorem dX9_init_128 : decode cX9_init 128 = .ok (.aload_n 2, 1) := by decide +kernel
theorem dX9_init_129 : decode cX9_init 129 = .ok (.invokespecial 65, 3) := by decide +kernel
theorem dX9_init_132 : decode cX9_init 132 = .ok (.putfield 66, 3) := by decide +kernel
theorem dX9_init_135 : decode cX9_init 135 = .ok (.aload_n 0, 1) := by decide +kernel
theorem dX9_init_136 : decode cX9_init 136 = .ok (.aload_n 3, 1) := by decide +kernel
theorem dX9_init_137 : decode cX9_init 137 = .ok (.putfield 70, 3) := by decide +kernel
theorem dX9_init_140 : decode cX9_init 140 = .ok (.return_, 1) := by decide +kernel
theorem dX9_feed_0 : decode cX9_feed 0 = .ok (.iload_n 1, 1) := by decide +kernel
theorem dX9_feed_1 : decode cX9_feed 1 = .ok (.ifCond .lt 10, 3) := by decide +kernel
theorem dX9_feed_4 : decode cX9_feed 4 = .ok (.iload_n 1, 1) := by decide +kernel
theorem dX9_feed_5 : decode cX9_feed 5 = .ok (.sipush 255, 3) := by decide +kernel
theorem dX9_feed_8 : decode cX9_feed 8 = .ok (.if_icmp .le 6, 3) := by decide +kernel
theorem dX9_feed_11 : decode cX9_feed 11 = .ok (.ldc 74, 2) := by decide +kernel
theorem dX9_feed_13 : decode cX9_feed 13 = .ok (.ireturn, 1) := by decide +kernel
theorem dX9_feed_14 : decode cX9_feed 14 = .ok (.aload_n 0, 1) := by decide +kernel
theorem dX9_feed_15 : decode cX9_feed 15 = .ok (.getfield 21, 3) := by decide +kernel
theorem dX9_feed_18 : decode cX9_feed 18 = .ok (.iload_n 1, 1) := by decide +kernel
theorem dX9_feed_19 : decode cX9_feed 19 = .ok (.invokevirtual 75, 3) := by decide +kernel
theorem dX9_feed_22 : decode cX9_feed 22 = .ok (.ifCond .eq 13, 3) := by decide +kernel
theorem dX9_feed_25 : decode cX9_feed 25 = .ok (.aload_n 0, 1) := by decide +kernel
theorem dX9_feed_26 : decode cX9_feed 26 = .ok (.getfield 21, 3) := by decide +kernel
theorem dX9_feed_29 : decode cX9_feed 29 = .ok (.getfield 79, 3) := by decide +kernel
theorem dX9_feed_32 : decode cX9_feed 32 = .ok (.goto 5, 3) := by decide +kernel
theorem dX9_feed_35 : decode cX9_feed 35 = .ok (.ldc 83, 2) := by decide +kernel
theorem dX9_feed_37 : decode cX9_feed 37 = .ok (.ireturn, 1) := by decide +kernel
theorem dX9_hotel_0 : decode cX9_hotel 0 = .ok (.aload_n 0, 1) := by decide +kernel
theorem dX9_hotel_1 : decode cX9_hotel 1 = .ok (.getfield 21, 3) := by decide +kernel
theorem dX9_hotel_4 : decode cX9_hotel 4 = .ok (.invokevirtual 84, 3) := by decide +kernel
theorem dX9_hotel_7 : decode cX9_hotel 7 = .ok (.istore_n 1, 1) := by decide +kernel
theorem dX9_hotel_8 : decode cX9_hotel 8 = .ok (.iload_n 1, 1) := by decide +kernel
theorem dX9_hotel_9 : decode cX9_hotel 9 = .ok (.ifCond .eq 8, 3) := by decide +kernel
theorem dX9_hotel_12 : decode cX9_hotel 12 = .ok (.bipush (-10), 2) := by decide +kernel
theorem dX9_hotel_14 : decode cX9_hotel 14 = .ok (.iload_n 1, 1) := by decide +kernel
theorem dX9_hotel_15 : decode cX9_hotel 15 = .ok (.isub, 1) := by decide +kernel
theorem dX9_hotel_16 : decode cX9_hotel 16 = .ok (.ireturn, 1) := by decide +kernel
theorem dX9_hotel_17 : decode cX9_hotel 17 = .ok (.aload_n 0, 1) := by decide +kernel
theorem dX9_hotel_18 : decode cX9_hotel 18 = .ok (.getfield 25, 3) := by decide +kernel
theorem dX9_hotel_21 : decode cX9_hotel 21 = .ok (.aload_n 0, 1) := by decide +kernel
theorem dX9_hotel_22 : decode cX9_hotel 22 = .ok (.getfield 21, 3) := by decide +kernel
theorem dX9_hotel_25 : decode cX9_hotel 25 = .ok (.getfield 88, 3) := by decide +kernel
theorem dX9_hotel_28 : decode cX9_hotel 28 = .ok (.invokevirtual 91, 3) := by decide +kernel
theorem dX9_hotel_31 : decode cX9_hotel 31 = .ok (.aload_n 0, 1) := by decide +kernel
theorem dX9_hotel_32 : decode cX9_hotel 32 = .ok (.getfield 29, 3) := by decide +kernel
theorem dX9_hotel_35 : decode cX9_hotel 35 = .ok (.aload_n 0, 1) := by decide +kernel
theorem dX9_hotel_36 : decode cX9_hotel 36 = .ok (.getfield 25, 3) := by decide +kernel
theorem dX9_hotel_39 : decode cX9_hotel 39 = .ok (.invokevirtual 95, 3) := by decide +kernel
theorem dX9_hotel_42 : decode cX9_hotel 42 = .ok (.aload_n 0, 1) := by decide +kernel
theorem dX9_hotel_43 : decode cX9_hotel 43 = .ok (.getfield 36, 3) := by decide +kernel
theorem dX9_hotel_46 : decode cX9_hotel 46 = .ok (.invokevirtual 98, 3) := by decide +kernel
theorem dX9_hotel_49 : decode cX9_hotel 49 = .ok (.aload_n 0, 1) := by decide +kernel
theorem dX9_hotel_50 : decode cX9_hotel 50 = .ok (.getfield 66, 3) := by decide +kernel
theorem dX9_hotel_53 : decode cX9_hotel 53 = .ok (.invokevirtual 101, 3) := by decide +kernel
theorem dX9_hotel_56 : decode cX9_hotel 56 = .ok (.iconst 0, 1) := by decide +kernel
theorem dX9_hotel_57 : decode cX9_hotel 57 = .ok (.istore_n 2, 1) := by decide +kernel
theorem dX9_hotel_58 : decode cX9_hotel 58 = .ok (.iload_n 2, 1) := by decide +kernel
theorem dX9_hotel_59 : decode cX9_hotel 59 = .ok (.aload_n 0, 1) := by decide +kernel
theorem dX9_hotel_60 : decode cX9_hotel 60 = .ok (.getfield 70, 3) := by decide +kernel
theorem dX9_hotel_63 : decode cX9_hotel 63 = .ok (.arraylength, 1) := by decide +kernel
theorem dX9_hotel_64 : decode cX9_hotel 64 = .ok (.if_icmp .ge 19, 3) := by decide +kernel
theorem dX9_hotel_67 : decode cX9_hotel 67 = .ok (.aload_n 0, 1) := by decide +kernel
theorem dX9_hotel_68 : decode cX9_hotel 68 = .ok (.getfield 70, 3) := by decide +kernel
theorem dX9_hotel_71 : decode cX9_hotel 71 = .ok (.iload_n 2, 1) := by decide +kernel
theorem dX9_hotel_72 : decode cX9_hotel 72 = .ok (.aaload, 1) := by decide +kernel
theorem dX9_hotel_73 : decode cX9_hotel 73 = .ok (.iconst 0, 1) := by decide +kernel
theorem dX9_hotel_74 : decode cX9_hotel 74 = .ok (.putfield 104, 3) := by decide +kernel
theorem dX9_hotel_77 : decode cX9_hotel 77 = .ok (.iinc 2 1, 3) := by decide +kernel
theorem dX9_hotel_80 : decode cX9_hotel 80 = .ok (.goto (-22), 3) := by decide +kernel
theorem dX9_hotel_83 : decode cX9_hotel 83 = .ok (.aload_n 0, 1) := by decide +kernel
theorem dX9_hotel_84 : decode cX9_hotel 84 = .ok (.getfield 25, 3) := by decide +kernel
theorem dX9_hotel_87 : decode cX9_hotel 87 = .ok (.getfield 108, 3) := by decide +kernel
theorem dX9_hotel_90 : decode cX9_hotel 90 = .ok (.ireturn, 1) := by decide +kernel
theorem dX9_fault_0 : decode cX9_fault 0 = .ok (.aload_n 0, 1) := by decide +kernel
theorem dX9_fault_1 : decode cX9_fault 1 = .ok (.getfield 21, 3) := by decide +kernel
theorem dX9_fault_4 : decode cX9_fault 4 = .ok (.getfield 111, 3) := by decide +kernel
theorem dX9_fault_7 : decode cX9_fault 7 = .ok (.ireturn, 1) := by decide +kernel
theorem dX9_told_0 : decode cX9_told 0 = .ok (.iload_n 1, 1) := by decide +kernel
theorem dX9_told_1 : decode cX9_told 1 = .ok (.tableswitch 195 0 13 #[71, 79, 87, 95, 103, 111, 119, 127, 135, 145, 154, 171, 179, 187], 71) := by decide +kernel
theorem dX9_told_72 : decode cX9_told 72 = .ok (.aload_n 0, 1) := by decide +kernel
theorem dX9_told_73 : decode cX9_told 73 = .ok (.getfield 25, 3) := by decide +kernel
theorem dX9_told_76 : decode cX9_told 76 = .ok (.getfield 114, 3) := by decide +kernel
theorem dX9_told_79 : decode cX9_told 79 = .ok (.ireturn, 1) := by decide +kernel
theorem dX9_told_80 : decode cX9_told 80 = .ok (.aload_n 0, 1) := by decide +kernel
theorem dX9_told_81 : decode cX9_told 81 = .ok (.getfield 25, 3) := by decide +kernel
theorem dX9_told_84 : decode cX9_told 84 = .ok (.getfield 117, 3) := by decide +kernel
theorem dX9_told_87 : decode cX9_told 87 = .ok (.ireturn, 1) := by decide +kernel
theorem dX9_told_88 : decode cX9_told 88 = .ok (.aload_n 0, 1) := by decide +kernel
theorem dX9_told_89 : decode cX9_told 89 = .ok (.getfield 25, 3) := by decide +kernel
theorem dX9_told_92 : decode cX9_told 92 = .ok (.getfield 108, 3) := by decide +kernel
theorem dX9_told_95 : decode cX9_told 95 = .ok (.ireturn, 1) := by decide +kernel
theorem dX9_told_96 : decode cX9_told 96 = .ok (.aload_n 0, 1) := by decide +kernel
theorem dX9_told_97 : decode cX9_told 97 = .ok (.getfield 25, 3) := by decide +kernel
theorem dX9_told_100 : decode cX9_told 100 = .ok (.getfield 120, 3) := by decide +kernel
theorem dX9_told_103 : decode cX9_told 103 = .ok (.ireturn, 1) := by decide +kernel
theorem dX9_told_104 : decode cX9_told 104 = .ok (.aload_n 0, 1) := by decide +kernel
theorem dX9_told_105 : decode cX9_told 105 = .ok (.getfield 25, 3) := by decide +kernel
theorem dX9_told_108 : decode cX9_told 108 = .ok (.getfield 123, 3) := by decide +kernel
theorem dX9_told_111 : decode cX9_told 111 = .ok (.ireturn, 1) := by decide +kernel
theorem dX9_told_112 : decode cX9_told 112 = .ok (.aload_n 0, 1) := by decide +kernel
theorem dX9_told_113 : decode cX9_told 113 = .ok (.getfield 21, 3) := by decide +kernel
theorem dX9_told_116 : decode cX9_told 116 = .ok (.getfield 79, 3) := by decide +kernel
theorem dX9_told_119 : decode cX9_told 119 = .ok (.ireturn, 1) := by decide +kernel
theorem dX9_told_120 : decode cX9_told 120 = .ok (.aload_n 0, 1) := by decide +kernel
theorem dX9_told_121 : decode cX9_told 121 = .ok (.getfield 29, 3) := by decide +kernel
theorem dX9_told_124 : decode cX9_told 124 = .ok (.getfield 126, 3) := by decide +kernel
theorem dX9_told_127 : decode cX9_told 127 = .ok (.ireturn, 1) := by decide +kernel
theorem dX9_told_128 : decode cX9_told 128 = .ok (.aload_n 0, 1) := by decide +kernel
theorem dX9_told_129 : decode cX9_told 129 = .ok (.getfield 29, 3) := by decide +kernel
theorem dX9_told_132 : decode cX9_told 132 = .ok (.getfield 129, 3) := by decide +kernel
theorem dX9_told_135 : decode cX9_told 135 = .ok (.ireturn, 1) := by decide +kernel
theorem dX9_told_136 : decode cX9_told 136 = .ok (.aload_n 0, 1) := by decide +kernel
theorem dX9_told_137 : decode cX9_told 137 = .ok (.getfield 29, 3) := by decide +kernel
theorem dX9_told_140 : decode cX9_told 140 = .ok (.bipush (-2), 2) := by decide +kernel
theorem dX9_told_142 : decode cX9_told 142 = .ok (.invokevirtual 132, 3) := by decide +kernel
theorem dX9_told_145 : decode cX9_told 145 = .ok (.ireturn, 1) := by decide +kernel
theorem dX9_told_146 : decode cX9_told 146 = .ok (.aload_n 0, 1) := by decide +kernel
theorem dX9_told_147 : decode cX9_told 147 = .ok (.getfield 29, 3) := by decide +kernel
theorem dX9_told_150 : decode cX9_told 150 = .ok (.iconst (-1), 1) := by decide +kernel
theorem dX9_told_151 : decode cX9_told 151 = .ok (.invokevirtual 132, 3) := by decide +kernel
theorem dX9_told_154 : decode cX9_told 154 = .ok (.ireturn, 1) := by decide +kernel
theorem dX9_told_155 : decode cX9_told 155 = .ok (.aload_n 0, 1) := by decide +kernel
theorem dX9_told_156 : decode cX9_told 156 = .ok (.getfield 25, 3) := by decide +kernel
theorem dX9_told_159 : decode cX9_told 159 = .ok (.aload_n 0, 1) := by decide +kernel
theorem dX9_told_160 : decode cX9_told 160 = .ok (.getfield 29, 3) := by decide +kernel
theorem dX9_told_163 : decode cX9_told 163 = .ok (.bipush (-2), 2) := by decide +kernel
theorem dX9_told_165 : decode cX9_told 165 = .ok (.invokevirtual 132, 3) := by decide +kernel
theorem dX9_told_168 : decode cX9_told 168 = .ok (.invokevirtual 136, 3) := by decide +kernel
theorem dX9_told_171 : decode cX9_told 171 = .ok (.ireturn, 1) := by decide +kernel
theorem dX9_told_172 : decode cX9_told 172 = .ok (.aload_n 0, 1) := by decide +kernel
theorem dX9_told_173 : decode cX9_told 173 = .ok (.getfield 66, 3) := by decide +kernel
theorem dX9_told_176 : decode cX9_told 176 = .ok (.getfield 139, 3) := by decide +kernel
theorem dX9_told_179 : decode cX9_told 179 = .ok (.ireturn, 1) := by decide +kernel
theorem dX9_told_180 : decode cX9_told 180 = .ok (.aload_n 0, 1) := by decide +kernel
theorem dX9_told_181 : decode cX9_told 181 = .ok (.getfield 66, 3) := by decide +kernel
theorem dX9_told_184 : decode cX9_told 184 = .ok (.getfield 142, 3) := by decide +kernel
theorem dX9_told_187 : decode cX9_told 187 = .ok (.ireturn, 1) := by decide +kernel
theorem dX9_told_188 : decode cX9_told 188 = .ok (.aload_n 0, 1) := by decide +kernel
theorem dX9_told_189 : decode cX9_told 189 = .ok (.getfield 36, 3) := by decide +kernel
theorem dX9_told_192 : decode cX9_told 192 = .ok (.getfield 145, 3) := by decide +kernel
theorem dX9_told_195 : decode cX9_told 195 = .ok (.ireturn, 1) := by decide +kernel
theorem dX9_told_196 : decode cX9_told 196 = .ok (.ldc 74, 2) := by decide +kernel
theorem dX9_told_198 : decode cX9_told 198 = .ok (.ireturn, 1) := by decide +kernel
theorem dX9_room_0 : decode cX9_room 0 = .ok (.aload_n 0, 1) := by decide +kernel
theorem dX9_room_1 : decode cX9_room 1 = .ok (.getfield 25, 3) := by decide +kernel
theorem dX9_room_4 : decode cX9_room 4 = .ok (.iload_n 1, 1) := by decide +kernel
theorem dX9_room_5 : decode cX9_room 5 = .ok (.invokevirtual 147, 3) := by decide +kernel
theorem dX9_room_8 : decode cX9_room 8 = .ok (.ifCond .eq 14, 3) := by decide +kernel
theorem dX9_room_11 : decode cX9_room 11 = .ok (.aload_n 0, 1) := by decide +kernel
theorem dX9_room_12 : decode cX9_room 12 = .ok (.getfield 25, 3) := by decide +kernel
theorem dX9_room_15 : decode cX9_room 15 = .ok (.iload_n 1, 1) := by decide +kernel
theorem dX9_room_16 : decode cX9_room 16 = .ok (.invokevirtual 150, 3) := by decide +kernel
theorem dX9_room_19 : decode cX9_room 19 = .ok (.goto 5, 3) := by decide +kernel
theorem dX9_room_22 : decode cX9_room 22 = .ok (.ldc 153, 2) := by decide +kernel
theorem dX9_room_24 : decode cX9_room 24 = .ok (.ireturn, 1) := by decide +kernel
theorem dX9_waiter_0 : decode cX9_waiter 0 = .ok (.aload_n 0, 1) := by decide +kernel
theorem dX9_waiter_1 : decode cX9_waiter 1 = .ok (.getfield 25, 3) := by decide +kernel
theorem dX9_waiter_4 : decode cX9_waiter 4 = .ok (.iload_n 1, 1) := by decide +kernel
theorem dX9_waiter_5 : decode cX9_waiter 5 = .ok (.invokevirtual 154, 3) := by decide +kernel
theorem dX9_waiter_8 : decode cX9_waiter 8 = .ok (.ifCond .ne 6, 3) := by decide +kernel
theorem dX9_waiter_11 : decode cX9_waiter 11 = .ok (.ldc 153, 2) := by decide +kernel
theorem dX9_waiter_13 : decode cX9_waiter 13 = .ok (.ireturn, 1) := by decide +kernel
theorem dX9_waiter_14 : decode cX9_waiter 14 = .ok (.iload_n 2, 1) := by decide +kernel
theorem dX9_waiter_15 : decode cX9_waiter 15 = .ok (.tableswitch 136 0 7 #[45, 54, 64, 77, 90, 106, 115, 127], 45) := by decide +kernel
theorem dX9_waiter_60 : decode cX9_waiter 60 = .ok (.aload_n 0, 1) := by decide +kernel
theorem dX9_waiter_61 : decode cX9_waiter 61 = .ok (.getfield 29, 3) := by decide +kernel
theorem dX9_waiter_64 : decode cX9_waiter 64 = .ok (.iload_n 1, 1) := by decide +kernel
theorem dX9_waiter_65 : decode cX9_waiter 65 = .ok (.invokevirtual 157, 3) := by decide +kernel
theorem dX9_waiter_68 : decode cX9_waiter 68 = .ok (.ireturn, 1) := by decide +kernel
theorem dX9_waiter_69 : decode cX9_waiter 69 = .ok (.aload_n 0, 1) := by decide +kernel
theorem dX9_waiter_70 : decode cX9_waiter 70 = .ok (.getfield 25, 3) := by decide +kernel
theorem dX9_waiter_73 : decode cX9_waiter 73 = .ok (.getfield 160, 3) := by decide +kernel
theorem dX9_waiter_76 : decode cX9_waiter 76 = .ok (.iload_n 1, 1) := by decide +kernel
theorem dX9_waiter_77 : decode cX9_waiter 77 = .ok (.iaload, 1) := by decide +kernel
theorem dX9_waiter_78 : decode cX9_waiter 78 = .ok (.ireturn, 1) := by decide +kernel
theorem dX9_waiter_79 : decode cX9_waiter 79 = .ok (.aload_n 0, 1) := by decide +kernel
theorem dX9_waiter_80 : decode cX9_waiter 80 = .ok (.getfield 29, 3) := by decide +kernel
theorem dX9_waiter_83 : decode cX9_waiter 83 = .ok (.iload_n 1, 1) := by decide +kernel
theorem dX9_waiter_84 : decode cX9_waiter 84 = .ok (.iconst 0, 1) := by decide +kernel
theorem dX9_waiter_85 : decode cX9_waiter 85 = .ok (.invokestatic 164, 3) := by decide +kernel
theorem dX9_waiter_88 : decode cX9_waiter 88 = .ok (.invokevirtual 132, 3) := by decide +kernel
theorem dX9_waiter_91 : decode cX9_waiter 91 = .ok (.ireturn, 1) := by decide +kernel
theorem dX9_waiter_92 : decode cX9_waiter 92 = .ok (.aload_n 0, 1) := by decide +kernel
theorem dX9_waiter_93 : decode cX9_waiter 93 = .ok (.getfield 29, 3) := by decide +kernel
theorem dX9_waiter_96 : decode cX9_waiter 96 = .ok (.iload_n 1, 1) := by decide +kernel
theorem dX9_waiter_97 : decode cX9_waiter 97 = .ok (.iconst 1, 1) := by decide +kernel
theorem dX9_waiter_98 : decode cX9_waiter 98 = .ok (.invokestatic 164, 3) := by decide +kernel
theorem dX9_waiter_101 : decode cX9_waiter 101 = .ok (.invokevirtual 132, 3) := by decide +kernel
theorem dX9_waiter_104 : decode cX9_waiter 104 = .ok (.ireturn, 1) := by decide +kernel
theorem dX9_waiter_105 : decode cX9_waiter 105 = .ok (.aload_n 0, 1) := by decide +kernel
theorem dX9_waiter_106 : decode cX9_waiter 106 = .ok (.getfield 25, 3) := by decide +kernel
theorem dX9_waiter_109 : decode cX9_waiter 109 = .ok (.aload_n 0, 1) := by decide +kernel
theorem dX9_waiter_110 : decode cX9_waiter 110 = .ok (.getfield 29, 3) := by decide +kernel
theorem dX9_waiter_113 : decode cX9_waiter 113 = .ok (.iload_n 1, 1) := by decide +kernel
theorem dX9_waiter_114 : decode cX9_waiter 114 = .ok (.invokevirtual 168, 3) := by decide +kernel
theorem dX9_waiter_117 : decode cX9_waiter 117 = .ok (.invokevirtual 171, 3) := by decide +kernel
theorem dX9_waiter_120 : decode cX9_waiter 120 = .ok (.ireturn, 1) := by decide +kernel
theorem dX9_waiter_121 : decode cX9_waiter 121 = .ok (.aload_n 0, 1) := by decide +kernel
theorem dX9_waiter_122 : decode cX9_waiter 122 = .ok (.getfield 45, 3) := by decide +kernel
theorem dX9_waiter_125 : decode cX9_waiter 125 = .ok (.iload_n 1, 1) := by decide +kernel
theorem dX9_waiter_126 : decode cX9_waiter 126 = .ok (.invokevirtual 174, 3) := by decide +kernel
theorem dX9_waiter_129 : decode cX9_waiter 129 = .ok (.ireturn, 1) := by decide +kernel
theorem dX9_waiter_130 : decode cX9_waiter 130 = .ok (.aload_n 0, 1) := by decide +kernel
theorem dX9_waiter_131 : decode cX9_waiter 131 = .ok (.getfield 29, 3) := by decide +kernel
theorem dX9_waiter_134 : decode cX9_waiter 134 = .ok (.iload_n 1, 1) := by decide +kernel
theorem dX9_waiter_135 : decode cX9_waiter 135 = .ok (.invokevirtual 177, 3) := by decide +kernel
theorem dX9_waiter_138 : decode cX9_waiter 138 = .ok (.invokestatic 180, 3) := by decide +kernel
theorem dX9_waiter_141 : decode cX9_waiter 141 = .ok (.ireturn, 1) := by decide +kernel
theorem dX9_waiter_142 : decode cX9_waiter 142 = .ok (.aload_n 0, 1) := by decide +kernel
theorem dX9_waiter_143 : decode cX9_waiter 143 = .ok (.getfield 29, 3) := by decide +kernel
theorem dX9_waiter_146 : decode cX9_waiter 146 = .ok (.iload_n 1, 1) := by decide +kernel
theorem dX9_waiter_147 : decode cX9_waiter 147 = .ok (.invokevirtual 183, 3) := by decide +kernel
theorem dX9_waiter_150 : decode cX9_waiter 150 = .ok (.ireturn, 1) := by decide +kernel
theorem dX9_waiter_151 : decode cX9_waiter 151 = .ok (.ldc 74, 2) := by decide +kernel
theorem dX9_waiter_153 : decode cX9_waiter 153 = .ok (.ireturn, 1) := by decide +kernel
theorem dX9_thing_0 : decode cX9_thing 0 = .ok (.aload_n 0, 1) := by decide +kernel
theorem dX9_thing_1 : decode cX9_thing 1 = .ok (.getfield 25, 3) := by decide +kernel
theorem dX9_thing_4 : decode cX9_thing 4 = .ok (.iload_n 1, 1) := by decide +kernel
theorem dX9_thing_5 : decode cX9_thing 5 = .ok (.invokevirtual 186, 3) := by decide +kernel
theorem dX9_thing_8 : decode cX9_thing 8 = .ok (.ifCond .ne 6, 3) := by decide +kernel
theorem dX9_thing_11 : decode cX9_thing 11 = .ok (.ldc 153, 2) := by decide +kernel
theorem dX9_thing_13 : decode cX9_thing 13 = .ok (.ireturn, 1) := by decide +kernel
theorem dX9_thing_14 : decode cX9_thing 14 = .ok (.iload_n 2, 1) := by decide +kernel
theorem dX9_thing_15 : decode cX9_thing 15 = .ok (.tableswitch 54 0 2 #[25, 35, 45], 25) := by decide +kernel
theorem dX9_thing_40 : decode cX9_thing 40 = .ok (.aload_n 0, 1) := by decide +kernel
theorem dX9_thing_41 : decode cX9_thing 41 = .ok (.getfield 25, 3) := by decide +kernel
theorem dX9_thing_44 : decode cX9_thing 44 = .ok (.getfield 189, 3) := by decide +kernel
theorem dX9_thing_47 : decode cX9_thing 47 = .ok (.iload_n 1, 1) := by decide +kernel
theorem dX9_thing_48 : decode cX9_thing 48 = .ok (.iaload, 1) := by decide +kernel
theorem dX9_thing_49 : decode cX9_thing 49 = .ok (.ireturn, 1) := by decide +kernel
theorem dX9_thing_50 : decode cX9_thing 50 = .ok (.aload_n 0, 1) := by decide +kernel
theorem dX9_thing_51 : decode cX9_thing 51 = .ok (.getfield 25, 3) := by decide +kernel
theorem dX9_thing_54 : decode cX9_thing 54 = .ok (.getfield 192, 3) := by decide +kernel
theorem dX9_thing_57 : decode cX9_thing 57 = .ok (.iload_n 1, 1) := by decide +kernel
theorem dX9_thing_58 : decode cX9_thing 58 = .ok (.iaload, 1) := by decide +kernel
theorem dX9_thing_59 : decode cX9_thing 59 = .ok (.ireturn, 1) := by decide +kernel
theorem dX9_thing_60 : decode cX9_thing 60 = .ok (.aload_n 0, 1) := by decide +kernel
theorem dX9_thing_61 : decode cX9_thing 61 = .ok (.getfield 29, 3) := by decide +kernel
theorem dX9_thing_64 : decode cX9_thing 64 = .ok (.iload_n 1, 1) := by decide +kernel
theorem dX9_thing_65 : decode cX9_thing 65 = .ok (.invokevirtual 195, 3) := by decide +kernel
theorem dX9_thing_68 : decode cX9_thing 68 = .ok (.ireturn, 1) := by decide +kernel
theorem dX9_thing_69 : decode cX9_thing 69 = .ok (.ldc 74, 2) := by decide +kernel
theorem dX9_thing_71 : decode cX9_thing 71 = .ok (.ireturn, 1) := by decide +kernel
theorem dX9_minute_0 : decode cX9_minute 0 = .ok (.aload_n 0, 1) := by decide +kernel
theorem dX9_minute_1 : decode cX9_minute 1 = .ok (.iload_n 1, 1) := by decide +kernel
theorem dX9_minute_2 : decode cX9_minute 2 = .ok (.invokevirtual 198, 3) := by decide +kernel
theorem dX9_minute_5 : decode cX9_minute 5 = .ok (.istore_n 2, 1) := by decide +kernel
theorem dX9_minute_6 : decode cX9_minute 6 = .ok (.iload_n 2, 1) := by decide +kernel
theorem dX9_minute_7 : decode cX9_minute 7 = .ok (.ifCond .eq 5, 3) := by decide +kernel
theorem dX9_minute_10 : decode cX9_minute 10 = .ok (.iload_n 2, 1) := by decide +kernel
theorem dX9_minute_11 : decode cX9_minute 11 = .ok (.ireturn, 1) := by decide +kernel
theorem dX9_minute_12 : decode cX9_minute 12 = .ok (.aload_n 0, 1) := by decide +kernel
theorem dX9_minute_13 : decode cX9_minute 13 = .ok (.getfield 36, 3) := by decide +kernel
theorem dX9_minute_16 : decode cX9_minute 16 = .ok (.aload_n 0, 1) := by decide +kernel
theorem dX9_minute_17 : decode cX9_minute 17 = .ok (.getfield 29, 3) := by decide +kernel
theorem dX9_minute_20 : decode cX9_minute 20 = .ok (.invokevirtual 201, 3) := by decide +kernel
theorem dX9_minute_23 : decode cX9_minute 23 = .ok (.iconst 0, 1) := by decide +kernel
theorem dX9_minute_24 : decode cX9_minute 24 = .ok (.istore_n 3, 1) := by decide +kernel
theorem dX9_minute_25 : decode cX9_minute 25 = .ok (.iload_n 3, 1) := by decide +kernel
theorem dX9_minute_26 : decode cX9_minute 26 = .ok (.iload_n 1, 1) := by decide +kernel
theorem dX9_minute_27 : decode cX9_minute 27 = .ok (.if_icmp .ge 16, 3) := by decide +kernel
theorem dX9_minute_30 : decode cX9_minute 30 = .ok (.aload_n 0, 1) := by decide +kernel
theorem dX9_minute_31 : decode cX9_minute 31 = .ok (.getfield 45, 3) := by decide +kernel
theorem dX9_minute_34 : decode cX9_minute 34 = .ok (.invokevirtual 205, 3) := by decide +kernel
theorem dX9_minute_37 : decode cX9_minute 37 = .ok (.iinc 3 1, 3) := by decide +kernel
theorem dX9_minute_40 : decode cX9_minute 40 = .ok (.goto (-15), 3) := by decide +kernel
theorem dX9_minute_43 : decode cX9_minute 43 = .ok (.aload_n 0, 1) := by decide +kernel
theorem dX9_minute_44 : decode cX9_minute 44 = .ok (.getfield 29, 3) := by decide +kernel
theorem dX9_minute_47 : decode cX9_minute 47 = .ok (.getfield 126, 3) := by decide +kernel
theorem dX9_minute_50 : decode cX9_minute 50 = .ok (.ireturn, 1) := by decide +kernel
theorem dX9_route_0 : decode cX9_route 0 = .ok (.aload_n 0, 1) := by decide +kernel
theorem dX9_route_1 : decode cX9_route 1 = .ok (.getfield 25, 3) := by decide +kernel
theorem dX9_route_4 : decode cX9_route 4 = .ok (.iload_n 1, 1) := by decide +kernel
theorem dX9_route_5 : decode cX9_route 5 = .ok (.invokevirtual 154, 3) := by decide +kernel
theorem dX9_route_8 : decode cX9_route 8 = .ok (.ifCond .ne 6, 3) := by decide +kernel
theorem dX9_route_11 : decode cX9_route 11 = .ok (.ldc 153, 2) := by decide +kernel
theorem dX9_route_13 : decode cX9_route 13 = .ok (.ireturn, 1) := by decide +kernel
theorem dX9_route_14 : decode cX9_route 14 = .ok (.iload_n 2, 1) := by decide +kernel
theorem dX9_route_15 : decode cX9_route 15 = .ok (.ifCond .lt 20, 3) := by decide +kernel
theorem dX9_route_18 : decode cX9_route 18 = .ok (.iload_n 2, 1) := by decide +kernel
theorem dX9_route_19 : decode cX9_route 19 = .ok (.ldc 208, 2) := by decide +kernel
theorem dX9_route_21 : decode cX9_route 21 = .ok (.if_icmp .gt 14, 3) := by decide +kernel
theorem dX9_route_24 : decode cX9_route 24 = .ok (.aload_n 0, 1) := by decide +kernel
theorem dX9_route_25 : decode cX9_route 25 = .ok (.getfield 25, 3) := by decide +kernel
theorem dX9_route_28 : decode cX9_route 28 = .ok (.iload_n 2, 1) := by decide +kernel
theorem dX9_route_29 : decode cX9_route 29 = .ok (.invokevirtual 209, 3) := by decide +kernel
theorem dX9_route_32 : decode cX9_route 32 = .ok (.ifCond .ne 6, 3) := by decide +kernel
theorem dX9_route_35 : decode cX9_route 35 = .ok (.ldc 74, 2) := by decide +kernel
theorem dX9_route_37 : decode cX9_route 37 = .ok (.ireturn, 1) := by decide +kernel
theorem dX9_route_38 : decode cX9_route 38 = .ok (.iload_n 2, 1) := by decide +kernel
theorem dX9_route_39 : decode cX9_route 39 = .ok (.invokestatic 212, 3) := by decide +kernel
theorem dX9_route_42 : decode cX9_route 42 = .ok (.istore_n 3, 1) := by decide +kernel
theorem dX9_route_43 : decode cX9_route 43 = .ok (.aload_n 0, 1) := by decide +kernel
theorem dX9_route_44 : decode cX9_route 44 = .ok (.getfield 25, 3) := by decide +kernel
theorem dX9_route_47 : decode cX9_route 47 = .ok (.aload_n 0, 1) := by decide +kernel
theorem dX9_route_48 : decode cX9_route 48 = .ok (.getfield 29, 3) := by decide +kernel
theorem dX9_route_51 : decode cX9_route 51 = .ok (.iload_n 1, 1) := by decide +kernel
theorem dX9_route_52 : decode cX9_route 52 = .ok (.invokevirtual 157, 3) := by decide +kernel
theorem dX9_route_55 : decode cX9_route 55 = .ok (.iload_n 3, 1) := by decide +kernel
theorem dX9_route_56 : decode cX9_route 56 = .ok (.invokevirtual 215, 3) := by decide +kernel
theorem dX9_route_59 : decode cX9_route 59 = .ok (.ifCond .ne 6, 3) := by decide +kernel
theorem dX9_route_62 : decode cX9_route 62 = .ok (.ldc 219, 2) := by decide +kernel
theorem dX9_route_64 : decode cX9_route 64 = .ok (.ireturn, 1) := by decide +kernel
theorem dX9_route_65 : decode cX9_route 65 = .ok (.aload_n 0, 1) := by decide +kernel
theorem dX9_route_66 : decode cX9_route 66 = .ok (.getfield 36, 3) := by decide +kernel
theorem dX9_route_69 : decode cX9_route 69 = .ok (.aload_n 0, 1) := by decide +kernel
theorem dX9_route_70 : decode cX9_route 70 = .ok (.getfield 29, 3) := by decide +kernel
theorem dX9_route_73 : decode cX9_route 73 = .ok (.invokevirtual 201, 3) := by decide +kernel
theorem dX9_route_76 : decode cX9_route 76 = .ok (.aload_n 0, 1) := by decide +kernel
theorem dX9_route_77 : decode cX9_route 77 = .ok (.getfield 29, 3) := by decide +kernel
theorem dX9_route_80 : decode cX9_route 80 = .ok (.iload_n 1, 1) := by decide +kernel
theorem dX9_route_81 : decode cX9_route 81 = .ok (.iload_n 3, 1) := by decide +kernel
theorem dX9_route_82 : decode cX9_route 82 = .ok (.invokevirtual 220, 3) := by decide +kernel
theorem dX9_route_85 : decode cX9_route 85 = .ok (.iload_n 3, 1) := by decide +kernel
theorem dX9_route_86 : decode cX9_route 86 = .ok (.invokestatic 180, 3) := by decide +kernel
theorem dX9_route_89 : decode cX9_route 89 = .ok (.ireturn, 1) := by decide +kernel
theorem dX9_lay_0 : decode cX9_lay 0 = .ok (.aload_n 0, 1) := by decide +kernel
theorem dX9_lay_1 : decode cX9_lay 1 = .ok (.getfield 25, 3) := by decide +kernel
theorem dX9_lay_4 : decode cX9_lay 4 = .ok (.iload_n 1, 1) := by decide +kernel
theorem dX9_lay_5 : decode cX9_lay 5 = .ok (.invokevirtual 186, 3) := by decide +kernel
theorem dX9_lay_8 : decode cX9_lay 8 = .ok (.ifCond .eq 14, 3) := by decide +kernel
theorem dX9_lay_11 : decode cX9_lay 11 = .ok (.aload_n 0, 1) := by decide +kernel
theorem dX9_lay_12 : decode cX9_lay 12 = .ok (.getfield 25, 3) := by decide +kernel
theorem dX9_lay_15 : decode cX9_lay 15 = .ok (.iload_n 2, 1) := by decide +kernel
theorem dX9_lay_16 : decode cX9_lay 16 = .ok (.invokevirtual 154, 3) := by decide +kernel
theorem dX9_lay_19 : decode cX9_lay 19 = .ok (.ifCond .ne 6, 3) := by decide +kernel
theorem dX9_lay_22 : decode cX9_lay 22 = .ok (.ldc 153, 2) := by decide +kernel
theorem dX9_lay_24 : decode cX9_lay 24 = .ok (.ireturn, 1) := by decide +kernel
theorem dX9_lay_25 : decode cX9_lay 25 = .ok (.iload_n 3, 1) := by decide +kernel
theorem dX9_lay_26 : decode cX9_lay 26 = .ok (.ifCond .lt 8, 3) := by decide +kernel
theorem dX9_lay_29 : decode cX9_lay 29 = .ok (.iload_n 3, 1) := by decide +kernel
theorem dX9_lay_30 : decode cX9_lay 30 = .ok (.iconst 1, 1) := by decide +kernel
theorem dX9_lay_31 : decode cX9_lay 31 = .ok (.if_icmp .le 6, 3) := by decide +kernel
theorem dX9_lay_34 : decode cX9_lay 34 = .ok (.ldc 74, 2) := by decide +kernel
theorem dX9_lay_36 : decode cX9_lay 36 = .ok (.ireturn, 1) := by decide +kernel
theorem dX9_lay_37 : decode cX9_lay 37 = .ok (.aload_n 0, 1) := by decide +kernel
theorem dX9_lay_38 : decode cX9_lay 38 = .ok (.getfield 25, 3) := by decide +kernel
theorem dX9_lay_41 : decode cX9_lay 41 = .ok (.aload_n 0, 1) := by decide +kernel
theorem dX9_lay_42 : decode cX9_lay 42 = .ok (.getfield 29, 3) := by decide +kernel
theorem dX9_lay_45 : decode cX9_lay 45 = .ok (.iload_n 2, 1) := by decide +kernel
theorem dX9_lay_46 : decode cX9_lay 46 = .ok (.invokevirtual 168, 3) := by decide +kernel
theorem dX9_lay_49 : decode cX9_lay 49 = .ok (.invokevirtual 171, 3) := by decide +kernel
theorem dX9_lay_52 : decode cX9_lay 52 = .ok (.aload_n 0, 1) := by decide +kernel
theorem dX9_lay_53 : decode cX9_lay 53 = .ok (.getfield 25, 3) := by decide +kernel
theorem dX9_lay_56 : decode cX9_lay 56 = .ok (.getfield 189, 3) := by decide +kernel
theorem dX9_lay_59 : decode cX9_lay 59 = .ok (.iload_n 1, 1) := by decide +kernel
theorem dX9_lay_60 : decode cX9_lay 60 = .ok (.iaload, 1) := by decide +kernel
theorem dX9_lay_61 : decode cX9_lay 61 = .ok (.iadd, 1) := by decide +kernel
theorem dX9_lay_62 : decode cX9_lay 62 = .ok (.istore 4, 2) := by decide +kernel
theorem dX9_lay_64 : decode cX9_lay 64 = .ok (.aload_n 0, 1) := by decide +kernel
theorem dX9_lay_65 : decode cX9_lay 65 = .ok (.getfield 29, 3) := by decide +kernel
theorem dX9_lay_68 : decode cX9_lay 68 = .ok (.iload_n 1, 1) := by decide +kernel
theorem dX9_lay_69 : decode cX9_lay 69 = .ok (.iload_n 2, 1) := by decide +kernel
theorem dX9_lay_70 : decode cX9_lay 70 = .ok (.invokevirtual 224, 3) := by decide +kernel
theorem dX9_lay_73 : decode cX9_lay 73 = .ok (.ifCond .eq 17, 3) := by decide +kernel
theorem dX9_lay_76 : decode cX9_lay 76 = .ok (.iload 4, 2) := by decide +kernel
theorem dX9_lay_78 : decode cX9_lay 78 = .ok (.aload_n 0, 1) := by decide +kernel
theorem dX9_lay_79 : decode cX9_lay 79 = .ok (.getfield 25, 3) := by decide +kernel
theorem dX9_lay_82 : decode cX9_lay 82 = .ok (.getfield 160, 3) := by decide +kernel
theorem dX9_lay_85 : decode cX9_lay 85 = .ok (.iload_n 2, 1) := by decide +kernel
theorem dX9_lay_86 : decode cX9_lay 86 = .ok (.iaload, 1) := by decide +kernel
theorem dX9_lay_87 : decode cX9_lay 87 = .ok (.if_icmp .le 6, 3) := by decide +kernel
theorem dX9_lay_90 : decode cX9_lay 90 = .ok (.ldc 219, 2) := by decide +kernel
theorem dX9_lay_92 : decode cX9_lay 92 = .ok (.ireturn, 1) := by decide +kernel
theorem dX9_lay_93 : decode cX9_lay 93 = .ok (.aload_n 0, 1) := by decide +kernel
theorem dX9_lay_94 : decode cX9_lay 94 = .ok (.getfield 36, 3) := by decide +kernel
theorem dX9_lay_97 : decode cX9_lay 97 = .ok (.aload_n 0, 1) := by decide +kernel
theorem dX9_lay_98 : decode cX9_lay 98 = .ok (.getfield 29, 3) := by decide +kernel
theorem dX9_lay_101 : decode cX9_lay 101 = .ok (.invokevirtual 201, 3) := by decide +kernel
theorem dX9_lay_104 : decode cX9_lay 104 = .ok (.aload_n 0, 1) := by decide +kernel
theorem dX9_lay_105 : decode cX9_lay 105 = .ok (.getfield 29, 3) := by decide +kernel
theorem dX9_lay_108 : decode cX9_lay 108 = .ok (.iload_n 1, 1) := by decide +kernel
theorem dX9_lay_109 : decode cX9_lay 109 = .ok (.iload_n 2, 1) := by decide +kernel
theorem dX9_lay_110 : decode cX9_lay 110 = .ok (.iload_n 3, 1) := by decide +kernel
theorem dX9_lay_111 : decode cX9_lay 111 = .ok (.invokestatic 164, 3) := by decide +kernel
theorem dX9_lay_114 : decode cX9_lay 114 = .ok (.invokevirtual 227, 3) := by decide +kernel
theorem dX9_lay_117 : decode cX9_lay 117 = .ok (.iload 4, 2) := by decide +kernel
theorem dX9_lay_119 : decode cX9_lay 119 = .ok (.ireturn, 1) := by decide +kernel
theorem dX9_takeOff_0 : decode cX9_takeOff 0 = .ok (.aload_n 0, 1) := by decide +kernel
theorem dX9_takeOff_1 : decode cX9_takeOff 1 = .ok (.getfield 25, 3) := by decide +kernel
theorem dX9_takeOff_4 : decode cX9_takeOff 4 = .ok (.iload_n 1, 1) := by decide +kernel
theorem dX9_takeOff_5 : decode cX9_takeOff 5 = .ok (.invokevirtual 186, 3) := by decide +kernel
theorem dX9_takeOff_8 : decode cX9_takeOff 8 = .ok (.ifCond .ne 6, 3) := by decide +kernel
theorem dX9_takeOff_11 : decode cX9_takeOff 11 = .ok (.ldc 153, 2) := by decide +kernel
theorem dX9_takeOff_13 : decode cX9_takeOff 13 = .ok (.ireturn, 1) := by decide +kernel
theorem dX9_takeOff_14 : decode cX9_takeOff 14 = .ok (.aload_n 0, 1) := by decide +kernel
theorem dX9_takeOff_15 : decode cX9_takeOff 15 = .ok (.getfield 29, 3) := by decide +kernel
theorem dX9_takeOff_18 : decode cX9_takeOff 18 = .ok (.iload_n 1, 1) := by decide +kernel
theorem dX9_takeOff_19 : decode cX9_takeOff 19 = .ok (.invokevirtual 195, 3) := by decide +kernel
theorem dX9_takeOff_22 : decode cX9_takeOff 22 = .ok (.istore_n 2, 1) := by decide +kernel
theorem dX9_takeOff_23 : decode cX9_takeOff 23 = .ok (.iload_n 2, 1) := by decide +kernel
theorem dX9_takeOff_24 : decode cX9_takeOff 24 = .ok (.iconst (-1), 1) := by decide +kernel
theorem dX9_takeOff_25 : decode cX9_takeOff 25 = .ok (.if_icmp .ne 6, 3) := by decide +kernel
theorem dX9_takeOff_28 : decode cX9_takeOff 28 = .ok (.ldc 219, 2) := by decide +kernel
theorem dX9_takeOff_30 : decode cX9_takeOff 30 = .ok (.ireturn, 1) := by decide +kernel
theorem dX9_takeOff_31 : decode cX9_takeOff 31 = .ok (.aload_n 0, 1) := by decide +kernel
theorem dX9_takeOff_32 : decode cX9_takeOff 32 = .ok (.getfield 36, 3) := by decide +kernel
theorem dX9_takeOff_35 : decode cX9_takeOff 35 = .ok (.aload_n 0, 1) := by decide +kernel
theorem dX9_takeOff_36 : decode cX9_takeOff 36 = .ok (.getfield 29, 3) := by decide +kernel
theorem dX9_takeOff_39 : decode cX9_takeOff 39 = .ok (.invokevirtual 201, 3) := by decide +kernel
theorem dX9_takeOff_42 : decode cX9_takeOff 42 = .ok (.aload_n 0, 1) := by decide +kernel
theorem dX9_takeOff_43 : decode cX9_takeOff 43 = .ok (.getfield 29, 3) := by decide +kernel
theorem dX9_takeOff_46 : decode cX9_takeOff 46 = .ok (.iload_n 1, 1) := by decide +kernel
theorem dX9_takeOff_47 : decode cX9_takeOff 47 = .ok (.iconst (-1), 1) := by decide +kernel
theorem dX9_takeOff_48 : decode cX9_takeOff 48 = .ok (.invokevirtual 227, 3) := by decide +kernel
theorem dX9_takeOff_51 : decode cX9_takeOff 51 = .ok (.iload_n 2, 1) := by decide +kernel
theorem dX9_takeOff_52 : decode cX9_takeOff 52 = .ok (.ireturn, 1) := by decide +kernel
theorem dX9_treaty_0 : decode cX9_treaty 0 = .ok (.aload_n 0, 1) := by decide +kernel
theorem dX9_treaty_1 : decode cX9_treaty 1 = .ok (.getfield 25, 3) := by decide +kernel
theorem dX9_treaty_4 : decode cX9_treaty 4 = .ok (.iload_n 1, 1) := by decide +kernel
theorem dX9_treaty_5 : decode cX9_treaty 5 = .ok (.iload_n 2, 1) := by decide +kernel
theorem dX9_treaty_6 : decode cX9_treaty 6 = .ok (.invokevirtual 230, 3) := by decide +kernel
theorem dX9_treaty_9 : decode cX9_treaty 9 = .ok (.ifCond .ne 6, 3) := by decide +kernel
theorem dX9_treaty_12 : decode cX9_treaty 12 = .ok (.ldc 153, 2) := by decide +kernel
theorem dX9_treaty_14 : decode cX9_treaty 14 = .ok (.ireturn, 1) := by decide +kernel
theorem dX9_treaty_15 : decode cX9_treaty 15 = .ok (.aload_n 0, 1) := by decide +kernel
theorem dX9_treaty_16 : decode cX9_treaty 16 = .ok (.getfield 36, 3) := by decide +kernel
theorem dX9_treaty_19 : decode cX9_treaty 19 = .ok (.aload_n 0, 1) := by decide +kernel
theorem dX9_treaty_20 : decode cX9_treaty 20 = .ok (.getfield 29, 3) := by decide +kernel
theorem dX9_treaty_23 : decode cX9_treaty 23 = .ok (.invokevirtual 201, 3) := by decide +kernel
theorem dX9_treaty_26 : decode cX9_treaty 26 = .ok (.aload_n 0, 1) := by decide +kernel
theorem dX9_treaty_27 : decode cX9_treaty 27 = .ok (.getfield 29, 3) := by decide +kernel
theorem dX9_treaty_30 : decode cX9_treaty 30 = .ok (.iload_n 1, 1) := by decide +kernel
theorem dX9_treaty_31 : decode cX9_treaty 31 = .ok (.invokevirtual 183, 3) := by decide +kernel
theorem dX9_treaty_34 : decode cX9_treaty 34 = .ok (.iload_n 2, 1) := by decide +kernel
theorem dX9_treaty_35 : decode cX9_treaty 35 = .ok (.invokestatic 233, 3) := by decide +kernel
theorem dX9_treaty_38 : decode cX9_treaty 38 = .ok (.ifCond .eq 7, 3) := by decide +kernel
theorem dX9_treaty_41 : decode cX9_treaty 41 = .ok (.iconst 1, 1) := by decide +kernel
theorem dX9_treaty_42 : decode cX9_treaty 42 = .ok (.goto 4, 3) := by decide +kernel
theorem dX9_treaty_45 : decode cX9_treaty 45 = .ok (.iconst 0, 1) := by decide +kernel
theorem dX9_treaty_46 : decode cX9_treaty 46 = .ok (.istore 4, 2) := by decide +kernel
theorem dX9_treaty_48 : decode cX9_treaty 48 = .ok (.aload_n 0, 1) := by decide +kernel
theorem dX9_treaty_49 : decode cX9_treaty 49 = .ok (.getfield 29, 3) := by decide +kernel
theorem dX9_treaty_52 : decode cX9_treaty 52 = .ok (.iload_n 1, 1) := by decide +kernel
theorem dX9_treaty_53 : decode cX9_treaty 53 = .ok (.iload_n 2, 1) := by decide +kernel
theorem dX9_treaty_54 : decode cX9_treaty 54 = .ok (.iload_n 3, 1) := by decide +kernel
theorem dX9_treaty_55 : decode cX9_treaty 55 = .ok (.invokevirtual 236, 3) := by decide +kernel
theorem dX9_treaty_58 : decode cX9_treaty 58 = .ok (.aload_n 0, 1) := by decide +kernel
theorem dX9_treaty_59 : decode cX9_treaty 59 = .ok (.getfield 29, 3) := by decide +kernel
theorem dX9_treaty_62 : decode cX9_treaty 62 = .ok (.iload_n 2, 1) := by decide +kernel
theorem dX9_treaty_63 : decode cX9_treaty 63 = .ok (.iload_n 1, 1) := by decide +kernel
theorem dX9_treaty_64 : decode cX9_treaty 64 = .ok (.iload_n 3, 1) := by decide +kernel
theorem dX9_treaty_65 : decode cX9_treaty 65 = .ok (.invokevirtual 236, 3) := by decide +kernel
theorem dX9_treaty_68 : decode cX9_treaty 68 = .ok (.iload 4, 2) := by decide +kernel
theorem dX9_treaty_70 : decode cX9_treaty 70 = .ok (.ireturn, 1) := by decide +kernel
theorem dX9_drift_0 : decode cX9_drift 0 = .ok (.aload_n 0, 1) := by decide +kernel
theorem dX9_drift_1 : decode cX9_drift 1 = .ok (.iload_n 1, 1) := by decide +kernel
theorem dX9_drift_2 : decode cX9_drift 2 = .ok (.invokevirtual 198, 3) := by decide +kernel
theorem dX9_drift_5 : decode cX9_drift 5 = .ok (.istore_n 2, 1) := by decide +kernel
theorem dX9_drift_6 : decode cX9_drift 6 = .ok (.iload_n 2, 1) := by decide +kernel
theorem dX9_drift_7 : decode cX9_drift 7 = .ok (.ifCond .eq 5, 3) := by decide +kernel
theorem dX9_drift_10 : decode cX9_drift 10 = .ok (.iload_n 2, 1) := by decide +kernel
theorem dX9_drift_11 : decode cX9_drift 11 = .ok (.ireturn, 1) := by decide +kernel
theorem dX9_drift_12 : decode cX9_drift 12 = .ok (.aload_n 0, 1) := by decide +kernel
theorem dX9_drift_13 : decode cX9_drift 13 = .ok (.getfield 36, 3) := by decide +kernel
theorem dX9_drift_16 : decode cX9_drift 16 = .ok (.aload_n 0, 1) := by decide +kernel
theorem dX9_drift_17 : decode cX9_drift 17 = .ok (.getfield 29, 3) := by decide +kernel
theorem dX9_drift_20 : decode cX9_drift 20 = .ok (.invokevirtual 201, 3) := by decide +kernel
theorem dX9_drift_23 : decode cX9_drift 23 = .ok (.iconst 0, 1) := by decide +kernel
theorem dX9_drift_24 : decode cX9_drift 24 = .ok (.istore_n 3, 1) := by decide +kernel
theorem dX9_drift_25 : decode cX9_drift 25 = .ok (.iload_n 3, 1) := by decide +kernel
theorem dX9_drift_26 : decode cX9_drift 26 = .ok (.iload_n 1, 1) := by decide +kernel
theorem dX9_drift_27 : decode cX9_drift 27 = .ok (.if_icmp .ge 23, 3) := by decide +kernel
theorem dX9_drift_30 : decode cX9_drift 30 = .ok (.aload_n 0, 1) := by decide +kernel
theorem dX9_drift_31 : decode cX9_drift 31 = .ok (.getfield 45, 3) := by decide +kernel
theorem dX9_drift_34 : decode cX9_drift 34 = .ok (.invokevirtual 240, 3) := by decide +kernel
theorem dX9_drift_37 : decode cX9_drift 37 = .ok (.aload_n 0, 1) := by decide +kernel
theorem dX9_drift_38 : decode cX9_drift 38 = .ok (.getfield 45, 3) := by decide +kernel
theorem dX9_drift_41 : decode cX9_drift 41 = .ok (.invokevirtual 205, 3) := by decide +kernel
theorem dX9_drift_44 : decode cX9_drift 44 = .ok (.iinc 3 1, 3) := by decide +kernel
theorem dX9_drift_47 : decode cX9_drift 47 = .ok (.goto (-22), 3) := by decide +kernel
theorem dX9_drift_50 : decode cX9_drift 50 = .ok (.aload_n 0, 1) := by decide +kernel
theorem dX9_drift_51 : decode cX9_drift 51 = .ok (.getfield 29, 3) := by decide +kernel
theorem dX9_drift_54 : decode cX9_drift 54 = .ok (.getfield 129, 3) := by decide +kernel
theorem dX9_drift_57 : decode cX9_drift 57 = .ok (.ireturn, 1) := by decide +kernel
theorem dX9_undo_0 : decode cX9_undo 0 = .ok (.aload_n 0, 1) := by decide +kernel
theorem dX9_undo_1 : decode cX9_undo 1 = .ok (.getfield 36, 3) := by decide +kernel
theorem dX9_undo_4 : decode cX9_undo 4 = .ok (.aload_n 0, 1) := by decide +kernel
theorem dX9_undo_5 : decode cX9_undo 5 = .ok (.getfield 29, 3) := by decide +kernel
theorem dX9_undo_8 : decode cX9_undo 8 = .ok (.invokevirtual 243, 3) := by decide +kernel
theorem dX9_undo_11 : decode cX9_undo 11 = .ok (.ifCond .eq 13, 3) := by decide +kernel
theorem dX9_undo_14 : decode cX9_undo 14 = .ok (.aload_n 0, 1) := by decide +kernel
theorem dX9_undo_15 : decode cX9_undo 15 = .ok (.getfield 36, 3) := by decide +kernel
theorem dX9_undo_18 : decode cX9_undo 18 = .ok (.getfield 145, 3) := by decide +kernel
theorem dX9_undo_21 : decode cX9_undo 21 = .ok (.goto 5, 3) := by decide +kernel
theorem dX9_undo_24 : decode cX9_undo 24 = .ok (.ldc 219, 2) := by decide +kernel
theorem dX9_undo_26 : decode cX9_undo 26 = .ok (.ireturn, 1) := by decide +kernel
theorem dX9_where_0 : decode cX9_where 0 = .ok (.aload_n 0, 1) := by decide +kernel
theorem dX9_where_1 : decode cX9_where 1 = .ok (.getfield 25, 3) := by decide +kernel
theorem dX9_where_4 : decode cX9_where 4 = .ok (.iload_n 1, 1) := by decide +kernel
theorem dX9_where_5 : decode cX9_where 5 = .ok (.invokevirtual 154, 3) := by decide +kernel
theorem dX9_where_8 : decode cX9_where 8 = .ok (.ifCond .ne 6, 3) := by decide +kernel
theorem dX9_where_11 : decode cX9_where 11 = .ok (.ldc 153, 2) := by decide +kernel
theorem dX9_where_13 : decode cX9_where 13 = .ok (.ireturn, 1) := by decide +kernel
theorem dX9_where_14 : decode cX9_where 14 = .ok (.iload_n 2, 1) := by decide +kernel
theorem dX9_where_15 : decode cX9_where 15 = .ok (.iconst 0, 1) := by decide +kernel
theorem dX9_where_16 : decode cX9_where 16 = .ok (.invokestatic 247, 3) := by decide +kernel
theorem dX9_where_19 : decode cX9_where 19 = .ok (.ifCond .eq 15, 3) := by decide +kernel
theorem dX9_where_22 : decode cX9_where 22 = .ok (.aload_n 0, 1) := by decide +kernel
theorem dX9_where_23 : decode cX9_where 23 = .ok (.getfield 29, 3) := by decide +kernel
theorem dX9_where_26 : decode cX9_where 26 = .ok (.iload_n 1, 1) := by decide +kernel
theorem dX9_where_27 : decode cX9_where 27 = .ok (.iload_n 2, 1) := by decide +kernel
theorem dX9_where_28 : decode cX9_where 28 = .ok (.invokevirtual 250, 3) := by decide +kernel
theorem dX9_where_31 : decode cX9_where 31 = .ok (.goto 5, 3) := by decide +kernel
theorem dX9_where_34 : decode cX9_where 34 = .ok (.ldc 74, 2) := by decide +kernel
theorem dX9_where_36 : decode cX9_where 36 = .ok (.ireturn, 1) := by decide +kernel
theorem dX9_meets_0 : decode cX9_meets 0 = .ok (.aload_n 0, 1) := by decide +kernel
theorem dX9_meets_1 : decode cX9_meets 1 = .ok (.getfield 25, 3) := by decide +kernel
theorem dX9_meets_4 : decode cX9_meets 4 = .ok (.iload_n 1, 1) := by decide +kernel
theorem dX9_meets_5 : decode cX9_meets 5 = .ok (.iload_n 2, 1) := by decide +kernel
theorem dX9_meets_6 : decode cX9_meets 6 = .ok (.invokevirtual 230, 3) := by decide +kernel
theorem dX9_meets_9 : decode cX9_meets 9 = .ok (.ifCond .eq 15, 3) := by decide +kernel
theorem dX9_meets_12 : decode cX9_meets 12 = .ok (.aload_n 0, 1) := by decide +kernel
theorem dX9_meets_13 : decode cX9_meets 13 = .ok (.getfield 52, 3) := by decide +kernel
theorem dX9_meets_16 : decode cX9_meets 16 = .ok (.iload_n 1, 1) := by decide +kernel
theorem dX9_meets_17 : decode cX9_meets 17 = .ok (.iload_n 2, 1) := by decide +kernel
theorem dX9_meets_18 : decode cX9_meets 18 = .ok (.invokevirtual 253, 3) := by decide +kernel
theorem dX9_meets_21 : decode cX9_meets 21 = .ok (.goto 5, 3) := by decide +kernel
theorem dX9_meets_24 : decode cX9_meets 24 = .ok (.ldc 153, 2) := by decide +kernel
theorem dX9_meets_26 : decode cX9_meets 26 = .ok (.ireturn, 1) := by decide +kernel
theorem dX9_way_0 : decode cX9_way 0 = .ok (.aload_n 0, 1) := by decide +kernel
theorem dX9_way_1 : decode cX9_way 1 = .ok (.getfield 25, 3) := by decide +kernel
theorem dX9_way_4 : decode cX9_way 4 = .ok (.iload_n 1, 1) := by decide +kernel
theorem dX9_way_5 : decode cX9_way 5 = .ok (.invokevirtual 147, 3) := by decide +kernel
theorem dX9_way_8 : decode cX9_way 8 = .ok (.ifCond .eq 14, 3) := by decide +kernel
theorem dX9_way_11 : decode cX9_way 11 = .ok (.aload_n 0, 1) := by decide +kernel
theorem dX9_way_12 : decode cX9_way 12 = .ok (.getfield 25, 3) := by decide +kernel
theorem dX9_way_15 : decode cX9_way 15 = .ok (.iload_n 2, 1) := by decide +kernel
theorem dX9_way_16 : decode cX9_way 16 = .ok (.invokevirtual 147, 3) := by decide +kernel
theorem dX9_way_19 : decode cX9_way 19 = .ok (.ifCond .ne 6, 3) := by decide +kernel
theorem dX9_way_22 : decode cX9_way 22 = .ok (.ldc 153, 2) := by decide +kernel
theorem dX9_way_24 : decode cX9_way 24 = .ok (.ireturn, 1) := by decide +kernel
theorem dX9_way_25 : decode cX9_way 25 = .ok (.iload_n 3, 1) := by decide +kernel
theorem dX9_way_26 : decode cX9_way 26 = .ok (.lookupswitch 46 #[(0, 26), (1, 36)], 26) := by decide +kernel
theorem dX9_way_52 : decode cX9_way 52 = .ok (.aload_n 0, 1) := by decide +kernel
theorem dX9_way_53 : decode cX9_way 53 = .ok (.getfield 25, 3) := by decide +kernel
theorem dX9_way_56 : decode cX9_way 56 = .ok (.iload_n 1, 1) := by decide +kernel
theorem dX9_way_57 : decode cX9_way 57 = .ok (.iload_n 2, 1) := by decide +kernel
theorem dX9_way_58 : decode cX9_way 58 = .ok (.invokevirtual 256, 3) := by decide +kernel
theorem dX9_way_61 : decode cX9_way 61 = .ok (.ireturn, 1) := by decide +kernel
theorem dX9_way_62 : decode cX9_way 62 = .ok (.aload_n 0, 1) := by decide +kernel
theorem dX9_way_63 : decode cX9_way 63 = .ok (.getfield 25, 3) := by decide +kernel
theorem dX9_way_66 : decode cX9_way 66 = .ok (.iload_n 1, 1) := by decide +kernel
theorem dX9_way_67 : decode cX9_way 67 = .ok (.iload_n 2, 1) := by decide +kernel
theorem dX9_way_68 : decode cX9_way 68 = .ok (.invokevirtual 259, 3) := by decide +kernel
theorem dX9_way_71 : decode cX9_way 71 = .ok (.ireturn, 1) := by decide +kernel
theorem dX9_way_72 : decode cX9_way 72 = .ok (.ldc 74, 2) := by decide +kernel
theorem dX9_way_74 : decode cX9_way 74 = .ok (.ireturn, 1) := by decide +kernel
theorem dX9_delays_0 : decode cX9_delays 0 = .ok (.iload_n 1, 1) := by decide +kernel
theorem dX9_delays_1 : decode cX9_delays 1 = .ok (.iconst (-1), 1) := by decide +kernel
theorem dX9_delays_2 : decode cX9_delays 2 = .ok (.if_icmp .eq 17, 3) := by decide +kernel
theorem dX9_delays_5 : decode cX9_delays 5 = .ok (.aload_n 0, 1) := by decide +kernel
theorem dX9_delays_6 : decode cX9_delays 6 = .ok (.getfield 25, 3) := by decide +kernel
theorem dX9_delays_9 : decode cX9_delays 9 = .ok (.iload_n 1, 1) := by decide +kernel
theorem dX9_delays_10 : decode cX9_delays 10 = .ok (.invokevirtual 154, 3) := by decide +kernel
theorem dX9_delays_13 : decode cX9_delays 13 = .ok (.ifCond .ne 6, 3) := by decide +kernel
theorem dX9_delays_16 : decode cX9_delays 16 = .ok (.ldc 153, 2) := by decide +kernel
theorem dX9_delays_18 : decode cX9_delays 18 = .ok (.ireturn, 1) := by decide +kernel
theorem dX9_delays_19 : decode cX9_delays 19 = .ok (.aload_n 0, 1) := by decide +kernel
theorem dX9_delays_20 : decode cX9_delays 20 = .ok (.getfield 52, 3) := by decide +kernel
theorem dX9_delays_23 : decode cX9_delays 23 = .ok (.invokevirtual 262, 3) := by decide +kernel
theorem dX9_delays_26 : decode cX9_delays 26 = .ok (.aload_n 0, 1) := by decide +kernel
theorem dX9_delays_27 : decode cX9_delays 27 = .ok (.getfield 52, 3) := by decide +kernel
theorem dX9_delays_30 : decode cX9_delays 30 = .ok (.iload_n 1, 1) := by decide +kernel
theorem dX9_delays_31 : decode cX9_delays 31 = .ok (.invokevirtual 265, 3) := by decide +kernel
theorem dX9_delays_34 : decode cX9_delays 34 = .ok (.ireturn, 1) := by decide +kernel
theorem dX9_served_0 : decode cX9_served 0 = .ok (.iload_n 1, 1) := by decide +kernel
theorem dX9_served_1 : decode cX9_served 1 = .ok (.iconst (-1), 1) := by decide +kernel
theorem dX9_served_2 : decode cX9_served 2 = .ok (.if_icmp .eq 17, 3) := by decide +kernel
theorem dX9_served_5 : decode cX9_served 5 = .ok (.aload_n 0, 1) := by decide +kernel
theorem dX9_served_6 : decode cX9_served 6 = .ok (.getfield 25, 3) := by decide +kernel
theorem dX9_served_9 : decode cX9_served 9 = .ok (.iload_n 1, 1) := by decide +kernel
theorem dX9_served_10 : decode cX9_served 10 = .ok (.invokevirtual 268, 3) := by decide +kernel
theorem dX9_served_13 : decode cX9_served 13 = .ok (.ifCond .ne 6, 3) := by decide +kernel
theorem dX9_served_16 : decode cX9_served 16 = .ok (.ldc 153, 2) := by decide +kernel
theorem dX9_served_18 : decode cX9_served 18 = .ok (.ireturn, 1) := by decide +kernel
theorem dX9_served_19 : decode cX9_served 19 = .ok (.aload_n 0, 1) := by decide +kernel
theorem dX9_served_20 : decode cX9_served 20 = .ok (.getfield 59, 3) := by decide +kernel
theorem dX9_served_23 : decode cX9_served 23 = .ok (.invokevirtual 271, 3) := by decide +kernel
theorem dX9_served_26 : decode cX9_served 26 = .ok (.aload_n 0, 1) := by decide +kernel
theorem dX9_served_27 : decode cX9_served 27 = .ok (.getfield 59, 3) := by decide +kernel
theorem dX9_served_30 : decode cX9_served 30 = .ok (.iload_n 1, 1) := by decide +kernel
theorem dX9_served_31 : decode cX9_served 31 = .ok (.invokevirtual 272, 3) := by decide +kernel
theorem dX9_served_34 : decode cX9_served 34 = .ok (.ireturn, 1) := by decide +kernel
theorem dX9_evened_0 : decode cX9_evened 0 = .ok (.aload_n 0, 1) := by decide +kernel
theorem dX9_evened_1 : decode cX9_evened 1 = .ok (.getfield 25, 3) := by decide +kernel
theorem dX9_evened_4 : decode cX9_evened 4 = .ok (.iload_n 1, 1) := by decide +kernel
theorem dX9_evened_5 : decode cX9_evened 5 = .ok (.invokevirtual 154, 3) := by decide +kernel
theorem dX9_evened_8 : decode cX9_evened 8 = .ok (.ifCond .ne 6, 3) := by decide +kernel
theorem dX9_evened_11 : decode cX9_evened 11 = .ok (.ldc 153, 2) := by decide +kernel
theorem dX9_evened_13 : decode cX9_evened 13 = .ok (.ireturn, 1) := by decide +kernel
theorem dX9_evened_14 : decode cX9_evened 14 = .ok (.aload_n 0, 1) := by decide +kernel
theorem dX9_evened_15 : decode cX9_evened 15 = .ok (.getfield 29, 3) := by decide +kernel
theorem dX9_evened_18 : decode cX9_evened 18 = .ok (.iload_n 1, 1) := by decide +kernel
theorem dX9_evened_19 : decode cX9_evened 19 = .ok (.invokevirtual 168, 3) := by decide +kernel
theorem dX9_evened_22 : decode cX9_evened 22 = .ok (.istore_n 3, 1) := by decide +kernel
theorem dX9_evened_23 : decode cX9_evened 23 = .ok (.iload_n 2, 1) := by decide +kernel
theorem dX9_evened_24 : decode cX9_evened 24 = .ok (.lookupswitch 54 #[(0, 28), (1, 37)], 28) := by decide +kernel
theorem dX9_evened_52 : decode cX9_evened 52 = .ok (.aload_n 0, 1) := by decide +kernel
theorem dX9_evened_53 : decode cX9_evened 53 = .ok (.getfield 25, 3) := by decide +kernel
theorem dX9_evened_56 : decode cX9_evened 56 = .ok (.iload_n 3, 1) := by decide +kernel
theorem dX9_evened_57 : decode cX9_evened 57 = .ok (.invokevirtual 273, 3) := by decide +kernel
theorem dX9_evened_60 : decode cX9_evened 60 = .ok (.ireturn, 1) := by decide +kernel
theorem dX9_evened_61 : decode cX9_evened 61 = .ok (.aload_n 0, 1) := by decide +kernel
theorem dX9_evened_62 : decode cX9_evened 62 = .ok (.getfield 25, 3) := by decide +kernel
theorem dX9_evened_65 : decode cX9_evened 65 = .ok (.iload_n 3, 1) := by decide +kernel
theorem dX9_evened_66 : decode cX9_evened 66 = .ok (.aload_n 0, 1) := by decide +kernel
theorem dX9_evened_67 : decode cX9_evened 67 = .ok (.getfield 25, 3) := by decide +kernel
theorem dX9_evened_70 : decode cX9_evened 70 = .ok (.iload_n 3, 1) := by decide +kernel
theorem dX9_evened_71 : decode cX9_evened 71 = .ok (.invokevirtual 273, 3) := by decide +kernel
theorem dX9_evened_74 : decode cX9_evened 74 = .ok (.invokevirtual 276, 3) := by decide +kernel
theorem dX9_evened_77 : decode cX9_evened 77 = .ok (.ireturn, 1) := by decide +kernel
theorem dX9_evened_78 : decode cX9_evened 78 = .ok (.ldc 74, 2) := by decide +kernel
theorem dX9_evened_80 : decode cX9_evened 80 = .ok (.ireturn, 1) := by decide +kernel
theorem dX9_packed_0 : decode cX9_packed 0 = .ok (.aload_n 0, 1) := by decide +kernel
theorem dX9_packed_1 : decode cX9_packed 1 = .ok (.getfield 25, 3) := by decide +kernel
theorem dX9_packed_4 : decode cX9_packed 4 = .ok (.iload_n 1, 1) := by decide +kernel
theorem dX9_packed_5 : decode cX9_packed 5 = .ok (.invokevirtual 154, 3) := by decide +kernel
theorem dX9_packed_8 : decode cX9_packed 8 = .ok (.ifCond .ne 6, 3) := by decide +kernel
theorem dX9_packed_11 : decode cX9_packed 11 = .ok (.ldc 153, 2) := by decide +kernel
theorem dX9_packed_13 : decode cX9_packed 13 = .ok (.ireturn, 1) := by decide +kernel
theorem dX9_packed_14 : decode cX9_packed 14 = .ok (.aload_n 0, 1) := by decide +kernel
theorem dX9_packed_15 : decode cX9_packed 15 = .ok (.getfield 25, 3) := by decide +kernel
theorem dX9_packed_18 : decode cX9_packed 18 = .ok (.getfield 160, 3) := by decide +kernel
theorem dX9_packed_21 : decode cX9_packed 21 = .ok (.iload_n 1, 1) := by decide +kernel
theorem dX9_packed_22 : decode cX9_packed 22 = .ok (.iaload, 1) := by decide +kernel
theorem dX9_packed_23 : decode cX9_packed 23 = .ok (.aload_n 0, 1) := by decide +kernel
theorem dX9_packed_24 : decode cX9_packed 24 = .ok (.getfield 25, 3) := by decide +kernel
theorem dX9_packed_27 : decode cX9_packed 27 = .ok (.aload_n 0, 1) := by decide +kernel
theorem dX9_packed_28 : decode cX9_packed 28 = .ok (.getfield 29, 3) := by decide +kernel
theorem dX9_packed_31 : decode cX9_packed 31 = .ok (.iload_n 1, 1) := by decide +kernel
theorem dX9_packed_32 : decode cX9_packed 32 = .ok (.invokevirtual 168, 3) := by decide +kernel
theorem dX9_packed_35 : decode cX9_packed 35 = .ok (.invokevirtual 171, 3) := by decide +kernel
theorem dX9_packed_38 : decode cX9_packed 38 = .ok (.isub, 1) := by decide +kernel
theorem dX9_packed_39 : decode cX9_packed 39 = .ok (.istore_n 3, 1) := by decide +kernel
theorem dX9_packed_40 : decode cX9_packed 40 = .ok (.aload_n 0, 1) := by decide +kernel
theorem dX9_packed_41 : decode cX9_packed 41 = .ok (.getfield 29, 3) := by decide +kernel
theorem dX9_packed_44 : decode cX9_packed 44 = .ok (.iconst (-1), 1) := by decide +kernel
theorem dX9_packed_45 : decode cX9_packed 45 = .ok (.invokevirtual 132, 3) := by decide +kernel
theorem dX9_packed_48 : decode cX9_packed 48 = .ok (.istore 4, 2) := by decide +kernel
theorem dX9_packed_50 : decode cX9_packed 50 = .ok (.iload_n 2, 1) := by decide +kernel
theorem dX9_packed_51 : decode cX9_packed 51 = .ok (.lookupswitch 54 #[(0, 25), (1, 36)], 25) := by decide +kernel
theorem dX9_packed_76 : decode cX9_packed 76 = .ok (.aload_n 0, 1) := by decide +kernel
theorem dX9_packed_77 : decode cX9_packed 77 = .ok (.getfield 25, 3) := by decide +kernel
theorem dX9_packed_80 : decode cX9_packed 80 = .ok (.iload 4, 2) := by decide +kernel
theorem dX9_packed_82 : decode cX9_packed 82 = .ok (.iload_n 3, 1) := by decide +kernel
theorem dX9_packed_83 : decode cX9_packed 83 = .ok (.invokevirtual 279, 3) := by decide +kernel
theorem dX9_packed_86 : decode cX9_packed 86 = .ok (.ireturn, 1) := by decide +kernel
theorem dX9_packed_87 : decode cX9_packed 87 = .ok (.aload_n 0, 1) := by decide +kernel
theorem dX9_packed_88 : decode cX9_packed 88 = .ok (.getfield 25, 3) := by decide +kernel
theorem dX9_packed_91 : decode cX9_packed 91 = .ok (.aload_n 0, 1) := by decide +kernel
theorem dX9_packed_92 : decode cX9_packed 92 = .ok (.getfield 25, 3) := by decide +kernel
theorem dX9_packed_95 : decode cX9_packed 95 = .ok (.iload 4, 2) := by decide +kernel
theorem dX9_packed_97 : decode cX9_packed 97 = .ok (.iload_n 3, 1) := by decide +kernel
theorem dX9_packed_98 : decode cX9_packed 98 = .ok (.invokevirtual 279, 3) := by decide +kernel
theorem dX9_packed_101 : decode cX9_packed 101 = .ok (.invokevirtual 136, 3) := by decide +kernel
theorem dX9_packed_104 : decode cX9_packed 104 = .ok (.ireturn, 1) := by decide +kernel
theorem dX9_packed_105 : decode cX9_packed 105 = .ok (.ldc 74, 2) := by decide +kernel
theorem dX9_packed_107 : decode cX9_packed 107 = .ok (.ireturn, 1) := by decide +kernel
theorem dX9_covered_0 : decode cX9_covered 0 = .ok (.aload_n 0, 1) := by decide +kernel
theorem dX9_covered_1 : decode cX9_covered 1 = .ok (.getfield 25, 3) := by decide +kernel
theorem dX9_covered_4 : decode cX9_covered 4 = .ok (.iload_n 1, 1) := by decide +kernel
theorem dX9_covered_5 : decode cX9_covered 5 = .ok (.invokevirtual 147, 3) := by decide +kernel
theorem dX9_covered_8 : decode cX9_covered 8 = .ok (.ifCond .ne 6, 3) := by decide +kernel
theorem dX9_covered_11 : decode cX9_covered 11 = .ok (.ldc 153, 2) := by decide +kernel
theorem dX9_covered_13 : decode cX9_covered 13 = .ok (.ireturn, 1) := by decide +kernel
theorem dX9_covered_14 : decode cX9_covered 14 = .ok (.iload_n 2, 1) := by decide +kernel
theorem dX9_covered_15 : decode cX9_covered 15 = .ok (.iconst 0, 1) := by decide +kernel
theorem dX9_covered_16 : decode cX9_covered 16 = .ok (.invokestatic 247, 3) := by decide +kernel
theorem dX9_covered_19 : decode cX9_covered 19 = .ok (.ifCond .ne 6, 3) := by decide +kernel
theorem dX9_covered_22 : decode cX9_covered 22 = .ok (.ldc 74, 2) := by decide +kernel
theorem dX9_covered_24 : decode cX9_covered 24 = .ok (.ireturn, 1) := by decide +kernel
theorem dX9_covered_25 : decode cX9_covered 25 = .ok (.iconst 1, 1) := by decide +kernel
theorem dX9_covered_26 : decode cX9_covered 26 = .ok (.iload_n 1, 1) := by decide +kernel
theorem dX9_covered_27 : decode cX9_covered 27 = .ok (.ishl, 1) := by decide +kernel
theorem dX9_covered_28 : decode cX9_covered 28 = .ok (.istore_n 3, 1) := by decide +kernel
theorem dX9_covered_29 : decode cX9_covered 29 = .ok (.iconst 0, 1) := by decide +kernel
theorem dX9_covered_30 : decode cX9_covered 30 = .ok (.istore 4, 2) := by decide +kernel
theorem dX9_covered_32 : decode cX9_covered 32 = .ok (.iload 4, 2) := by decide +kernel
theorem dX9_covered_34 : decode cX9_covered 34 = .ok (.iload_n 2, 1) := by decide +kernel
theorem dX9_covered_35 : decode cX9_covered 35 = .ok (.if_icmp .ge 18, 3) := by decide +kernel
theorem dX9_covered_38 : decode cX9_covered 38 = .ok (.aload_n 0, 1) := by decide +kernel
theorem dX9_covered_39 : decode cX9_covered 39 = .ok (.getfield 25, 3) := by decide +kernel
theorem dX9_covered_42 : decode cX9_covered 42 = .ok (.iload_n 3, 1) := by decide +kernel
theorem dX9_covered_43 : decode cX9_covered 43 = .ok (.invokevirtual 282, 3) := by decide +kernel
theorem dX9_covered_46 : decode cX9_covered 46 = .ok (.istore_n 3, 1) := by decide +kernel
theorem dX9_covered_47 : decode cX9_covered 47 = .ok (.iinc 4 1, 3) := by decide +kernel
theorem dX9_covered_50 : decode cX9_covered 50 = .ok (.goto (-18), 3) := by decide +kernel
theorem dX9_covered_53 : decode cX9_covered 53 = .ok (.iload_n 3, 1) := by decide +kernel
theorem dX9_covered_54 : decode cX9_covered 54 = .ok (.ireturn, 1) := by decide +kernel
theorem dX9_calm_0 : decode cX9_calm 0 = .ok (.iload_n 1, 1) := by decide +kernel
theorem dX9_calm_1 : decode cX9_calm 1 = .ok (.ifCond .lt 19, 3) := by decide +kernel
theorem dX9_calm_4 : decode cX9_calm 4 = .ok (.iload_n 1, 1) := by decide +kernel
theorem dX9_calm_5 : decode cX9_calm 5 = .ok (.bipush 60, 2) := by decide +kernel
theorem dX9_calm_7 : decode cX9_calm 7 = .ok (.if_icmp .gt 13, 3) := by decide +kernel
theorem dX9_calm_10 : decode cX9_calm 10 = .ok (.iload_n 2, 1) := by decide +kernel
theorem dX9_calm_11 : decode cX9_calm 11 = .ok (.ifCond .lt 9, 3) := by decide +kernel
theorem dX9_calm_14 : decode cX9_calm 14 = .ok (.iload_n 2, 1) := by decide +kernel
theorem dX9_calm_15 : decode cX9_calm 15 = .ok (.bipush 100, 2) := by decide +kernel
theorem dX9_calm_17 : decode cX9_calm 17 = .ok (.if_icmp .le 6, 3) := by decide +kernel
theorem dX9_calm_20 : decode cX9_calm 20 = .ok (.ldc 74, 2) := by decide +kernel
theorem dX9_calm_22 : decode cX9_calm 22 = .ok (.ireturn, 1) := by decide +kernel
theorem dX9_calm_23 : decode cX9_calm 23 = .ok (.ldc2_w 285, 3) := by decide +kernel
theorem dX9_calm_26 : decode cX9_calm 26 = .ok (.lstore_n 3, 1) := by decide +kernel
theorem dX9_calm_27 : decode cX9_calm 27 = .ok (.iconst 0, 1) := by decide +kernel
theorem dX9_calm_28 : decode cX9_calm 28 = .ok (.istore 5, 2) := by decide +kernel
theorem dX9_calm_30 : decode cX9_calm 30 = .ok (.iload 5, 2) := by decide +kernel
theorem dX9_calm_32 : decode cX9_calm 32 = .ok (.iload_n 1, 1) := by decide +kernel
theorem dX9_calm_33 : decode cX9_calm 33 = .ok (.if_icmp .ge 21, 3) := by decide +kernel
theorem dX9_calm_36 : decode cX9_calm 36 = .ok (.lload_n 3, 1) := by decide +kernel
theorem dX9_calm_37 : decode cX9_calm 37 = .ok (.bipush 100, 2) := by decide +kernel
theorem dX9_calm_39 : decode cX9_calm 39 = .ok (.iload_n 2, 1) := by decide +kernel
theorem dX9_calm_40 : decode cX9_calm 40 = .ok (.isub, 1) := by decide +kernel
theorem dX9_calm_41 : decode cX9_calm 41 = .ok (.i2l, 1) := by decide +kernel
theorem dX9_calm_42 : decode cX9_calm 42 = .ok (.lmul, 1) := by decide +kernel
theorem dX9_calm_43 : decode cX9_calm 43 = .ok (.ldc2_w 287, 3) := by decide +kernel
theorem dX9_calm_46 : decode cX9_calm 46 = .ok (.ldiv, 1) := by decide +kernel
theorem dX9_calm_47 : decode cX9_calm 47 = .ok (.lstore_n 3, 1) := by decide +kernel
theorem dX9_calm_48 : decode cX9_calm 48 = .ok (.iinc 5 1, 3) := by decide +kernel
theorem dX9_calm_51 : decode cX9_calm 51 = .ok (.goto (-21), 3) := by decide +kernel
theorem dX9_calm_54 : decode cX9_calm 54 = .ok (.lload_n 3, 1) := by decide +kernel
theorem dX9_calm_55 : decode cX9_calm 55 = .ok (.l2i, 1) := by decide +kernel
theorem dX9_calm_56 : decode cX9_calm 56 = .ok (.ireturn, 1) := by decide +kernel
theorem dX9_see_0 : decode cX9_see 0 = .ok (.aload_n 0, 1) := by decide +kernel
theorem dX9_see_1 : decode cX9_see 1 = .ok (.getfield 25, 3) := by decide +kernel
theorem dX9_see_4 : decode cX9_see 4 = .ok (.iload_n 1, 1) := by decide +kernel
theorem dX9_see_5 : decode cX9_see 5 = .ok (.invokevirtual 147, 3) := by decide +kernel
theorem dX9_see_8 : decode cX9_see 8 = .ok (.ifCond .ne 6, 3) := by decide +kernel
theorem dX9_see_11 : decode cX9_see 11 = .ok (.ldc 153, 2) := by decide +kernel
theorem dX9_see_13 : decode cX9_see 13 = .ok (.ireturn, 1) := by decide +kernel
theorem dX9_see_14 : decode cX9_see 14 = .ok (.iload_n 2, 1) := by decide +kernel
theorem dX9_see_15 : decode cX9_see 15 = .ok (.iconst 1, 1) := by decide +kernel
theorem dX9_see_16 : decode cX9_see 16 = .ok (.invokestatic 247, 3) := by decide +kernel
theorem dX9_see_19 : decode cX9_see 19 = .ok (.ifCond .ne 6, 3) := by decide +kernel
theorem dX9_see_22 : decode cX9_see 22 = .ok (.ldc 74, 2) := by decide +kernel
theorem dX9_see_24 : decode cX9_see 24 = .ok (.ireturn, 1) := by decide +kernel
theorem dX9_see_25 : decode cX9_see 25 = .ok (.aload_n 0, 1) := by decide +kernel
theorem dX9_see_26 : decode cX9_see 26 = .ok (.getfield 66, 3) := by decide +kernel
theorem dX9_see_29 : decode cX9_see 29 = .ok (.iload_n 1, 1) := by decide +kernel
theorem dX9_see_30 : decode cX9_see 30 = .ok (.iload_n 2, 1) := by decide +kernel
theorem dX9_see_31 : decode cX9_see 31 = .ok (.iload_n 3, 1) := by decide +kernel
theorem dX9_see_32 : decode cX9_see 32 = .ok (.invokevirtual 289, 3) := by decide +kernel
theorem dX9_see_35 : decode cX9_see 35 = .ok (.ifCond .eq 13, 3) := by decide +kernel
theorem dX9_see_38 : decode cX9_see 38 = .ok (.aload_n 0, 1) := by decide +kernel
theorem dX9_see_39 : decode cX9_see 39 = .ok (.getfield 66, 3) := by decide +kernel
theorem dX9_see_42 : decode cX9_see 42 = .ok (.getfield 139, 3) := by decide +kernel
theorem dX9_see_45 : decode cX9_see 45 = .ok (.goto 5, 3) := by decide +kernel
theorem dX9_see_48 : decode cX9_see 48 = .ok (.ldc 83, 2) := by decide +kernel
theorem dX9_see_50 : decode cX9_see 50 = .ok (.ireturn, 1) := by decide +kernel
theorem dX9_spiller_0 : decode cX9_spiller 0 = .ok (.aload_n 0, 1) := by decide +kernel
theorem dX9_spiller_1 : decode cX9_spiller 1 = .ok (.getfield 66, 3) := by decide +kernel
theorem dX9_spiller_4 : decode cX9_spiller 4 = .ok (.invokevirtual 293, 3) := by decide +kernel
theorem dX9_spiller_7 : decode cX9_spiller 7 = .ok (.ireturn, 1) := by decide +kernel
theorem dX9_look_0 : decode cX9_look 0 = .ok (.aload_n 0, 1) := by decide +kernel
theorem dX9_look_1 : decode cX9_look 1 = .ok (.getfield 66, 3) := by decide +kernel
theorem dX9_look_4 : decode cX9_look 4 = .ok (.invokevirtual 296, 3) := by decide +kernel
theorem dX9_look_7 : decode cX9_look 7 = .ok (.ireturn, 1) := by decide +kernel
theorem dX9_write_0 : decode cX9_write 0 = .ok (.aload_n 0, 1) := by decide +kernel
theorem dX9_write_1 : decode cX9_write 1 = .ok (.getfield 25, 3) := by decide +kernel
theorem dX9_write_4 : decode cX9_write 4 = .ok (.iload_n 1, 1) := by decide +kernel
theorem dX9_write_5 : decode cX9_write 5 = .ok (.invokevirtual 154, 3) := by decide +kernel
theorem dX9_write_8 : decode cX9_write 8 = .ok (.ifCond .eq 14, 3) := by decide +kernel
theorem dX9_write_11 : decode cX9_write 11 = .ok (.aload_n 0, 1) := by decide +kernel
theorem dX9_write_12 : decode cX9_write 12 = .ok (.getfield 25, 3) := by decide +kernel
theorem dX9_write_15 : decode cX9_write 15 = .ok (.iload_n 2, 1) := by decide +kernel
theorem dX9_write_16 : decode cX9_write 16 = .ok (.invokevirtual 147, 3) := by decide +kernel
theorem dX9_write_19 : decode cX9_write 19 = .ok (.ifCond .ne 6, 3) := by decide +kernel
theorem dX9_write_22 : decode cX9_write 22 = .ok (.ldc 153, 2) := by decide +kernel
theorem dX9_write_24 : decode cX9_write 24 = .ok (.ireturn, 1) := by decide +kernel
theorem dX9_write_25 : decode cX9_write 25 = .ok (.aload_n 0, 1) := by decide +kernel
theorem dX9_write_26 : decode cX9_write 26 = .ok (.getfield 66, 3) := by decide +kernel
theorem dX9_write_29 : decode cX9_write 29 = .ok (.iload_n 1, 1) := by decide +kernel
theorem dX9_write_30 : decode cX9_write 30 = .ok (.iload_n 2, 1) := by decide +kernel
theorem dX9_write_31 : decode cX9_write 31 = .ok (.invokevirtual 299, 3) := by decide +kernel
theorem dX9_write_34 : decode cX9_write 34 = .ok (.ifCond .eq 13, 3) := by decide +kernel
theorem dX9_write_37 : decode cX9_write 37 = .ok (.aload_n 0, 1) := by decide +kernel
theorem dX9_write_38 : decode cX9_write 38 = .ok (.getfield 66, 3) := by decide +kernel
theorem dX9_write_41 : decode cX9_write 41 = .ok (.getfield 142, 3) := by decide +kernel
theorem dX9_write_44 : decode cX9_write 44 = .ok (.goto 5, 3) := by decide +kernel
theorem dX9_write_47 : decode cX9_write 47 = .ok (.ldc 83, 2) := by decide +kernel
theorem dX9_write_49 : decode cX9_write 49 = .ok (.ireturn, 1) := by decide +kernel
theorem dX9_tear_0 : decode cX9_tear 0 = .ok (.aload_n 0, 1) := by decide +kernel
theorem dX9_tear_1 : decode cX9_tear 1 = .ok (.getfield 66, 3) := by decide +kernel
theorem dX9_tear_4 : decode cX9_tear 4 = .ok (.getfield 139, 3) := by decide +kernel
theorem dX9_tear_7 : decode cX9_tear 7 = .ok (.aload_n 0, 1) := by decide +kernel
theorem dX9_tear_8 : decode cX9_tear 8 = .ok (.getfield 66, 3) := by decide +kernel
theorem dX9_tear_11 : decode cX9_tear 11 = .ok (.getfield 142, 3) := by decide +kernel
theorem dX9_tear_14 : decode cX9_tear 14 = .ok (.iadd, 1) := by decide +kernel
theorem dX9_tear_15 : decode cX9_tear 15 = .ok (.istore_n 1, 1) := by decide +kernel
theorem dX9_tear_16 : decode cX9_tear 16 = .ok (.aload_n 0, 1) := by decide +kernel
theorem dX9_tear_17 : decode cX9_tear 17 = .ok (.getfield 66, 3) := by decide +kernel
theorem dX9_tear_20 : decode cX9_tear 20 = .ok (.invokevirtual 101, 3) := by decide +kernel
theorem dX9_tear_23 : decode cX9_tear 23 = .ok (.iload_n 1, 1) := by decide +kernel
theorem dX9_tear_24 : decode cX9_tear 24 = .ok (.ireturn, 1) := by decide +kernel
theorem dX9_judge_0 : decode cX9_judge 0 = .ok (.aload_n 0, 1) := by decide +kernel
theorem dX9_judge_1 : decode cX9_judge 1 = .ok (.getfield 66, 3) := by decide +kernel
theorem dX9_judge_4 : decode cX9_judge 4 = .ok (.invokevirtual 302, 3) := by decide +kernel
theorem dX9_judge_7 : decode cX9_judge 7 = .ok (.ireturn, 1) := by decide +kernel
theorem dX9_seed_0 : decode cX9_seed 0 = .ok (.iload_n 1, 1) := by decide +kernel
theorem dX9_seed_1 : decode cX9_seed 1 = .ok (.ifCond .ge 6, 3) := by decide +kernel
theorem dX9_seed_4 : decode cX9_seed 4 = .ok (.ldc 74, 2) := by decide +kernel
theorem dX9_seed_6 : decode cX9_seed 6 = .ok (.ireturn, 1) := by decide +kernel
theorem dX9_seed_7 : decode cX9_seed 7 = .ok (.aload_n 0, 1) := by decide +kernel
theorem dX9_seed_8 : decode cX9_seed 8 = .ok (.getfield 45, 3) := by decide +kernel
theorem dX9_seed_11 : decode cX9_seed 11 = .ok (.getfield 305, 3) := by decide +kernel
theorem dX9_seed_14 : decode cX9_seed 14 = .ok (.istore_n 2, 1) := by decide +kernel
theorem dX9_seed_15 : decode cX9_seed 15 = .ok (.aload_n 0, 1) := by decide +kernel
theorem dX9_seed_16 : decode cX9_seed 16 = .ok (.getfield 45, 3) := by decide +kernel
theorem dX9_seed_19 : decode cX9_seed 19 = .ok (.iload_n 1, 1) := by decide +kernel
theorem dX9_seed_20 : decode cX9_seed 20 = .ok (.putfield 305, 3) := by decide +kernel
theorem dX9_seed_23 : decode cX9_seed 23 = .ok (.iload_n 2, 1) := by decide +kernel
theorem dX9_seed_24 : decode cX9_seed 24 = .ok (.ireturn, 1) := by decide +kernel
theorem dX9_keep_0 : decode cX9_keep 0 = .ok (.iload_n 1, 1) := by decide +kernel
theorem dX9_keep_1 : decode cX9_keep 1 = .ok (.ifCond .lt 12, 3) := by decide +kernel
theorem dX9_keep_4 : decode cX9_keep 4 = .ok (.iload_n 1, 1) := by decide +kernel
theorem dX9_keep_5 : decode cX9_keep 5 = .ok (.aload_n 0, 1) := by decide +kernel
theorem dX9_keep_6 : decode cX9_keep 6 = .ok (.getfield 70, 3) := by decide +kernel
theorem dX9_keep_9 : decode cX9_keep 9 = .ok (.arraylength, 1) := by decide +kernel
theorem dX9_keep_10 : decode cX9_keep 10 = .ok (.if_icmp .lt 6, 3) := by decide +kernel
theorem dX9_keep_13 : decode cX9_keep 13 = .ok (.ldc 153, 2) := by decide +kernel
theorem dX9_keep_15 : decode cX9_keep 15 = .ok (.ireturn, 1) := by decide +kernel
theorem dX9_keep_16 : decode cX9_keep 16 = .ok (.aload_n 0, 1) := by decide +kernel
theorem dX9_keep_17 : decode cX9_keep 17 = .ok (.getfield 70, 3) := by decide +kernel
theorem dX9_keep_20 : decode cX9_keep 20 = .ok (.iload_n 1, 1) := by decide +kernel
theorem dX9_keep_21 : decode cX9_keep 21 = .ok (.aaload, 1) := by decide +kernel
theorem dX9_keep_22 : decode cX9_keep 22 = .ok (.astore_n 2, 1) := by decide +kernel
theorem dX9_keep_23 : decode cX9_keep 23 = .ok (.aload_n 2, 1) := by decide +kernel
theorem dX9_keep_24 : decode cX9_keep 24 = .ok (.getfield 308, 3) := by decide +kernel
theorem dX9_keep_27 : decode cX9_keep 27 = .ok (.aload_n 0, 1) := by decide +kernel
theorem dX9_keep_28 : decode cX9_keep 28 = .ok (.getfield 29, 3) := by decide +kernel
theorem dX9_keep_31 : decode cX9_keep 31 = .ok (.invokevirtual 311, 3) := by decide +kernel
theorem dX9_keep_34 : decode cX9_keep 34 = .ok (.aload_n 2, 1) := by decide +kernel
theorem dX9_keep_35 : decode cX9_keep 35 = .ok (.aload_n 0, 1) := by decide +kernel
theorem dX9_keep_36 : decode cX9_keep 36 = .ok (.getfield 45, 3) := by decide +kernel
theorem dX9_keep_39 : decode cX9_keep 39 = .ok (.getfield 305, 3) := by decide +kernel
theorem dX9_keep_42 : decode cX9_keep 42 = .ok (.putfield 313, 3) := by decide +kernel
theorem dX9_keep_45 : decode cX9_keep 45 = .ok (.aload_n 2, 1) := by decide +kernel
theorem dX9_keep_46 : decode cX9_keep 46 = .ok (.iconst 1, 1) := by decide +kernel
theorem dX9_keep_47 : decode cX9_keep 47 = .ok (.putfield 104, 3) := by decide +kernel
theorem dX9_keep_50 : decode cX9_keep 50 = .ok (.aload_n 0, 1) := by decide +kernel
theorem dX9_keep_51 : decode cX9_keep 51 = .ok (.getfield 36, 3) := by decide +kernel
theorem dX9_keep_54 : decode cX9_keep 54 = .ok (.invokevirtual 98, 3) := by decide +kernel
theorem dX9_keep_57 : decode cX9_keep 57 = .ok (.iconst 1, 1) := by decide +kernel
theorem dX9_keep_58 : decode cX9_keep 58 = .ok (.ireturn, 1) := by decide +kernel
theorem dX9_goBack_0 : decode cX9_goBack 0 = .ok (.iload_n 1, 1) := by decide +kernel
theorem dX9_goBack_1 : decode cX9_goBack 1 = .ok (.ifCond .lt 12, 3) := by decide +kernel
theorem dX9_goBack_4 : decode cX9_goBack 4 = .ok (.iload_n 1, 1) := by decide +kernel
theorem dX9_goBack_5 : decode cX9_goBack 5 = .ok (.aload_n 0, 1) := by decide +kernel
theorem dX9_goBack_6 : decode cX9_goBack 6 = .ok (.getfield 70, 3) := by decide +kernel
theorem dX9_goBack_9 : decode cX9_goBack 9 = .ok (.arraylength, 1) := by decide +kernel
theorem dX9_goBack_10 : decode cX9_goBack 10 = .ok (.if_icmp .lt 6, 3) := by decide +kernel
theorem dX9_goBack_13 : decode cX9_goBack 13 = .ok (.ldc 153, 2) := by decide +kernel
theorem dX9_goBack_15 : decode cX9_goBack 15 = .ok (.ireturn, 1) := by decide +kernel
theorem dX9_goBack_16 : decode cX9_goBack 16 = .ok (.aload_n 0, 1) := by decide +kernel
theorem dX9_goBack_17 : decode cX9_goBack 17 = .ok (.getfield 70, 3) := by decide +kernel
theorem dX9_goBack_20 : decode cX9_goBack 20 = .ok (.iload_n 1, 1) := by decide +kernel
theorem dX9_goBack_21 : decode cX9_goBack 21 = .ok (.aaload, 1) := by decide +kernel
theorem dX9_goBack_22 : decode cX9_goBack 22 = .ok (.astore_n 2, 1) := by decide +kernel
theorem dX9_goBack_23 : decode cX9_goBack 23 = .ok (.aload_n 2, 1) := by decide +kernel
theorem dX9_goBack_24 : decode cX9_goBack 24 = .ok (.getfield 104, 3) := by decide +kernel
theorem dX9_goBack_27 : decode cX9_goBack 27 = .ok (.ifCond .ne 6, 3) := by decide +kernel
theorem dX9_goBack_30 : decode cX9_goBack 30 = .ok (.ldc 219, 2) := by decide +kernel
theorem dX9_goBack_32 : decode cX9_goBack 32 = .ok (.ireturn, 1) := by decide +kernel
theorem dX9_goBack_33 : decode cX9_goBack 33 = .ok (.aload_n 0, 1) := by decide +kernel
theorem dX9_goBack_34 : decode cX9_goBack 34 = .ok (.getfield 29, 3) := by decide +kernel
theorem dX9_goBack_37 : decode cX9_goBack 37 = .ok (.aload_n 2, 1) := by decide +kernel
theorem dX9_goBack_38 : decode cX9_goBack 38 = .ok (.getfield 308, 3) := by decide +kernel
theorem dX9_goBack_41 : decode cX9_goBack 41 = .ok (.invokevirtual 311, 3) := by decide +kernel
theorem dX9_goBack_44 : decode cX9_goBack 44 = .ok (.aload_n 0, 1) := by decide +kernel
theorem dX9_goBack_45 : decode cX9_goBack 45 = .ok (.getfield 45, 3) := by decide +kernel
theorem dX9_goBack_48 : decode cX9_goBack 48 = .ok (.aload_n 2, 1) := by decide +kernel
theorem dX9_goBack_49 : decode cX9_goBack 49 = .ok (.getfield 313, 3) := by decide +kernel
theorem dX9_goBack_52 : decode cX9_goBack 52 = .ok (.putfield 305, 3) := by decide +kernel
theorem dX9_goBack_55 : decode cX9_goBack 55 = .ok (.aload_n 0, 1) := by decide +kernel
theorem dX9_goBack_56 : decode cX9_goBack 56 = .ok (.getfield 36, 3) := by decide +kernel
theorem dX9_goBack_59 : decode cX9_goBack 59 = .ok (.invokevirtual 98, 3) := by decide +kernel
theorem dX9_goBack_62 : decode cX9_goBack 62 = .ok (.iconst 1, 1) := by decide +kernel
theorem dX9_goBack_63 : decode cX9_goBack 63 = .ok (.ireturn, 1) := by decide +kernel
theorem dX9_refusalOfMinutes_0 : decode cX9_refusalOfMinutes 0 = .ok (.iload_n 1, 1) := by decide +kernel
theorem dX9_refusalOfMinutes_1 : decode cX9_refusalOfMinutes 1 = .ok (.iconst 1, 1) := by decide +kernel
theorem dX9_refusalOfMinutes_2 : decode cX9_refusalOfMinutes 2 = .ok (.if_icmp .lt 9, 3) := by decide +kernel
theorem dX9_refusalOfMinutes_5 : decode cX9_refusalOfMinutes 5 = .ok (.iload_n 1, 1) := by decide +kernel
theorem dX9_refusalOfMinutes_6 : decode cX9_refusalOfMinutes 6 = .ok (.bipush 60, 2) := by decide +kernel
theorem dX9_refusalOfMinutes_8 : decode cX9_refusalOfMinutes 8 = .ok (.if_icmp .le 6, 3) := by decide +kernel
theorem dX9_refusalOfMinutes_11 : decode cX9_refusalOfMinutes 11 = .ok (.ldc 74, 2) := by decide +kernel
theorem dX9_refusalOfMinutes_13 : decode cX9_refusalOfMinutes 13 = .ok (.ireturn, 1) := by decide +kernel
theorem dX9_refusalOfMinutes_14 : decode cX9_refusalOfMinutes 14 = .ok (.aload_n 0, 1) := by decide +kernel
theorem dX9_refusalOfMinutes_15 : decode cX9_refusalOfMinutes 15 = .ok (.getfield 25, 3) := by decide +kernel
theorem dX9_refusalOfMinutes_18 : decode cX9_refusalOfMinutes 18 = .ok (.getfield 114, 3) := by decide +kernel
theorem dX9_refusalOfMinutes_21 : decode cX9_refusalOfMinutes 21 = .ok (.ifCond .ne 6, 3) := by decide +kernel
theorem dX9_refusalOfMinutes_24 : decode cX9_refusalOfMinutes 24 = .ok (.ldc 219, 2) := by decide +kernel
theorem dX9_refusalOfMinutes_26 : decode cX9_refusalOfMinutes 26 = .ok (.ireturn, 1) := by decide +kernel
theorem dX9_refusalOfMinutes_27 : decode cX9_refusalOfMinutes 27 = .ok (.aload_n 0, 1) := by decide +kernel
theorem dX9_refusalOfMinutes_28 : decode cX9_refusalOfMinutes 28 = .ok (.getfield 29, 3) := by decide +kernel
theorem dX9_refusalOfMinutes_31 : decode cX9_refusalOfMinutes 31 = .ok (.getfield 126, 3) := by decide +kernel
theorem dX9_refusalOfMinutes_34 : decode cX9_refusalOfMinutes 34 = .ok (.sipush 9000, 3) := by decide +kernel
theorem dX9_refusalOfMinutes_37 : decode cX9_refusalOfMinutes 37 = .ok (.if_icmp .le 8, 3) := by decide +kernel
theorem dX9_refusalOfMinutes_40 : decode cX9_refusalOfMinutes 40 = .ok (.ldc 83, 2) := by decide +kernel
theorem dX9_refusalOfMinutes_42 : decode cX9_refusalOfMinutes 42 = .ok (.goto 4, 3) := by decide +kernel
theorem dX9_refusalOfMinutes_45 : decode cX9_refusalOfMinutes 45 = .ok (.iconst 0, 1) := by decide +kernel
theorem dX9_refusalOfMinutes_46 : decode cX9_refusalOfMinutes 46 = .ok (.ireturn, 1) := by decide +kernel
theorem dX9_isForeseen_0 : decode cX9_isForeseen 0 = .ok (.iload_n 0, 1) := by decide +kernel
theorem dX9_isForeseen_1 : decode cX9_isForeseen 1 = .ok (.iload_n 1, 1) := by decide +kernel
theorem dX9_isForeseen_2 : decode cX9_isForeseen 2 = .ok (.if_icmp .lt 13, 3) := by decide +kernel
theorem dX9_isForeseen_5 : decode cX9_isForeseen 5 = .ok (.iload_n 0, 1) := by decide +kernel
theorem dX9_isForeseen_6 : decode cX9_isForeseen 6 = .ok (.bipush 20, 2) := by decide +kernel
theorem dX9_isForeseen_8 : decode cX9_isForeseen 8 = .ok (.if_icmp .gt 7, 3) := by decide +kernel
theorem dX9_isForeseen_11 : decode cX9_isForeseen 11 = .ok (.iconst 1, 1) := by decide +kernel
theorem dX9_isForeseen_12 : decode cX9_isForeseen 12 = .ok (.goto 4, 3) := by decide +kernel
theorem dX9_isForeseen_15 : decode cX9_isForeseen 15 = .ok (.iconst 0, 1) := by decide +kernel
theorem dX9_isForeseen_16 : decode cX9_isForeseen 16 = .ok (.ireturn, 1) := by decide +kernel
theorem dX9_has_0 : decode cX9_has 0 = .ok (.iload_n 0, 1) := by decide +kernel
theorem dX9_has_1 : decode cX9_has 1 = .ok (.iload_n 1, 1) := by decide +kernel
theorem dX9_has_2 : decode cX9_has 2 = .ok (.ishr, 1) := by decide +kernel
theorem dX9_has_3 : decode cX9_has 3 = .ok (.iconst 1, 1) := by decide +kernel
theorem dX9_has_4 : decode cX9_has 4 = .ok (.iand, 1) := by decide +kernel
theorem dX9_has_5 : decode cX9_has 5 = .ok (.iconst 1, 1) := by decide +kernel
theorem dX9_has_6 : decode cX9_has 6 = .ok (.if_icmp .ne 7, 3) := by decide +kernel
theorem dX9_has_9 : decode cX9_has 9 = .ok (.iconst 1, 1) := by decide +kernel
theorem dX9_has_10 : decode cX9_has 10 = .ok (.goto 4, 3) := by decide +kernel
theorem dX9_has_13 : decode cX9_has 13 = .ok (.iconst 0, 1) := by decide +kernel
theorem dX9_has_14 : decode cX9_has 14 = .ok (.ireturn, 1) := by decide +kernel
theorem dX9_sideOf_0 : decode cX9_sideOf 0 = .ok (.iconst 2, 1) := by decide +kernel
theorem dX9_sideOf_1 : decode cX9_sideOf 1 = .ok (.iload_n 0, 1) := by decide +kernel
theorem dX9_sideOf_2 : decode cX9_sideOf 2 = .ok (.imul, 1) := by decide +kernel
theorem dX9_sideOf_3 : decode cX9_sideOf 3 = .ok (.iload_n 1, 1) := by decide +kernel
theorem dX9_sideOf_4 : decode cX9_sideOf 4 = .ok (.iadd, 1) := by decide +kernel
theorem dX9_sideOf_5 : decode cX9_sideOf 5 = .ok (.ireturn, 1) := by decide +kernel
theorem dX9_stepsOf_0 : decode cX9_stepsOf 0 = .ok (.iconst 0, 1) := by decide +kernel
theorem dX9_stepsOf_1 : decode cX9_stepsOf 1 = .ok (.istore_n 1, 1) := by decide +kernel
theorem dX9_stepsOf_2 : decode cX9_stepsOf 2 = .ok (.iload_n 0, 1) := by decide +kernel
theorem dX9_stepsOf_3 : decode cX9_stepsOf 3 = .ok (.istore_n 2, 1) := by decide +kernel
theorem dX9_stepsOf_4 : decode cX9_stepsOf 4 = .ok (.iload_n 2, 1) := by decide +kernel
theorem dX9_stepsOf_5 : decode cX9_stepsOf 5 = .ok (.ifCond .le 20, 3) := by decide +kernel
theorem dX9_stepsOf_8 : decode cX9_stepsOf 8 = .ok (.iload_n 1, 1) := by decide +kernel
theorem dX9_stepsOf_9 : decode cX9_stepsOf 9 = .ok (.bipush 9, 2) := by decide +kernel
theorem dX9_stepsOf_11 : decode cX9_stepsOf 11 = .ok (.if_icmp .ge 14, 3) := by decide +kernel
theorem dX9_stepsOf_14 : decode cX9_stepsOf 14 = .ok (.iinc 1 1, 3) := by decide +kernel
theorem dX9_stepsOf_17 : decode cX9_stepsOf 17 = .ok (.iload_n 2, 1) := by decide +kernel
theorem dX9_stepsOf_18 : decode cX9_stepsOf 18 = .ok (.bipush 10, 2) := by decide +kernel
theorem dX9_stepsOf_20 : decode cX9_stepsOf 20 = .ok (.idiv, 1) := by decide +kernel
theorem dX9_stepsOf_21 : decode cX9_stepsOf 21 = .ok (.istore_n 2, 1) := by decide +kernel
theorem dX9_stepsOf_22 : decode cX9_stepsOf 22 = .ok (.goto (-18), 3) := by decide +kernel
theorem dX9_stepsOf_25 : decode cX9_stepsOf 25 = .ok (.iload_n 1, 1) := by decide +kernel
theorem dX9_stepsOf_26 : decode cX9_stepsOf 26 = .ok (.ireturn, 1) := by decide +kernel
theorem dX9_turnedRound_0 : decode cX9_turnedRound 0 = .ok (.iconst 0, 1) := by decide +kernel
theorem dX9_turnedRound_1 : decode cX9_turnedRound 1 = .ok (.istore_n 1, 1) := by decide +kernel
theorem dX9_turnedRound_2 : decode cX9_turnedRound 2 = .ok (.iload_n 0, 1) := by decide +kernel
theorem dX9_turnedRound_3 : decode cX9_turnedRound 3 = .ok (.istore_n 2, 1) := by decide +kernel
theorem dX9_turnedRound_4 : decode cX9_turnedRound 4 = .ok (.iconst 0, 1) := by decide +kernel
theorem dX9_turnedRound_5 : decode cX9_turnedRound 5 = .ok (.istore_n 3, 1) := by decide +kernel
theorem dX9_turnedRound_6 : decode cX9_turnedRound 6 = .ok (.iload_n 3, 1) := by decide +kernel
theorem dX9_turnedRound_7 : decode cX9_turnedRound 7 = .ok (.bipush 9, 2) := by decide +kernel
theorem dX9_turnedRound_9 : decode cX9_turnedRound 9 = .ok (.if_icmp .ge 28, 3) := by decide +kernel
theorem dX9_turnedRound_12 : decode cX9_turnedRound 12 = .ok (.iload_n 2, 1) := by decide +kernel
theorem dX9_turnedRound_13 : decode cX9_turnedRound 13 = .ok (.ifCond .le 24, 3) := by decide +kernel
theorem dX9_turnedRound_16 : decode cX9_turnedRound 16 = .ok (.iload_n 1, 1) := by decide +kernel
theorem dX9_turnedRound_17 : decode cX9_turnedRound 17 = .ok (.bipush 10, 2) := by decide +kernel
theorem dX9_turnedRound_19 : decode cX9_turnedRound 19 = .ok (.imul, 1) := by decide +kernel
theorem dX9_turnedRound_20 : decode cX9_turnedRound 20 = .ok (.iload_n 2, 1) := by decide +kernel
theorem dX9_turnedRound_21 : decode cX9_turnedRound 21 = .ok (.bipush 10, 2) := by decide +kernel
theorem dX9_turnedRound_23 : decode cX9_turnedRound 23 = .ok (.irem, 1) := by decide +kernel
theorem dX9_turnedRound_24 : decode cX9_turnedRound 24 = .ok (.iadd, 1) := by decide +kernel
theorem dX9_turnedRound_25 : decode cX9_turnedRound 25 = .ok (.istore_n 1, 1) := by decide +kernel
theorem dX9_turnedRound_26 : decode cX9_turnedRound 26 = .ok (.iload_n 2, 1) := by decide +kernel
theorem dX9_turnedRound_27 : decode cX9_turnedRound 27 = .ok (.bipush 10, 2) := by decide +kernel
theorem dX9_turnedRound_29 : decode cX9_turnedRound 29 = .ok (.idiv, 1) := by decide +kernel
theorem dX9_turnedRound_30 : decode cX9_turnedRound 30 = .ok (.istore_n 2, 1) := by decide +kernel
theorem dX9_turnedRound_31 : decode cX9_turnedRound 31 = .ok (.iinc 3 1, 3) := by decide +kernel
theorem dX9_turnedRound_34 : decode cX9_turnedRound 34 = .ok (.goto (-28), 3) := by decide +kernel
theorem dX9_turnedRound_37 : decode cX9_turnedRound 37 = .ok (.iload_n 1, 1) := by decide +kernel
theorem dX9_turnedRound_38 : decode cX9_turnedRound 38 = .ok (.ireturn, 1) := by decide +kernel
theorem dX9_spell_0 : decode cX9_spell 0 = .ok (.iload_n 0, 1) := by decide +kernel
theorem dX9_spell_1 : decode cX9_spell 1 = .ok (.istore 4, 2) := by decide +kernel
theorem dX9_spell_3 : decode cX9_spell 3 = .ok (.iload_n 3, 1) := by decide +kernel
theorem dX9_spell_4 : decode cX9_spell 4 = .ok (.aload_n 2, 1) := by decide +kernel
theorem dX9_spell_5 : decode cX9_spell 5 = .ok (.arraylength, 1) := by decide +kernel
theorem dX9_spell_6 : decode cX9_spell 6 = .ok (.invokestatic 316, 3) := by decide +kernel
theorem dX9_spell_9 : decode cX9_spell 9 = .ok (.iconst 1, 1) := by decide +kernel
theorem dX9_spell_10 : decode cX9_spell 10 = .ok (.isub, 1) := by decide +kernel
theorem dX9_spell_11 : decode cX9_spell 11 = .ok (.istore 5, 2) := by decide +kernel
theorem dX9_spell_13 : decode cX9_spell 13 = .ok (.iload 5, 2) := by decide +kernel
theorem dX9_spell_15 : decode cX9_spell 15 = .ok (.ifCond .lt 39, 3) := by decide +kernel
theorem dX9_spell_18 : decode cX9_spell 18 = .ok (.aload_n 2, 1) := by decide +kernel
theorem dX9_spell_19 : decode cX9_spell 19 = .ok (.iload 5, 2) := by decide +kernel
theorem dX9_spell_21 : decode cX9_spell 21 = .ok (.iload_n 1, 1) := by decide +kernel
theorem dX9_spell_22 : decode cX9_spell 22 = .ok (.ifCond .le 10, 3) := by decide +kernel
theorem dX9_spell_25 : decode cX9_spell 25 = .ok (.iload 4, 2) := by decide +kernel
theorem dX9_spell_27 : decode cX9_spell 27 = .ok (.iload_n 1, 1) := by decide +kernel
theorem dX9_spell_28 : decode cX9_spell 28 = .ok (.irem, 1) := by decide +kernel
theorem dX9_spell_29 : decode cX9_spell 29 = .ok (.goto 4, 3) := by decide +kernel
theorem dX9_spell_32 : decode cX9_spell 32 = .ok (.iconst 0, 1) := by decide +kernel
theorem dX9_spell_33 : decode cX9_spell 33 = .ok (.iastore, 1) := by decide +kernel
theorem dX9_spell_34 : decode cX9_spell 34 = .ok (.iload_n 1, 1) := by decide +kernel
theorem dX9_spell_35 : decode cX9_spell 35 = .ok (.ifCond .le 10, 3) := by decide +kernel
theorem dX9_spell_38 : decode cX9_spell 38 = .ok (.iload 4, 2) := by decide +kernel
theorem dX9_spell_40 : decode cX9_spell 40 = .ok (.iload_n 1, 1) := by decide +kernel
theorem dX9_spell_41 : decode cX9_spell 41 = .ok (.idiv, 1) := by decide +kernel
theorem dX9_spell_42 : decode cX9_spell 42 = .ok (.goto 4, 3) := by decide +kernel
theorem dX9_spell_45 : decode cX9_spell 45 = .ok (.iconst 0, 1) := by decide +kernel
theorem dX9_spell_46 : decode cX9_spell 46 = .ok (.istore 4, 2) := by decide +kernel
theorem dX9_spell_48 : decode cX9_spell 48 = .ok (.iinc 5 (-1), 3) := by decide +kernel
theorem dX9_spell_51 : decode cX9_spell 51 = .ok (.goto (-38), 3) := by decide +kernel
theorem dX9_spell_54 : decode cX9_spell 54 = .ok (.return_, 1) := by decide +kernel
theorem dX9_power_0 : decode cX9_power 0 = .ok (.iconst 1, 1) := by decide +kernel
theorem dX9_power_1 : decode cX9_power 1 = .ok (.istore_n 2, 1) := by decide +kernel
theorem dX9_power_2 : decode cX9_power 2 = .ok (.iconst 0, 1) := by decide +kernel
theorem dX9_power_3 : decode cX9_power 3 = .ok (.istore_n 3, 1) := by decide +kernel
theorem dX9_power_4 : decode cX9_power 4 = .ok (.iload_n 3, 1) := by decide +kernel
theorem dX9_power_5 : decode cX9_power 5 = .ok (.iload_n 1, 1) := by decide +kernel
theorem dX9_power_6 : decode cX9_power 6 = .ok (.if_icmp .ge 13, 3) := by decide +kernel
theorem dX9_power_9 : decode cX9_power 9 = .ok (.iload_n 2, 1) := by decide +kernel
theorem dX9_power_10 : decode cX9_power 10 = .ok (.iload_n 0, 1) := by decide +kernel
theorem dX9_power_11 : decode cX9_power 11 = .ok (.imul, 1) := by decide +kernel
theorem dX9_power_12 : decode cX9_power 12 = .ok (.istore_n 2, 1) := by decide +kernel
theorem dX9_power_13 : decode cX9_power 13 = .ok (.iinc 3 1, 3) := by decide +kernel
theorem dX9_power_16 : decode cX9_power 16 = .ok (.goto (-12), 3) := by decide +kernel
theorem dX9_power_19 : decode cX9_power 19 = .ok (.iload_n 2, 1) := by decide +kernel
theorem dX9_power_20 : decode cX9_power 20 = .ok (.ireturn, 1) := by decide +kernel
theorem dJ6_bitCount_0f7a4_0 : decode cJ6_bitCount_0f7a4 0 = .ok (.iload_n 0, 1) := by decide +kernel
theorem dJ6_bitCount_0f7a4_1 : decode cJ6_bitCount_0f7a4 1 = .ok (.iload_n 0, 1) := by decide +kernel
theorem dJ6_bitCount_0f7a4_2 : decode cJ6_bitCount_0f7a4 2 = .ok (.iconst 1, 1) := by decide +kernel
theorem dJ6_bitCount_0f7a4_3 : decode cJ6_bitCount_0f7a4 3 = .ok (.iushr, 1) := by decide +kernel
theorem dJ6_bitCount_0f7a4_4 : decode cJ6_bitCount_0f7a4 4 = .ok (.ldc_w 265, 3) := by decide +kernel
theorem dJ6_bitCount_0f7a4_7 : decode cJ6_bitCount_0f7a4 7 = .ok (.iand, 1) := by decide +kernel
theorem dJ6_bitCount_0f7a4_8 : decode cJ6_bitCount_0f7a4 8 = .ok (.isub, 1) := by decide +kernel
theorem dJ6_bitCount_0f7a4_9 : decode cJ6_bitCount_0f7a4 9 = .ok (.istore_n 0, 1) := by decide +kernel
theorem dJ6_bitCount_0f7a4_10 : decode cJ6_bitCount_0f7a4 10 = .ok (.iload_n 0, 1) := by decide +kernel
theorem dJ6_bitCount_0f7a4_11 : decode cJ6_bitCount_0f7a4 11 = .ok (.ldc_w 266, 3) := by decide +kernel
theorem dJ6_bitCount_0f7a4_14 : decode cJ6_bitCount_0f7a4 14 = .ok (.iand, 1) := by decide +kernel
theorem dJ6_bitCount_0f7a4_15 : decode cJ6_bitCount_0f7a4 15 = .ok (.iload_n 0, 1) := by decide +kernel
theorem dJ6_bitCount_0f7a4_16 : decode cJ6_bitCount_0f7a4 16 = .ok (.iconst 2, 1) := by decide +kernel
theorem dJ6_bitCount_0f7a4_17 : decode cJ6_bitCount_0f7a4 17 = .ok (.iushr, 1) := by decide +kernel
theorem dJ6_bitCount_0f7a4_18 : decode cJ6_bitCount_0f7a4 18 = .ok (.ldc_w 266, 3) := by decide +kernel
theorem dJ6_bitCount_0f7a4_21 : decode cJ6_bitCount_0f7a4 21 = .ok (.iand, 1) := by decide +kernel
theorem dJ6_bitCount_0f7a4_22 : decode cJ6_bitCount_0f7a4 22 = .ok (.iadd, 1) := by decide +kernel
theorem dJ6_bitCount_0f7a4_23 : decode cJ6_bitCount_0f7a4 23 = .ok (.istore_n 0, 1) := by decide +kernel
theorem dJ6_bitCount_0f7a4_24 : decode cJ6_bitCount_0f7a4 24 = .ok (.iload_n 0, 1) := by decide +kernel
theorem dJ6_bitCount_0f7a4_25 : decode cJ6_bitCount_0f7a4 25 = .ok (.iload_n 0, 1) := by decide +kernel
theorem dJ6_bitCount_0f7a4_26 : decode cJ6_bitCount_0f7a4 26 = .ok (.iconst 4, 1) := by decide +kernel
theorem dJ6_bitCount_0f7a4_27 : decode cJ6_bitCount_0f7a4 27 = .ok (.iushr, 1) := by decide +kernel
theorem dJ6_bitCount_0f7a4_28 : decode cJ6_bitCount_0f7a4 28 = .ok (.iadd, 1) := by decide +kernel
theorem dJ6_bitCount_0f7a4_29 : decode cJ6_bitCount_0f7a4 29 = .ok (.ldc_w 267, 3) := by decide +kernel
theorem dJ6_bitCount_0f7a4_32 : decode cJ6_bitCount_0f7a4 32 = .ok (.iand, 1) := by decide +kernel
theorem dJ6_bitCount_0f7a4_33 : decode cJ6_bitCount_0f7a4 33 = .ok (.istore_n 0, 1) := by decide +kernel
theorem dJ6_bitCount_0f7a4_34 : decode cJ6_bitCount_0f7a4 34 = .ok (.iload_n 0, 1) := by decide +kernel
theorem dJ6_bitCount_0f7a4_35 : decode cJ6_bitCount_0f7a4 35 = .ok (.iload_n 0, 1) := by decide +kernel
theorem dJ6_bitCount_0f7a4_36 : decode cJ6_bitCount_0f7a4 36 = .ok (.bipush 8, 2) := by decide +kernel
theorem dJ6_bitCount_0f7a4_38 : decode cJ6_bitCount_0f7a4 38 = .ok (.iushr, 1) := by decide +kernel
theorem dJ6_bitCount_0f7a4_39 : decode cJ6_bitCount_0f7a4 39 = .ok (.iadd, 1) := by decide +kernel
theorem dJ6_bitCount_0f7a4_40 : decode cJ6_bitCount_0f7a4 40 = .ok (.istore_n 0, 1) := by decide +kernel
theorem dJ6_bitCount_0f7a4_41 : decode cJ6_bitCount_0f7a4 41 = .ok (.iload_n 0, 1) := by decide +kernel
theorem dJ6_bitCount_0f7a4_42 : decode cJ6_bitCount_0f7a4 42 = .ok (.iload_n 0, 1) := by decide +kernel
theorem dJ6_bitCount_0f7a4_43 : decode cJ6_bitCount_0f7a4 43 = .ok (.bipush 16, 2) := by decide +kernel
theorem dJ6_bitCount_0f7a4_45 : decode cJ6_bitCount_0f7a4 45 = .ok (.iushr, 1) := by decide +kernel
theorem dJ6_bitCount_0f7a4_46 : decode cJ6_bitCount_0f7a4 46 = .ok (.iadd, 1) := by decide +kernel
theorem dJ6_bitCount_0f7a4_47 : decode cJ6_bitCount_0f7a4 47 = .ok (.istore_n 0, 1) := by decide +kernel
theorem dJ6_bitCount_0f7a4_48 : decode cJ6_bitCount_0f7a4 48 = .ok (.iload_n 0, 1) := by decide +kernel
theorem dJ6_bitCount_0f7a4_49 : decode cJ6_bitCount_0f7a4 49 = .ok (.bipush 63, 2) := by decide +kernel
theorem dJ6_bitCount_0f7a4_51 : decode cJ6_bitCount_0f7a4 51 = .ok (.iand, 1) := by decide +kernel
theorem dJ6_bitCount_0f7a4_52 : decode cJ6_bitCount_0f7a4 52 = .ok (.ireturn, 1) := by decide +kernel
theorem dJ9_abs_0f7a4_0 : decode cJ9_abs_0f7a4 0 = .ok (.iload_n 0, 1) := by decide +kernel
theorem dJ9_abs_0f7a4_1 : decode cJ9_abs_0f7a4 1 = .ok (.ifCond .ge 8, 3) := by decide +kernel
theorem dJ9_abs_0f7a4_4 : decode cJ9_abs_0f7a4 4 = .ok (.iload_n 0, 1) := by decide +kernel
theorem dJ9_abs_0f7a4_5 : decode cJ9_abs_0f7a4 5 = .ok (.ineg, 1) := by decide +kernel
theorem dJ9_abs_0f7a4_6 : decode cJ9_abs_0f7a4 6 = .ok (.goto 4, 3) := by decide +kernel
theorem dJ9_abs_0f7a4_9 : decode cJ9_abs_0f7a4 9 = .ok (.iload_n 0, 1) := by decide +kernel
theorem dJ9_abs_0f7a4_10 : decode cJ9_abs_0f7a4 10 = .ok (.ireturn, 1) := by decide +kernel
theorem dJ9_max_7cf53_0 : decode cJ9_max_7cf53 0 = .ok (.iload_n 0, 1) := by decide +kernel
theorem dJ9_max_7cf53_1 : decode cJ9_max_7cf53 1 = .ok (.iload_n 1, 1) := by decide +kernel
theorem dJ9_max_7cf53_2 : decode cJ9_max_7cf53 2 = .ok (.if_icmp .lt 7, 3) := by decide +kernel
theorem dJ9_max_7cf53_5 : decode cJ9_max_7cf53 5 = .ok (.iload_n 0, 1) := by decide +kernel
theorem dJ9_max_7cf53_6 : decode cJ9_max_7cf53 6 = .ok (.goto 4, 3) := by decide +kernel
theorem dJ9_max_7cf53_9 : decode cJ9_max_7cf53 9 = .ok (.iload_n 1, 1) := by decide +kernel
theorem dJ9_max_7cf53_10 : decode cJ9_max_7cf53 10 = .ok (.ireturn, 1) := by decide +kernel
theorem dJ9_min_7cf53_0 : decode cJ9_min_7cf53 0 = .ok (.iload_n 0, 1) := by decide +kernel
theorem dJ9_min_7cf53_1 : decode cJ9_min_7cf53 1 = .ok (.iload_n 1, 1) := by decide +kernel
theorem dJ9_min_7cf53_2 : decode cJ9_min_7cf53 2 = .ok (.if_icmp .gt 7, 3) := by decide +kernel
theorem dJ9_min_7cf53_5 : decode cJ9_min_7cf53 5 = .ok (.iload_n 0, 1) := by decide +kernel
theorem dJ9_min_7cf53_6 : decode cJ9_min_7cf53 6 = .ok (.goto 4, 3) := by decide +kernel
theorem dJ9_min_7cf53_9 : decode cJ9_min_7cf53 9 = .ok (.iload_n 1, 1) := by decide +kernel
theorem dJ9_min_7cf53_10 : decode cJ9_min_7cf53 10 = .ok (.ireturn, 1) := by decide +kernel
end
section
theorem dX10_init_0 : decode cX10_init 0 = .ok (.aload_n 0, 1) := by decide +kernel
theorem dX10_init_1 : decode cX10_init 1 = .ok (.invokespecial 1, 3) := by decide +kernel
theorem dX10_init_4 : decode cX10_init 4 = .ok (.aload_n 0, 1) := by decide +kernel
theorem dX10_init_5 : decode cX10_init 5 = .ok (.sipush 1416, 3) := by decide +kernel
theorem dX10_init_8 : decode cX10_init 8 = .ok (.newarray .int, 2) := by decide +kernel
theorem dX10_init_10 : decode cX10_init 10 = .ok (.putfield 7, 3) := by decide +kernel
theorem dX10_init_13 : decode cX10_init 13 = .ok (.aload_n 0, 1) := by decide +kernel
theorem dX10_init_14 : decode cX10_init 14 = .ok (.iconst 2, 1) := by decide +kernel
theorem dX10_init_15 : decode cX10_init 15 = .ok (.newarray .boolean, 2) := by decide +kernel
theorem dX10_init_17 : decode cX10_init 17 = .ok (.putfield 13, 3) := by decide +kernel
theorem dX10_init_20 : decode cX10_init 20 = .ok (.aload_n 0, 1) := by decide +kernel
theorem dX10_init_21 : decode cX10_init 21 = .ok (.bipush 8, 2) := by decide +kernel
theorem dX10_init_23 : decode cX10_init 23 = .ok (.newarray .int, 2) := by decide +kernel
theorem dX10_init_25 : decode cX10_init 25 = .ok (.putfield 17, 3) := by decide +kernel
theorem dX10_init_28 : decode cX10_init 28 = .ok (.aload_n 0, 1) := by decide +kernel
theorem dX10_init_29 : decode cX10_init 29 = .ok (.iconst 4, 1) := by decide +kernel
theorem dX10_init_30 : decode cX10_init 30 = .ok (.newarray .int, 2) := by decide +kernel
theorem dX10_init_32 : decode cX10_init 32 = .ok (.putfield 20, 3) := by decide +kernel
theorem dX10_init_35 : decode cX10_init 35 = .ok (.aload_n 0, 1) := by decide +kernel
theorem dX10_init_36 : decode cX10_init 36 = .ok (.bipush 8, 2) := by decide +kernel
theorem dX10_init_38 : decode cX10_init 38 = .ok (.newarray .int, 2) := by decide +kernel
theorem dX10_init_40 : decode cX10_init 40 = .ok (.putfield 23, 3) := by decide +kernel
theorem dX10_init_43 : decode cX10_init 43 = .ok (.aload_n 0, 1) := by decide +kernel
theorem dX10_init_44 : decode cX10_init 44 = .ok (.bipush 8, 2) := by decide +kernel
theorem dX10_init_46 : decode cX10_init 46 = .ok (.newarray .int, 2) := by decide +kernel
theorem dX10_init_48 : decode cX10_init 48 = .ok (.putfield 26, 3) := by decide +kernel
theorem dX10_init_51 : decode cX10_init 51 = .ok (.aload_n 0, 1) := by decide +kernel
theorem dX10_init_52 : decode cX10_init 52 = .ok (.iconst 4, 1) := by decide +kernel
theorem dX10_init_53 : decode cX10_init 53 = .ok (.newarray .int, 2) := by decide +kernel
theorem dX10_init_55 : decode cX10_init 55 = .ok (.putfield 29, 3) := by decide +kernel
theorem dX10_init_58 : decode cX10_init 58 = .ok (.aload_n 0, 1) := by decide +kernel
theorem dX10_init_59 : decode cX10_init 59 = .ok (.iconst 4, 1) := by decide +kernel
theorem dX10_init_60 : decode cX10_init 60 = .ok (.newarray .int, 2) := by decide +kernel
theorem dX10_init_62 : decode cX10_init 62 = .ok (.putfield 32, 3) := by decide +kernel
theorem dX10_init_65 : decode cX10_init 65 = .ok (.aload_n 0, 1) := by decide +kernel
theorem dX10_init_66 : decode cX10_init 66 = .ok (.sipush 240, 3) := by decide +kernel
theorem dX10_init_69 : decode cX10_init 69 = .ok (.newarray .int, 2) := by decide +kernel
theorem dX10_init_71 : decode cX10_init 71 = .ok (.putfield 35, 3) := by decide +kernel
theorem dX10_init_74 : decode cX10_init 74 = .ok (.aload_n 0, 1) := by decide +kernel
theorem dX10_init_75 : decode cX10_init 75 = .ok (.iconst (-1), 1) := by decide +kernel
theorem dX10_init_76 : decode cX10_init 76 = .ok (.putfield 38, 3) := by decide +kernel
theorem dX10_init_79 : decode cX10_init 79 = .ok (.aload_n 0, 1) := by decide +kernel
theorem dX10_init_80 : decode cX10_init 80 = .ok (.bipush 8, 2) := by decide +kernel
theorem dX10_init_82 : decode cX10_init 82 = .ok (.newarray .int, 2) := by decide +kernel
theorem dX10_init_84 : decode cX10_init 84 = .ok (.putfield 42, 3) := by decide +kernel
theorem dX10_init_87 : decode cX10_init 87 = .ok (.aload_n 0, 1) := by decide +kernel
theorem dX10_init_88 : decode cX10_init 88 = .ok (.bipush 8, 2) := by decide +kernel
theorem dX10_init_90 : decode cX10_init 90 = .ok (.newarray .int, 2) := by decide +kernel
theorem dX10_init_92 : decode cX10_init 92 = .ok (.putfield 45, 3) := by decide +kernel
theorem dX10_init_95 : decode cX10_init 95 = .ok (.aload_n 0, 1) := by decide +kernel
theorem dX10_init_96 : decode cX10_init 96 = .ok (.bipush 16, 2) := by decide +kernel
theorem dX10_init_98 : decode cX10_init 98 = .ok (.newarray .int, 2) := by decide +kernel
theorem dX10_init_100 : decode cX10_init 100 = .ok (.putfield 48, 3) := by decide +kernel
theorem dX10_init_103 : decode cX10_init 103 = .ok (.aload_n 0, 1) := by decide +kernel
theorem dX10_init_104 : decode cX10_init 104 = .ok (.bipush 8, 2) := by decide +kernel
theorem dX10_init_106 : decode cX10_init 106 = .ok (.newarray .int, 2) := by decide +kernel
theorem dX10_init_108 : decode cX10_init 108 = .ok (.putfield 51, 3) := by decide +kernel
theorem dX10_init_111 : decode cX10_init 111 = .ok (.aload_n 0, 1) := by decide +kernel
theorem dX10_init_112 : decode cX10_init 112 = .ok (.iconst 4, 1) := by decide +kernel
theorem dX10_init_113 : decode cX10_init 113 = .ok (.newarray .int, 2) := by decide +kernel
theorem dX10_init_115 : decode cX10_init 115 = .ok (.putfield 54, 3) := by decide +kernel
theorem dX10_init_118 : decode cX10_init 118 = .ok (.aload_n 0, 1) := by decide +kernel
theorem dX10_init_119 : decode cX10_init 119 = .ok (.iconst 4, 1) := by decide +kernel
theorem dX10_init_120 : decode cX10_init 120 = .ok (.newarray .boolean, 2) := by decide +kernel
theorem dX10_init_122 : decode cX10_init 122 = .ok (.putfield 57, 3) := by decide +kernel
theorem dX10_init_125 : decode cX10_init 125 = .ok (.aload_n 0, 1) := by decide +kernel
theorem dX10_init_126 : decode cX10_init 126 = .ok (.bipush 9, 2) := by decide +kernel
theorem dX10_init_128 : decode cX10_init 128 = .ok (.newarray .int, 2) := by decide +kernel
theorem dX10_init_130 : decode cX10_init 130 = .ok (.putfield 60, 3) := by decide +kernel
theorem dX10_init_133 : decode cX10_init 133 = .ok (.aload_n 0, 1) := by decide +kernel
theorem dX10_init_134 : decode cX10_init 134 = .ok (.iconst 4, 1) := by decide +kernel
theorem dX10_init_135 : decode cX10_init 135 = .ok (.newarray .int, 2) := by decide +kernel
theorem dX10_init_137 : decode cX10_init 137 = .ok (.putfield 63, 3) := by decide +kernel
theorem dX10_init_140 : decode cX10_init 140 = .ok (.aload_n 0, 1) := by decide +kernel
theorem dX10_init_141 : decode cX10_init 141 = .ok (.iconst 4, 1) := by decide +kernel
theorem dX10_init_142 : decode cX10_init 142 = .ok (.newarray .int, 2) := by decide +kernel
theorem dX10_init_144 : decode cX10_init 144 = .ok (.putfield 66, 3) := by decide +kernel
theorem dX10_init_147 : decode cX10_init 147 = .ok (.aload_n 0, 1) := by decide +kernel
theorem dX10_init_148 : decode cX10_init 148 = .ok (.iconst 4, 1) := by decide +kernel
theorem dX10_init_149 : decode cX10_init 149 = .ok (.newarray .int, 2) := by decide +kernel
theorem dX10_init_151 : decode cX10_init 151 = .ok (.putfield 69, 3) := by decide +kernel
theorem dX10_init_154 : decode cX10_init 154 = .ok (.aload_n 0, 1) := by decide +kernel
theorem dX10_init_155 : decode cX10_init 155 = .ok (.iconst 4, 1) := by decide +kernel
theorem dX10_init_156 : decode cX10_init 156 = .ok (.newarray .int, 2) := by decide +kernel
theorem dX10_init_158 : decode cX10_init 158 = .ok (.putfield 72, 3) := by decide +kernel
theorem dX10_init_161 : decode cX10_init 161 = .ok (.aload_n 0, 1) := by decide +kernel
theorem dX10_init_162 : decode cX10_init 162 = .ok (.bipush 6, 2) := by decide +kernel
theorem dX10_init_164 : decode cX10_init 164 = .ok (.newarray .int, 2) := by decide +kernel
theorem dX10_init_166 : decode cX10_init 166 = .ok (.putfield 75, 3) := by decide +kernel
theorem dX10_init_169 : decode cX10_init 169 = .ok (.aload_n 0, 1) := by decide +kernel
theorem dX10_init_170 : decode cX10_init 170 = .ok (.bipush 6, 2) := by decide +kernel
theorem dX10_init_172 : decode cX10_init 172 = .ok (.newarray .int, 2) := by decide +kernel
theorem dX10_init_174 : decode cX10_init 174 = .ok (.putfield 78, 3) := by decide +kernel
theorem dX10_init_177 : decode cX10_init 177 = .ok (.aload_n 0, 1) := by decide +kernel
theorem dX10_init_178 : decode cX10_init 178 = .ok (.bipush 6, 2) := by decide +kernel
theorem dX10_init_180 : decode cX10_init 180 = .ok (.newarray .boolean, 2) := by decide +kernel
theorem dX10_init_182 : decode cX10_init 182 = .ok (.putfield 81, 3) := by decide +kernel
theorem dX10_init_185 : decode cX10_init 185 = .ok (.aload_n 0, 1) := by decide +kernel
theorem dX10_init_186 : decode cX10_init 186 = .ok (.bipush 15, 2) := by decide +kernel
theorem dX10_init_188 : decode cX10_init 188 = .ok (.newarray .int, 2) := by decide +kernel
theorem dX10_init_190 : decode cX10_init 190 = .ok (.putfield 84, 3) := by decide +kernel
theorem dX10_init_193 : decode cX10_init 193 = .ok (.aload_n 0, 1) := by decide +kernel
theorem dX10_init_194 : decode cX10_init 194 = .ok (.bipush 15, 2) := by decide +kernel
theorem dX10_init_196 : decode cX10_init 196 = .ok (.newarray .int, 2) := by decide +kernel
theorem dX10_init_198 : decode cX10_init 198 = .ok (.putfield 87, 3) := by decide +kernel
theorem dX10_init_201 : decode cX10_init 201 = .ok (.aload_n 0, 1) := by decide +kernel
theorem dX10_init_202 : decode cX10_init 202 = .ok (.iconst 0, 1) := by decide +kernel
theorem dX10_init_203 : decode cX10_init 203 = .ok (.putfield 90, 3) := by decide +kernel
theorem dX10_init_206 : decode cX10_init 206 = .ok (.return_, 1) := by decide +kernel
theorem dX10_in_0 : decode cX10_in 0 = .ok (.lload_n 0, 1) := by decide +kernel
theorem dX10_in_1 : decode cX10_in 1 = .ok (.lload_n 2, 1) := by decide +kernel
theorem dX10_in_2 : decode cX10_in 2 = .ok (.lcmp, 1) := by decide +kernel
theorem dX10_in_3 : decode cX10_in 3 = .ok (.ifCond .lt 14, 3) := by decide +kernel
theorem dX10_in_6 : decode cX10_in 6 = .ok (.lload_n 0, 1) := by decide +kernel
theorem dX10_in_7 : decode cX10_in 7 = .ok (.lload 4, 2) := by decide +kernel
theorem dX10_in_9 : decode cX10_in 9 = .ok (.lcmp, 1) := by decide +kernel
theorem dX10_in_10 : decode cX10_in 10 = .ok (.ifCond .gt 7, 3) := by decide +kernel
theorem dX10_in_13 : decode cX10_in 13 = .ok (.iconst 1, 1) := by decide +kernel
theorem dX10_in_14 : decode cX10_in 14 = .ok (.goto 4, 3) := by decide +kernel
theorem dX10_in_17 : decode cX10_in 17 = .ok (.iconst 0, 1) := by decide +kernel
theorem dX10_in_18 : decode cX10_in 18 = .ok (.ireturn, 1) := by decide +kernel
theorem dX10_has_0 : decode cX10_has 0 = .ok (.iload_n 0, 1) := by decide +kernel
theorem dX10_has_1 : decode cX10_has 1 = .ok (.iload_n 1, 1) := by decide +kernel
theorem dX10_has_2 : decode cX10_has 2 = .ok (.ishr, 1) := by decide +kernel
theorem dX10_has_3 : decode cX10_has 3 = .ok (.iconst 1, 1) := by decide +kernel
theorem dX10_has_4 : decode cX10_has 4 = .ok (.iand, 1) := by decide +kernel
theorem dX10_has_5 : decode cX10_has 5 = .ok (.iconst 1, 1) := by decide +kernel
theorem dX10_has_6 : decode cX10_has 6 = .ok (.if_icmp .ne 7, 3) := by decide +kernel
theorem dX10_has_9 : decode cX10_has 9 = .ok (.iconst 1, 1) := by decide +kernel
theorem dX10_has_10 : decode cX10_has 10 = .ok (.goto 4, 3) := by decide +kernel
theorem dX10_has_13 : decode cX10_has 13 = .ok (.iconst 0, 1) := by decide +kernel
theorem dX10_has_14 : decode cX10_has 14 = .ok (.ireturn, 1) := by decide +kernel
theorem dX10_ones_0 : decode cX10_ones 0 = .ok (.iconst 0, 1) := by decide +kernel
theorem dX10_ones_1 : decode cX10_ones 1 = .ok (.istore_n 1, 1) := by decide +kernel
theorem dX10_ones_2 : decode cX10_ones 2 = .ok (.iconst 0, 1) := by decide +kernel
theorem dX10_ones_3 : decode cX10_ones 3 = .ok (.istore_n 2, 1) := by decide +kernel
theorem dX10_ones_4 : decode cX10_ones 4 = .ok (.iload_n 2, 1) := by decide +kernel
theorem dX10_ones_5 : decode cX10_ones 5 = .ok (.bipush 8, 2) := by decide +kernel
theorem dX10_ones_7 : decode cX10_ones 7 = .ok (.if_icmp .ge 17, 3) := by decide +kernel
theorem dX10_ones_10 : decode cX10_ones 10 = .ok (.iload_n 1, 1) := by decide +kernel
theorem dX10_ones_11 : decode cX10_ones 11 = .ok (.iload_n 0, 1) := by decide +kernel
theorem dX10_ones_12 : decode cX10_ones 12 = .ok (.iload_n 2, 1) := by decide +kernel
theorem dX10_ones_13 : decode cX10_ones 13 = .ok (.ishr, 1) := by decide +kernel
theorem dX10_ones_14 : decode cX10_ones 14 = .ok (.iconst 1, 1) := by decide +kernel
theorem dX10_ones_15 : decode cX10_ones 15 = .ok (.iand, 1) := by decide +kernel
theorem dX10_ones_16 : decode cX10_ones 16 = .ok (.iadd, 1) := by decide +kernel
theorem dX10_ones_17 : decode cX10_ones 17 = .ok (.istore_n 1, 1) := by decide +kernel
theorem dX10_ones_18 : decode cX10_ones 18 = .ok (.iinc 2 1, 3) := by decide +kernel
theorem dX10_ones_21 : decode cX10_ones 21 = .ok (.goto (-17), 3) := by decide +kernel
theorem dX10_ones_24 : decode cX10_ones 24 = .ok (.iload_n 1, 1) := by decide +kernel
theorem dX10_ones_25 : decode cX10_ones 25 = .ok (.ireturn, 1) := by decide +kernel
theorem dX10_copy_0 : decode cX10_copy 0 = .ok (.iconst 0, 1) := by decide +kernel
theorem dX10_copy_1 : decode cX10_copy 1 = .ok (.istore_n 3, 1) := by decide +kernel
theorem dX10_copy_2 : decode cX10_copy 2 = .ok (.iload_n 3, 1) := by decide +kernel
theorem dX10_copy_3 : decode cX10_copy 3 = .ok (.bipush 59, 2) := by decide +kernel
theorem dX10_copy_5 : decode cX10_copy 5 = .ok (.if_icmp .ge 25, 3) := by decide +kernel
theorem dX10_copy_8 : decode cX10_copy 8 = .ok (.aload_n 0, 1) := by decide +kernel
theorem dX10_copy_9 : decode cX10_copy 9 = .ok (.getfield 7, 3) := by decide +kernel
theorem dX10_copy_12 : decode cX10_copy 12 = .ok (.iload_n 2, 1) := by decide +kernel
theorem dX10_copy_13 : decode cX10_copy 13 = .ok (.iload_n 3, 1) := by decide +kernel
theorem dX10_copy_14 : decode cX10_copy 14 = .ok (.iadd, 1) := by decide +kernel
theorem dX10_copy_15 : decode cX10_copy 15 = .ok (.aload_n 0, 1) := by decide +kernel
theorem dX10_copy_16 : decode cX10_copy 16 = .ok (.getfield 7, 3) := by decide +kernel
theorem dX10_copy_19 : decode cX10_copy 19 = .ok (.iload_n 1, 1) := by decide +kernel
theorem dX10_copy_20 : decode cX10_copy 20 = .ok (.iload_n 3, 1) := by decide +kernel
theorem dX10_copy_21 : decode cX10_copy 21 = .ok (.iadd, 1) := by decide +kernel
theorem dX10_copy_22 : decode cX10_copy 22 = .ok (.iaload, 1) := by decide +kernel
theorem dX10_copy_23 : decode cX10_copy 23 = .ok (.iastore, 1) := by decide +kernel
theorem dX10_copy_24 : decode cX10_copy 24 = .ok (.iinc 3 1, 3) := by decide +kernel
theorem dX10_copy_27 : decode cX10_copy 27 = .ok (.goto (-25), 3) := by decide +kernel
theorem dX10_copy_30 : decode cX10_copy 30 = .ok (.return_, 1) := by decide +kernel
theorem dX10_isRoom_0 : decode cX10_isRoom 0 = .ok (.iload_n 1, 1) := by decide +kernel
theorem dX10_isRoom_1 : decode cX10_isRoom 1 = .ok (.i2l, 1) := by decide +kernel
theorem dX10_isRoom_2 : decode cX10_isRoom 2 = .ok (.lconst 0, 1) := by decide +kernel
theorem dX10_isRoom_3 : decode cX10_isRoom 3 = .ok (.aload_n 0, 1) := by decide +kernel
theorem dX10_isRoom_4 : decode cX10_isRoom 4 = .ok (.getfield 90, 3) := by decide +kernel
theorem dX10_isRoom_7 : decode cX10_isRoom 7 = .ok (.iconst 1, 1) := by decide +kernel
theorem dX10_isRoom_8 : decode cX10_isRoom 8 = .ok (.isub, 1) := by decide +kernel
theorem dX10_isRoom_9 : decode cX10_isRoom 9 = .ok (.i2l, 1) := by decide +kernel
theorem dX10_isRoom_10 : decode cX10_isRoom 10 = .ok (.invokestatic 93, 3) := by decide +kernel
theorem dX10_isRoom_13 : decode cX10_isRoom 13 = .ok (.ireturn, 1) := by decide +kernel
theorem dX10_isWaiter_0 : decode cX10_isWaiter 0 = .ok (.iload_n 1, 1) := by decide +kernel
theorem dX10_isWaiter_1 : decode cX10_isWaiter 1 = .ok (.i2l, 1) := by decide +kernel
theorem dX10_isWaiter_2 : decode cX10_isWaiter 2 = .ok (.lconst 0, 1) := by decide +kernel
theorem dX10_isWaiter_3 : decode cX10_isWaiter 3 = .ok (.aload_n 0, 1) := by decide +kernel
theorem dX10_isWaiter_4 : decode cX10_isWaiter 4 = .ok (.getfield 97, 3) := by decide +kernel
theorem dX10_isWaiter_7 : decode cX10_isWaiter 7 = .ok (.iconst 1, 1) := by decide +kernel
theorem dX10_isWaiter_8 : decode cX10_isWaiter 8 = .ok (.isub, 1) := by decide +kernel
theorem dX10_isWaiter_9 : decode cX10_isWaiter 9 = .ok (.i2l, 1) := by decide +kernel
theorem dX10_isWaiter_10 : decode cX10_isWaiter 10 = .ok (.invokestatic 93, 3) := by decide +kernel
theorem dX10_isWaiter_13 : decode cX10_isWaiter 13 = .ok (.ireturn, 1) := by decide +kernel
theorem dX10_areTwo_0 : decode cX10_areTwo 0 = .ok (.aload_n 0, 1) := by decide +kernel
theorem dX10_areTwo_1 : decode cX10_areTwo 1 = .ok (.iload_n 1, 1) := by decide +kernel
theorem dX10_areTwo_2 : decode cX10_areTwo 2 = .ok (.invokevirtual 100, 3) := by decide +kernel
theorem dX10_areTwo_5 : decode cX10_areTwo 5 = .ok (.ifCond .eq 20, 3) := by decide +kernel
theorem dX10_areTwo_8 : decode cX10_areTwo 8 = .ok (.aload_n 0, 1) := by decide +kernel
theorem dX10_areTwo_9 : decode cX10_areTwo 9 = .ok (.iload_n 2, 1) := by decide +kernel
theorem dX10_areTwo_10 : decode cX10_areTwo 10 = .ok (.invokevirtual 100, 3) := by decide +kernel
theorem dX10_areTwo_13 : decode cX10_areTwo 13 = .ok (.ifCond .eq 12, 3) := by decide +kernel
theorem dX10_areTwo_16 : decode cX10_areTwo 16 = .ok (.iload_n 1, 1) := by decide +kernel
theorem dX10_areTwo_17 : decode cX10_areTwo 17 = .ok (.iload_n 2, 1) := by decide +kernel
theorem dX10_areTwo_18 : decode cX10_areTwo 18 = .ok (.if_icmp .eq 7, 3) := by decide +kernel
theorem dX10_areTwo_21 : decode cX10_areTwo 21 = .ok (.iconst 1, 1) := by decide +kernel
theorem dX10_areTwo_22 : decode cX10_areTwo 22 = .ok (.goto 4, 3) := by decide +kernel
theorem dX10_areTwo_25 : decode cX10_areTwo 25 = .ok (.iconst 0, 1) := by decide +kernel
theorem dX10_areTwo_26 : decode cX10_areTwo 26 = .ok (.ireturn, 1) := by decide +kernel
theorem dX10_isThing_0 : decode cX10_isThing 0 = .ok (.iload_n 1, 1) := by decide +kernel
theorem dX10_isThing_1 : decode cX10_isThing 1 = .ok (.i2l, 1) := by decide +kernel
theorem dX10_isThing_2 : decode cX10_isThing 2 = .ok (.lconst 0, 1) := by decide +kernel
theorem dX10_isThing_3 : decode cX10_isThing 3 = .ok (.aload_n 0, 1) := by decide +kernel
theorem dX10_isThing_4 : decode cX10_isThing 4 = .ok (.getfield 104, 3) := by decide +kernel
theorem dX10_isThing_7 : decode cX10_isThing 7 = .ok (.iconst 1, 1) := by decide +kernel
theorem dX10_isThing_8 : decode cX10_isThing 8 = .ok (.isub, 1) := by decide +kernel
theorem dX10_isThing_9 : decode cX10_isThing 9 = .ok (.i2l, 1) := by decide +kernel
theorem dX10_isThing_10 : decode cX10_isThing 10 = .ok (.invokestatic 93, 3) := by decide +kernel
theorem dX10_isThing_13 : decode cX10_isThing 13 = .ok (.ireturn, 1) := by decide +kernel
theorem dX10_feed_0 : decode cX10_feed 0 = .ok (.iload_n 1, 1) := by decide +kernel
theorem dX10_feed_1 : decode cX10_feed 1 = .ok (.i2l, 1) := by decide +kernel
theorem dX10_feed_2 : decode cX10_feed 2 = .ok (.lconst 0, 1) := by decide +kernel
theorem dX10_feed_3 : decode cX10_feed 3 = .ok (.ldc2_w 107, 3) := by decide +kernel
theorem dX10_feed_6 : decode cX10_feed 6 = .ok (.invokestatic 93, 3) := by decide +kernel
theorem dX10_feed_9 : decode cX10_feed 9 = .ok (.ifCond .ne 6, 3) := by decide +kernel
theorem dX10_feed_12 : decode cX10_feed 12 = .ok (.ldc 109, 2) := by decide +kernel
theorem dX10_feed_14 : decode cX10_feed 14 = .ok (.ireturn, 1) := by decide +kernel
theorem dX10_feed_15 : decode cX10_feed 15 = .ok (.aload_n 0, 1) := by decide +kernel
theorem dX10_feed_16 : decode cX10_feed 16 = .ok (.getfield 110, 3) := by decide +kernel
theorem dX10_feed_19 : decode cX10_feed 19 = .ok (.sipush 240, 3) := by decide +kernel
theorem dX10_feed_22 : decode cX10_feed 22 = .ok (.if_icmp .ne 6, 3) := by decide +kernel
theorem dX10_feed_25 : decode cX10_feed 25 = .ok (.ldc 113, 2) := by decide +kernel
theorem dX10_feed_27 : decode cX10_feed 27 = .ok (.ireturn, 1) := by decide +kernel
theorem dX10_feed_28 : decode cX10_feed 28 = .ok (.aload_n 0, 1) := by decide +kernel
theorem dX10_feed_29 : decode cX10_feed 29 = .ok (.getfield 35, 3) := by decide +kernel
theorem dX10_feed_32 : decode cX10_feed 32 = .ok (.aload_n 0, 1) := by decide +kernel
theorem dX10_feed_33 : decode cX10_feed 33 = .ok (.getfield 110, 3) := by decide +kernel
theorem dX10_feed_36 : decode cX10_feed 36 = .ok (.iload_n 1, 1) := by decide +kernel
theorem dX10_feed_37 : decode cX10_feed 37 = .ok (.iastore, 1) := by decide +kernel
theorem dX10_feed_38 : decode cX10_feed 38 = .ok (.aload_n 0, 1) := by decide +kernel
theorem dX10_feed_39 : decode cX10_feed 39 = .ok (.dup, 1) := by decide +kernel
theorem dX10_feed_40 : decode cX10_feed 40 = .ok (.getfield 110, 3) := by decide +kernel
theorem dX10_feed_43 : decode cX10_feed 43 = .ok (.iconst 1, 1) := by decide +kernel
theorem dX10_feed_44 : decode cX10_feed 44 = .ok (.iadd, 1) := by decide +kernel
theorem dX10_feed_45 : decode cX10_feed 45 = .ok (.putfield 110, 3) := by decide +kernel
theorem dX10_feed_48 : decode cX10_feed 48 = .ok (.aload_n 0, 1) := by decide +kernel
theorem dX10_feed_49 : decode cX10_feed 49 = .ok (.getfield 110, 3) := by decide +kernel
theorem dX10_feed_52 : decode cX10_feed 52 = .ok (.ireturn, 1) := by decide +kernel
theorem dX10_letterAt_0 : decode cX10_letterAt 0 = .ok (.iload_n 1, 1) := by decide +kernel
theorem dX10_letterAt_1 : decode cX10_letterAt 1 = .ok (.aload_n 0, 1) := by decide +kernel
theorem dX10_letterAt_2 : decode cX10_letterAt 2 = .ok (.getfield 110, 3) := by decide +kernel
theorem dX10_letterAt_5 : decode cX10_letterAt 5 = .ok (.if_icmp .ge 12, 3) := by decide +kernel
theorem dX10_letterAt_8 : decode cX10_letterAt 8 = .ok (.aload_n 0, 1) := by decide +kernel
theorem dX10_letterAt_9 : decode cX10_letterAt 9 = .ok (.getfield 35, 3) := by decide +kernel
theorem dX10_letterAt_12 : decode cX10_letterAt 12 = .ok (.iload_n 1, 1) := by decide +kernel
theorem dX10_letterAt_13 : decode cX10_letterAt 13 = .ok (.iaload, 1) := by decide +kernel
theorem dX10_letterAt_14 : decode cX10_letterAt 14 = .ok (.goto 4, 3) := by decide +kernel
theorem dX10_letterAt_17 : decode cX10_letterAt 17 = .ok (.iconst (-1), 1) := by decide +kernel
theorem dX10_letterAt_18 : decode cX10_letterAt 18 = .ok (.ireturn, 1) := by decide +kernel
theorem dX10_here_0 : decode cX10_here 0 = .ok (.aload_n 0, 1) := by decide +kernel
theorem dX10_here_1 : decode cX10_here 1 = .ok (.aload_n 0, 1) := by decide +kernel
theorem dX10_here_2 : decode cX10_here 2 = .ok (.getfield 114, 3) := by decide +kernel
theorem dX10_here_5 : decode cX10_here 5 = .ok (.invokevirtual 117, 3) := by decide +kernel
theorem dX10_here_8 : decode cX10_here 8 = .ok (.bipush 32, 2) := by decide +kernel
theorem dX10_here_10 : decode cX10_here 10 = .ok (.if_icmp .ne 16, 3) := by decide +kernel
theorem dX10_here_13 : decode cX10_here 13 = .ok (.aload_n 0, 1) := by decide +kernel
theorem dX10_here_14 : decode cX10_here 14 = .ok (.dup, 1) := by decide +kernel
theorem dX10_here_15 : decode cX10_here 15 = .ok (.getfield 114, 3) := by decide +kernel
theorem dX10_here_18 : decode cX10_here 18 = .ok (.iconst 1, 1) := by decide +kernel
theorem dX10_here_19 : decode cX10_here 19 = .ok (.iadd, 1) := by decide +kernel
theorem dX10_here_20 : decode cX10_here 20 = .ok (.putfield 114, 3) := by decide +kernel
theorem dX10_here_23 : decode cX10_here 23 = .ok (.goto (-23), 3) := by decide +kernel
theorem dX10_here_26 : decode cX10_here 26 = .ok (.aload_n 0, 1) := by decide +kernel
theorem dX10_here_27 : decode cX10_here 27 = .ok (.aload_n 0, 1) := by decide +kernel
theorem dX10_here_28 : decode cX10_here 28 = .ok (.getfield 114, 3) := by decide +kernel
theorem dX10_here_31 : decode cX10_here 31 = .ok (.putfield 121, 3) := by decide +kernel
theorem dX10_here_34 : decode cX10_here 34 = .ok (.aload_n 0, 1) := by decide +kernel
theorem dX10_here_35 : decode cX10_here 35 = .ok (.aload_n 0, 1) := by decide +kernel
theorem dX10_here_36 : decode cX10_here 36 = .ok (.getfield 114, 3) := by decide +kernel
theorem dX10_here_39 : decode cX10_here 39 = .ok (.invokevirtual 117, 3) := by decide +kernel
theorem dX10_here_42 : decode cX10_here 42 = .ok (.ireturn, 1) := by decide +kernel
theorem dX10_fails_0 : decode cX10_fails 0 = .ok (.aload_n 0, 1) := by decide +kernel
theorem dX10_fails_1 : decode cX10_fails 1 = .ok (.iload_n 1, 1) := by decide +kernel
theorem dX10_fails_2 : decode cX10_fails 2 = .ok (.putfield 124, 3) := by decide +kernel
theorem dX10_fails_5 : decode cX10_fails 5 = .ok (.aload_n 0, 1) := by decide +kernel
theorem dX10_fails_6 : decode cX10_fails 6 = .ok (.iload_n 2, 1) := by decide +kernel
theorem dX10_fails_7 : decode cX10_fails 7 = .ok (.putfield 38, 3) := by decide +kernel
theorem dX10_fails_10 : decode cX10_fails 10 = .ok (.iconst 0, 1) := by decide +kernel
theorem dX10_fails_11 : decode cX10_fails 11 = .ok (.ireturn, 1) := by decide +kernel
theorem dX10_takes_0 : decode cX10_takes 0 = .ok (.aload_n 0, 1) := by decide +kernel
theorem dX10_takes_1 : decode cX10_takes 1 = .ok (.invokevirtual 127, 3) := by decide +kernel
theorem dX10_takes_4 : decode cX10_takes 4 = .ok (.iload_n 1, 1) := by decide +kernel
theorem dX10_takes_5 : decode cX10_takes 5 = .ok (.if_icmp .eq 13, 3) := by decide +kernel
theorem dX10_takes_8 : decode cX10_takes 8 = .ok (.aload_n 0, 1) := by decide +kernel
theorem dX10_takes_9 : decode cX10_takes 9 = .ok (.iconst 1, 1) := by decide +kernel
theorem dX10_takes_10 : decode cX10_takes 10 = .ok (.aload_n 0, 1) := by decide +kernel
theorem dX10_takes_11 : decode cX10_takes 11 = .ok (.getfield 121, 3) := by decide +kernel
theorem dX10_takes_14 : decode cX10_takes 14 = .ok (.invokevirtual 131, 3) := by decide +kernel
theorem dX10_takes_17 : decode cX10_takes 17 = .ok (.ireturn, 1) := by decide +kernel
theorem dX10_takes_18 : decode cX10_takes 18 = .ok (.aload_n 0, 1) := by decide +kernel
theorem dX10_takes_19 : decode cX10_takes 19 = .ok (.dup, 1) := by decide +kernel
theorem dX10_takes_20 : decode cX10_takes 20 = .ok (.getfield 114, 3) := by decide +kernel
theorem dX10_takes_23 : decode cX10_takes 23 = .ok (.iconst 1, 1) := by decide +kernel
theorem dX10_takes_24 : decode cX10_takes 24 = .ok (.iadd, 1) := by decide +kernel
theorem dX10_takes_25 : decode cX10_takes 25 = .ok (.putfield 114, 3) := by decide +kernel
theorem dX10_takes_28 : decode cX10_takes 28 = .ok (.iconst 1, 1) := by decide +kernel
theorem dX10_takes_29 : decode cX10_takes 29 = .ok (.ireturn, 1) := by decide +kernel
theorem dX10_takesNumber_0 : decode cX10_takesNumber 0 = .ok (.aload_n 0, 1) := by decide +kernel
theorem dX10_takesNumber_1 : decode cX10_takesNumber 1 = .ok (.invokevirtual 127, 3) := by decide +kernel
theorem dX10_takesNumber_4 : decode cX10_takesNumber 4 = .ok (.i2l, 1) := by decide +kernel
theorem dX10_takesNumber_5 : decode cX10_takesNumber 5 = .ok (.ldc2_w 135, 3) := by decide +kernel
theorem dX10_takesNumber_8 : decode cX10_takesNumber 8 = .ok (.ldc2_w 137, 3) := by decide +kernel
theorem dX10_takesNumber_11 : decode cX10_takesNumber 11 = .ok (.invokestatic 93, 3) := by decide +kernel
theorem dX10_takesNumber_14 : decode cX10_takesNumber 14 = .ok (.ifCond .ne 13, 3) := by decide +kernel
theorem dX10_takesNumber_17 : decode cX10_takesNumber 17 = .ok (.aload_n 0, 1) := by decide +kernel
theorem dX10_takesNumber_18 : decode cX10_takesNumber 18 = .ok (.iconst 1, 1) := by decide +kernel
theorem dX10_takesNumber_19 : decode cX10_takesNumber 19 = .ok (.aload_n 0, 1) := by decide +kernel
theorem dX10_takesNumber_20 : decode cX10_takesNumber 20 = .ok (.getfield 121, 3) := by decide +kernel
theorem dX10_takesNumber_23 : decode cX10_takesNumber 23 = .ok (.invokevirtual 131, 3) := by decide +kernel
theorem dX10_takesNumber_26 : decode cX10_takesNumber 26 = .ok (.ireturn, 1) := by decide +kernel
theorem dX10_takesNumber_27 : decode cX10_takesNumber 27 = .ok (.aload_n 0, 1) := by decide +kernel
theorem dX10_takesNumber_28 : decode cX10_takesNumber 28 = .ok (.iconst 0, 1) := by decide +kernel
theorem dX10_takesNumber_29 : decode cX10_takesNumber 29 = .ok (.putfield 139, 3) := by decide +kernel
theorem dX10_takesNumber_32 : decode cX10_takesNumber 32 = .ok (.aload_n 0, 1) := by decide +kernel
theorem dX10_takesNumber_33 : decode cX10_takesNumber 33 = .ok (.aload_n 0, 1) := by decide +kernel
theorem dX10_takesNumber_34 : decode cX10_takesNumber 34 = .ok (.getfield 114, 3) := by decide +kernel
theorem dX10_takesNumber_37 : decode cX10_takesNumber 37 = .ok (.invokevirtual 117, 3) := by decide +kernel
theorem dX10_takesNumber_40 : decode cX10_takesNumber 40 = .ok (.i2l, 1) := by decide +kernel
theorem dX10_takesNumber_41 : decode cX10_takesNumber 41 = .ok (.ldc2_w 135, 3) := by decide +kernel
theorem dX10_takesNumber_44 : decode cX10_takesNumber 44 = .ok (.ldc2_w 137, 3) := by decide +kernel
theorem dX10_takesNumber_47 : decode cX10_takesNumber 47 = .ok (.invokestatic 93, 3) := by decide +kernel
theorem dX10_takesNumber_50 : decode cX10_takesNumber 50 = .ok (.ifCond .eq 59, 3) := by decide +kernel
theorem dX10_takesNumber_53 : decode cX10_takesNumber 53 = .ok (.aload_n 0, 1) := by decide +kernel
theorem dX10_takesNumber_54 : decode cX10_takesNumber 54 = .ok (.aload_n 0, 1) := by decide +kernel
theorem dX10_takesNumber_55 : decode cX10_takesNumber 55 = .ok (.getfield 114, 3) := by decide +kernel
theorem dX10_takesNumber_58 : decode cX10_takesNumber 58 = .ok (.aload_n 0, 1) := by decide +kernel
theorem dX10_takesNumber_59 : decode cX10_takesNumber 59 = .ok (.getfield 121, 3) := by decide +kernel
theorem dX10_takesNumber_62 : decode cX10_takesNumber 62 = .ok (.isub, 1) := by decide +kernel
theorem dX10_takesNumber_63 : decode cX10_takesNumber 63 = .ok (.iconst 3, 1) := by decide +kernel
theorem dX10_takesNumber_64 : decode cX10_takesNumber 64 = .ok (.if_icmp .ge 25, 3) := by decide +kernel
theorem dX10_takesNumber_67 : decode cX10_takesNumber 67 = .ok (.bipush 10, 2) := by decide +kernel
theorem dX10_takesNumber_69 : decode cX10_takesNumber 69 = .ok (.aload_n 0, 1) := by decide +kernel
theorem dX10_takesNumber_70 : decode cX10_takesNumber 70 = .ok (.getfield 139, 3) := by decide +kernel
theorem dX10_takesNumber_73 : decode cX10_takesNumber 73 = .ok (.imul, 1) := by decide +kernel
theorem dX10_takesNumber_74 : decode cX10_takesNumber 74 = .ok (.aload_n 0, 1) := by decide +kernel
theorem dX10_takesNumber_75 : decode cX10_takesNumber 75 = .ok (.aload_n 0, 1) := by decide +kernel
theorem dX10_takesNumber_76 : decode cX10_takesNumber 76 = .ok (.getfield 114, 3) := by decide +kernel
theorem dX10_takesNumber_79 : decode cX10_takesNumber 79 = .ok (.invokevirtual 117, 3) := by decide +kernel
theorem dX10_takesNumber_82 : decode cX10_takesNumber 82 = .ok (.iadd, 1) := by decide +kernel
theorem dX10_takesNumber_83 : decode cX10_takesNumber 83 = .ok (.bipush 48, 2) := by decide +kernel
theorem dX10_takesNumber_85 : decode cX10_takesNumber 85 = .ok (.isub, 1) := by decide +kernel
theorem dX10_takesNumber_86 : decode cX10_takesNumber 86 = .ok (.goto 7, 3) := by decide +kernel
theorem dX10_takesNumber_89 : decode cX10_takesNumber 89 = .ok (.aload_n 0, 1) := by decide +kernel
theorem dX10_takesNumber_90 : decode cX10_takesNumber 90 = .ok (.getfield 139, 3) := by decide +kernel
theorem dX10_takesNumber_93 : decode cX10_takesNumber 93 = .ok (.putfield 139, 3) := by decide +kernel
theorem dX10_takesNumber_96 : decode cX10_takesNumber 96 = .ok (.aload_n 0, 1) := by decide +kernel
theorem dX10_takesNumber_97 : decode cX10_takesNumber 97 = .ok (.dup, 1) := by decide +kernel
theorem dX10_takesNumber_98 : decode cX10_takesNumber 98 = .ok (.getfield 114, 3) := by decide +kernel
theorem dX10_takesNumber_101 : decode cX10_takesNumber 101 = .ok (.iconst 1, 1) := by decide +kernel
theorem dX10_takesNumber_102 : decode cX10_takesNumber 102 = .ok (.iadd, 1) := by decide +kernel
theorem dX10_takesNumber_103 : decode cX10_takesNumber 103 = .ok (.putfield 114, 3) := by decide +kernel
theorem dX10_takesNumber_106 : decode cX10_takesNumber 106 = .ok (.goto (-74), 3) := by decide +kernel
theorem dX10_takesNumber_109 : decode cX10_takesNumber 109 = .ok (.aload_n 0, 1) := by decide +kernel
theorem dX10_takesNumber_110 : decode cX10_takesNumber 110 = .ok (.getfield 114, 3) := by decide +kernel
theorem dX10_takesNumber_113 : decode cX10_takesNumber 113 = .ok (.aload_n 0, 1) := by decide +kernel
theorem dX10_takesNumber_114 : decode cX10_takesNumber 114 = .ok (.getfield 121, 3) := by decide +kernel
theorem dX10_takesNumber_117 : decode cX10_takesNumber 117 = .ok (.isub, 1) := by decide +kernel
theorem dX10_takesNumber_118 : decode cX10_takesNumber 118 = .ok (.iconst 4, 1) := by decide +kernel
theorem dX10_takesNumber_119 : decode cX10_takesNumber 119 = .ok (.if_icmp .ge 18, 3) := by decide +kernel
theorem dX10_takesNumber_122 : decode cX10_takesNumber 122 = .ok (.aload_n 0, 1) := by decide +kernel
theorem dX10_takesNumber_123 : decode cX10_takesNumber 123 = .ok (.getfield 139, 3) := by decide +kernel
theorem dX10_takesNumber_126 : decode cX10_takesNumber 126 = .ok (.i2l, 1) := by decide +kernel
theorem dX10_takesNumber_127 : decode cX10_takesNumber 127 = .ok (.iload_n 1, 1) := by decide +kernel
theorem dX10_takesNumber_128 : decode cX10_takesNumber 128 = .ok (.i2l, 1) := by decide +kernel
theorem dX10_takesNumber_129 : decode cX10_takesNumber 129 = .ok (.iload_n 2, 1) := by decide +kernel
theorem dX10_takesNumber_130 : decode cX10_takesNumber 130 = .ok (.i2l, 1) := by decide +kernel
theorem dX10_takesNumber_131 : decode cX10_takesNumber 131 = .ok (.invokestatic 93, 3) := by decide +kernel
theorem dX10_takesNumber_134 : decode cX10_takesNumber 134 = .ok (.ifCond .ne 15, 3) := by decide +kernel
theorem dX10_takesNumber_137 : decode cX10_takesNumber 137 = .ok (.aload_n 0, 1) := by decide +kernel
theorem dX10_takesNumber_138 : decode cX10_takesNumber 138 = .ok (.iconst 2, 1) := by decide +kernel
theorem dX10_takesNumber_139 : decode cX10_takesNumber 139 = .ok (.aload_n 0, 1) := by decide +kernel
theorem dX10_takesNumber_140 : decode cX10_takesNumber 140 = .ok (.getfield 121, 3) := by decide +kernel
theorem dX10_takesNumber_143 : decode cX10_takesNumber 143 = .ok (.invokevirtual 131, 3) := by decide +kernel
theorem dX10_takesNumber_146 : decode cX10_takesNumber 146 = .ok (.ifCond .eq 7, 3) := by decide +kernel
theorem dX10_takesNumber_149 : decode cX10_takesNumber 149 = .ok (.iconst 1, 1) := by decide +kernel
theorem dX10_takesNumber_150 : decode cX10_takesNumber 150 = .ok (.goto 4, 3) := by decide +kernel
theorem dX10_takesNumber_153 : decode cX10_takesNumber 153 = .ok (.iconst 0, 1) := by decide +kernel
theorem dX10_takesNumber_154 : decode cX10_takesNumber 154 = .ok (.ireturn, 1) := by decide +kernel
theorem dX10_takesHotel_0 : decode cX10_takesHotel 0 = .ok (.aload_n 0, 1) := by decide +kernel
theorem dX10_takesHotel_1 : decode cX10_takesHotel 1 = .ok (.iconst 1, 1) := by decide +kernel
theorem dX10_takesHotel_2 : decode cX10_takesHotel 2 = .ok (.bipush 8, 2) := by decide +kernel
theorem dX10_takesHotel_4 : decode cX10_takesHotel 4 = .ok (.invokevirtual 142, 3) := by decide +kernel
theorem dX10_takesHotel_7 : decode cX10_takesHotel 7 = .ok (.ifCond .ne 5, 3) := by decide +kernel
theorem dX10_takesHotel_10 : decode cX10_takesHotel 10 = .ok (.iconst 0, 1) := by decide +kernel
theorem dX10_takesHotel_11 : decode cX10_takesHotel 11 = .ok (.ireturn, 1) := by decide +kernel
theorem dX10_takesHotel_12 : decode cX10_takesHotel 12 = .ok (.aload_n 0, 1) := by decide +kernel
theorem dX10_takesHotel_13 : decode cX10_takesHotel 13 = .ok (.aload_n 0, 1) := by decide +kernel
theorem dX10_takesHotel_14 : decode cX10_takesHotel 14 = .ok (.getfield 139, 3) := by decide +kernel
theorem dX10_takesHotel_17 : decode cX10_takesHotel 17 = .ok (.putfield 145, 3) := by decide +kernel
theorem dX10_takesHotel_20 : decode cX10_takesHotel 20 = .ok (.aload_n 0, 1) := by decide +kernel
theorem dX10_takesHotel_21 : decode cX10_takesHotel 21 = .ok (.iconst 0, 1) := by decide +kernel
theorem dX10_takesHotel_22 : decode cX10_takesHotel 22 = .ok (.bipush 99, 2) := by decide +kernel
theorem dX10_takesHotel_24 : decode cX10_takesHotel 24 = .ok (.invokevirtual 142, 3) := by decide +kernel
theorem dX10_takesHotel_27 : decode cX10_takesHotel 27 = .ok (.ifCond .ne 5, 3) := by decide +kernel
theorem dX10_takesHotel_30 : decode cX10_takesHotel 30 = .ok (.iconst 0, 1) := by decide +kernel
theorem dX10_takesHotel_31 : decode cX10_takesHotel 31 = .ok (.ireturn, 1) := by decide +kernel
theorem dX10_takesHotel_32 : decode cX10_takesHotel 32 = .ok (.aload_n 0, 1) := by decide +kernel
theorem dX10_takesHotel_33 : decode cX10_takesHotel 33 = .ok (.aload_n 0, 1) := by decide +kernel
theorem dX10_takesHotel_34 : decode cX10_takesHotel 34 = .ok (.getfield 139, 3) := by decide +kernel
theorem dX10_takesHotel_37 : decode cX10_takesHotel 37 = .ok (.putfield 148, 3) := by decide +kernel
theorem dX10_takesHotel_40 : decode cX10_takesHotel 40 = .ok (.iconst 1, 1) := by decide +kernel
theorem dX10_takesHotel_41 : decode cX10_takesHotel 41 = .ok (.ireturn, 1) := by decide +kernel
theorem dX10_takesPassage_0 : decode cX10_takesPassage 0 = .ok (.aload_n 0, 1) := by decide +kernel
theorem dX10_takesPassage_1 : decode cX10_takesPassage 1 = .ok (.iconst 0, 1) := by decide +kernel
theorem dX10_takesPassage_2 : decode cX10_takesPassage 2 = .ok (.aload_n 0, 1) := by decide +kernel
theorem dX10_takesPassage_3 : decode cX10_takesPassage 3 = .ok (.getfield 145, 3) := by decide +kernel
theorem dX10_takesPassage_6 : decode cX10_takesPassage 6 = .ok (.iconst 1, 1) := by decide +kernel
theorem dX10_takesPassage_7 : decode cX10_takesPassage 7 = .ok (.isub, 1) := by decide +kernel
theorem dX10_takesPassage_8 : decode cX10_takesPassage 8 = .ok (.invokevirtual 142, 3) := by decide +kernel
theorem dX10_takesPassage_11 : decode cX10_takesPassage 11 = .ok (.ifCond .ne 5, 3) := by decide +kernel
theorem dX10_takesPassage_14 : decode cX10_takesPassage 14 = .ok (.iconst 0, 1) := by decide +kernel
theorem dX10_takesPassage_15 : decode cX10_takesPassage 15 = .ok (.ireturn, 1) := by decide +kernel
theorem dX10_takesPassage_16 : decode cX10_takesPassage 16 = .ok (.aload_n 0, 1) := by decide +kernel
theorem dX10_takesPassage_17 : decode cX10_takesPassage 17 = .ok (.getfield 139, 3) := by decide +kernel
theorem dX10_takesPassage_20 : decode cX10_takesPassage 20 = .ok (.istore_n 1, 1) := by decide +kernel
theorem dX10_takesPassage_21 : decode cX10_takesPassage 21 = .ok (.aload_n 0, 1) := by decide +kernel
theorem dX10_takesPassage_22 : decode cX10_takesPassage 22 = .ok (.iconst 0, 1) := by decide +kernel
theorem dX10_takesPassage_23 : decode cX10_takesPassage 23 = .ok (.aload_n 0, 1) := by decide +kernel
theorem dX10_takesPassage_24 : decode cX10_takesPassage 24 = .ok (.getfield 145, 3) := by decide +kernel
theorem dX10_takesPassage_27 : decode cX10_takesPassage 27 = .ok (.iconst 1, 1) := by decide +kernel
theorem dX10_takesPassage_28 : decode cX10_takesPassage 28 = .ok (.isub, 1) := by decide +kernel
theorem dX10_takesPassage_29 : decode cX10_takesPassage 29 = .ok (.invokevirtual 142, 3) := by decide +kernel
theorem dX10_takesPassage_32 : decode cX10_takesPassage 32 = .ok (.ifCond .ne 5, 3) := by decide +kernel
theorem dX10_takesPassage_35 : decode cX10_takesPassage 35 = .ok (.iconst 0, 1) := by decide +kernel
theorem dX10_takesPassage_36 : decode cX10_takesPassage 36 = .ok (.ireturn, 1) := by decide +kernel
theorem dX10_takesPassage_37 : decode cX10_takesPassage 37 = .ok (.aload_n 0, 1) := by decide +kernel
theorem dX10_takesPassage_38 : decode cX10_takesPassage 38 = .ok (.getfield 139, 3) := by decide +kernel
theorem dX10_takesPassage_41 : decode cX10_takesPassage 41 = .ok (.iload_n 1, 1) := by decide +kernel
theorem dX10_takesPassage_42 : decode cX10_takesPassage 42 = .ok (.if_icmp .eq 19, 3) := by decide +kernel
theorem dX10_takesPassage_45 : decode cX10_takesPassage 45 = .ok (.aload_n 0, 1) := by decide +kernel
theorem dX10_takesPassage_46 : decode cX10_takesPassage 46 = .ok (.getfield 42, 3) := by decide +kernel
theorem dX10_takesPassage_49 : decode cX10_takesPassage 49 = .ok (.iload_n 1, 1) := by decide +kernel
theorem dX10_takesPassage_50 : decode cX10_takesPassage 50 = .ok (.iaload, 1) := by decide +kernel
theorem dX10_takesPassage_51 : decode cX10_takesPassage 51 = .ok (.aload_n 0, 1) := by decide +kernel
theorem dX10_takesPassage_52 : decode cX10_takesPassage 52 = .ok (.getfield 139, 3) := by decide +kernel
theorem dX10_takesPassage_55 : decode cX10_takesPassage 55 = .ok (.invokestatic 151, 3) := by decide +kernel
theorem dX10_takesPassage_58 : decode cX10_takesPassage 58 = .ok (.ifCond .eq 13, 3) := by decide +kernel
theorem dX10_takesPassage_61 : decode cX10_takesPassage 61 = .ok (.aload_n 0, 1) := by decide +kernel
theorem dX10_takesPassage_62 : decode cX10_takesPassage 62 = .ok (.iconst 4, 1) := by decide +kernel
theorem dX10_takesPassage_63 : decode cX10_takesPassage 63 = .ok (.aload_n 0, 1) := by decide +kernel
theorem dX10_takesPassage_64 : decode cX10_takesPassage 64 = .ok (.getfield 121, 3) := by decide +kernel
theorem dX10_takesPassage_67 : decode cX10_takesPassage 67 = .ok (.invokevirtual 131, 3) := by decide +kernel
theorem dX10_takesPassage_70 : decode cX10_takesPassage 70 = .ok (.ireturn, 1) := by decide +kernel
theorem dX10_takesPassage_71 : decode cX10_takesPassage 71 = .ok (.aload_n 0, 1) := by decide +kernel
theorem dX10_takesPassage_72 : decode cX10_takesPassage 72 = .ok (.getfield 42, 3) := by decide +kernel
theorem dX10_takesPassage_75 : decode cX10_takesPassage 75 = .ok (.iload_n 1, 1) := by decide +kernel
theorem dX10_takesPassage_76 : decode cX10_takesPassage 76 = .ok (.dup2, 1) := by decide +kernel
theorem dX10_takesPassage_77 : decode cX10_takesPassage 77 = .ok (.iaload, 1) := by decide +kernel
theorem dX10_takesPassage_78 : decode cX10_takesPassage 78 = .ok (.iconst 1, 1) := by decide +kernel
theorem dX10_takesPassage_79 : decode cX10_takesPassage 79 = .ok (.aload_n 0, 1) := by decide +kernel
theorem dX10_takesPassage_80 : decode cX10_takesPassage 80 = .ok (.getfield 139, 3) := by decide +kernel
theorem dX10_takesPassage_83 : decode cX10_takesPassage 83 = .ok (.ishl, 1) := by decide +kernel
theorem dX10_takesPassage_84 : decode cX10_takesPassage 84 = .ok (.ior, 1) := by decide +kernel
theorem dX10_takesPassage_85 : decode cX10_takesPassage 85 = .ok (.iastore, 1) := by decide +kernel
theorem dX10_takesPassage_86 : decode cX10_takesPassage 86 = .ok (.aload_n 0, 1) := by decide +kernel
theorem dX10_takesPassage_87 : decode cX10_takesPassage 87 = .ok (.getfield 42, 3) := by decide +kernel
theorem dX10_takesPassage_90 : decode cX10_takesPassage 90 = .ok (.aload_n 0, 1) := by decide +kernel
theorem dX10_takesPassage_91 : decode cX10_takesPassage 91 = .ok (.getfield 139, 3) := by decide +kernel
theorem dX10_takesPassage_94 : decode cX10_takesPassage 94 = .ok (.dup2, 1) := by decide +kernel
theorem dX10_takesPassage_95 : decode cX10_takesPassage 95 = .ok (.iaload, 1) := by decide +kernel
theorem dX10_takesPassage_96 : decode cX10_takesPassage 96 = .ok (.iconst 1, 1) := by decide +kernel
theorem dX10_takesPassage_97 : decode cX10_takesPassage 97 = .ok (.iload_n 1, 1) := by decide +kernel
theorem dX10_takesPassage_98 : decode cX10_takesPassage 98 = .ok (.ishl, 1) := by decide +kernel
theorem dX10_takesPassage_99 : decode cX10_takesPassage 99 = .ok (.ior, 1) := by decide +kernel
theorem dX10_takesPassage_100 : decode cX10_takesPassage 100 = .ok (.iastore, 1) := by decide +kernel
theorem dX10_takesPassage_101 : decode cX10_takesPassage 101 = .ok (.aload_n 0, 1) := by decide +kernel
theorem dX10_takesPassage_102 : decode cX10_takesPassage 102 = .ok (.dup, 1) := by decide +kernel
theorem dX10_takesPassage_103 : decode cX10_takesPassage 103 = .ok (.getfield 154, 3) := by decide +kernel
theorem dX10_takesPassage_106 : decode cX10_takesPassage 106 = .ok (.iconst 1, 1) := by decide +kernel
theorem dX10_takesPassage_107 : decode cX10_takesPassage 107 = .ok (.iadd, 1) := by decide +kernel
theorem dX10_takesPassage_108 : decode cX10_takesPassage 108 = .ok (.putfield 154, 3) := by decide +kernel
theorem dX10_takesPassage_111 : decode cX10_takesPassage 111 = .ok (.iconst 1, 1) := by decide +kernel
theorem dX10_takesPassage_112 : decode cX10_takesPassage 112 = .ok (.ireturn, 1) := by decide +kernel
theorem dX10_takesWaiter_0 : decode cX10_takesWaiter 0 = .ok (.aload_n 0, 1) := by decide +kernel
theorem dX10_takesWaiter_1 : decode cX10_takesWaiter 1 = .ok (.iconst 0, 1) := by decide +kernel
theorem dX10_takesWaiter_2 : decode cX10_takesWaiter 2 = .ok (.aload_n 0, 1) := by decide +kernel
theorem dX10_takesWaiter_3 : decode cX10_takesWaiter 3 = .ok (.getfield 145, 3) := by decide +kernel
theorem dX10_takesWaiter_6 : decode cX10_takesWaiter 6 = .ok (.iconst 1, 1) := by decide +kernel
theorem dX10_takesWaiter_7 : decode cX10_takesWaiter 7 = .ok (.isub, 1) := by decide +kernel
theorem dX10_takesWaiter_8 : decode cX10_takesWaiter 8 = .ok (.invokevirtual 142, 3) := by decide +kernel
theorem dX10_takesWaiter_11 : decode cX10_takesWaiter 11 = .ok (.ifCond .ne 5, 3) := by decide +kernel
theorem dX10_takesWaiter_14 : decode cX10_takesWaiter 14 = .ok (.iconst 0, 1) := by decide +kernel
theorem dX10_takesWaiter_15 : decode cX10_takesWaiter 15 = .ok (.ireturn, 1) := by decide +kernel
theorem dX10_takesWaiter_16 : decode cX10_takesWaiter 16 = .ok (.aload_n 0, 1) := by decide +kernel
theorem dX10_takesWaiter_17 : decode cX10_takesWaiter 17 = .ok (.getfield 45, 3) := by decide +kernel
theorem dX10_takesWaiter_20 : decode cX10_takesWaiter 20 = .ok (.iconst 2, 1) := by decide +kernel
theorem dX10_takesWaiter_21 : decode cX10_takesWaiter 21 = .ok (.aload_n 0, 1) := by decide +kernel
theorem dX10_takesWaiter_22 : decode cX10_takesWaiter 22 = .ok (.getfield 157, 3) := by decide +kernel
theorem dX10_takesWaiter_25 : decode cX10_takesWaiter 25 = .ok (.imul, 1) := by decide +kernel
theorem dX10_takesWaiter_26 : decode cX10_takesWaiter 26 = .ok (.aload_n 0, 1) := by decide +kernel
theorem dX10_takesWaiter_27 : decode cX10_takesWaiter 27 = .ok (.getfield 139, 3) := by decide +kernel
theorem dX10_takesWaiter_30 : decode cX10_takesWaiter 30 = .ok (.iastore, 1) := by decide +kernel
theorem dX10_takesWaiter_31 : decode cX10_takesWaiter 31 = .ok (.aload_n 0, 1) := by decide +kernel
theorem dX10_takesWaiter_32 : decode cX10_takesWaiter 32 = .ok (.iconst 1, 1) := by decide +kernel
theorem dX10_takesWaiter_33 : decode cX10_takesWaiter 33 = .ok (.sipush 999, 3) := by decide +kernel
theorem dX10_takesWaiter_36 : decode cX10_takesWaiter 36 = .ok (.invokevirtual 142, 3) := by decide +kernel
theorem dX10_takesWaiter_39 : decode cX10_takesWaiter 39 = .ok (.ifCond .ne 5, 3) := by decide +kernel
theorem dX10_takesWaiter_42 : decode cX10_takesWaiter 42 = .ok (.iconst 0, 1) := by decide +kernel
theorem dX10_takesWaiter_43 : decode cX10_takesWaiter 43 = .ok (.ireturn, 1) := by decide +kernel
theorem dX10_takesWaiter_44 : decode cX10_takesWaiter 44 = .ok (.aload_n 0, 1) := by decide +kernel
theorem dX10_takesWaiter_45 : decode cX10_takesWaiter 45 = .ok (.getfield 45, 3) := by decide +kernel
theorem dX10_takesWaiter_48 : decode cX10_takesWaiter 48 = .ok (.iconst 2, 1) := by decide +kernel
theorem dX10_takesWaiter_49 : decode cX10_takesWaiter 49 = .ok (.aload_n 0, 1) := by decide +kernel
theorem dX10_takesWaiter_50 : decode cX10_takesWaiter 50 = .ok (.getfield 157, 3) := by decide +kernel
theorem dX10_takesWaiter_53 : decode cX10_takesWaiter 53 = .ok (.imul, 1) := by decide +kernel
theorem dX10_takesWaiter_54 : decode cX10_takesWaiter 54 = .ok (.iconst 1, 1) := by decide +kernel
theorem dX10_takesWaiter_55 : decode cX10_takesWaiter 55 = .ok (.iadd, 1) := by decide +kernel
theorem dX10_takesWaiter_56 : decode cX10_takesWaiter 56 = .ok (.aload_n 0, 1) := by decide +kernel
theorem dX10_takesWaiter_57 : decode cX10_takesWaiter 57 = .ok (.getfield 139, 3) := by decide +kernel
theorem dX10_takesWaiter_60 : decode cX10_takesWaiter 60 = .ok (.iastore, 1) := by decide +kernel
theorem dX10_takesWaiter_61 : decode cX10_takesWaiter 61 = .ok (.aload_n 0, 1) := by decide +kernel
theorem dX10_takesWaiter_62 : decode cX10_takesWaiter 62 = .ok (.dup, 1) := by decide +kernel
theorem dX10_takesWaiter_63 : decode cX10_takesWaiter 63 = .ok (.getfield 157, 3) := by decide +kernel
theorem dX10_takesWaiter_66 : decode cX10_takesWaiter 66 = .ok (.iconst 1, 1) := by decide +kernel
theorem dX10_takesWaiter_67 : decode cX10_takesWaiter 67 = .ok (.iadd, 1) := by decide +kernel
theorem dX10_takesWaiter_68 : decode cX10_takesWaiter 68 = .ok (.putfield 157, 3) := by decide +kernel
theorem dX10_takesWaiter_71 : decode cX10_takesWaiter 71 = .ok (.iconst 1, 1) := by decide +kernel
theorem dX10_takesWaiter_72 : decode cX10_takesWaiter 72 = .ok (.ireturn, 1) := by decide +kernel
theorem dX10_takesThing_0 : decode cX10_takesThing 0 = .ok (.aload_n 0, 1) := by decide +kernel
theorem dX10_takesThing_1 : decode cX10_takesThing 1 = .ok (.iconst 1, 1) := by decide +kernel
theorem dX10_takesThing_2 : decode cX10_takesThing 2 = .ok (.bipush 99, 2) := by decide +kernel
theorem dX10_takesThing_4 : decode cX10_takesThing 4 = .ok (.invokevirtual 142, 3) := by decide +kernel
theorem dX10_takesThing_7 : decode cX10_takesThing 7 = .ok (.ifCond .ne 5, 3) := by decide +kernel
theorem dX10_takesThing_10 : decode cX10_takesThing 10 = .ok (.iconst 0, 1) := by decide +kernel
theorem dX10_takesThing_11 : decode cX10_takesThing 11 = .ok (.ireturn, 1) := by decide +kernel
theorem dX10_takesThing_12 : decode cX10_takesThing 12 = .ok (.aload_n 0, 1) := by decide +kernel
theorem dX10_takesThing_13 : decode cX10_takesThing 13 = .ok (.getfield 48, 3) := by decide +kernel
theorem dX10_takesThing_16 : decode cX10_takesThing 16 = .ok (.iconst 2, 1) := by decide +kernel
theorem dX10_takesThing_17 : decode cX10_takesThing 17 = .ok (.aload_n 0, 1) := by decide +kernel
theorem dX10_takesThing_18 : decode cX10_takesThing 18 = .ok (.getfield 160, 3) := by decide +kernel
theorem dX10_takesThing_21 : decode cX10_takesThing 21 = .ok (.imul, 1) := by decide +kernel
theorem dX10_takesThing_22 : decode cX10_takesThing 22 = .ok (.aload_n 0, 1) := by decide +kernel
theorem dX10_takesThing_23 : decode cX10_takesThing 23 = .ok (.getfield 139, 3) := by decide +kernel
theorem dX10_takesThing_26 : decode cX10_takesThing 26 = .ok (.iastore, 1) := by decide +kernel
theorem dX10_takesThing_27 : decode cX10_takesThing 27 = .ok (.aload_n 0, 1) := by decide +kernel
theorem dX10_takesThing_28 : decode cX10_takesThing 28 = .ok (.iconst 0, 1) := by decide +kernel
theorem dX10_takesThing_29 : decode cX10_takesThing 29 = .ok (.bipush 99, 2) := by decide +kernel
theorem dX10_takesThing_31 : decode cX10_takesThing 31 = .ok (.invokevirtual 142, 3) := by decide +kernel
theorem dX10_takesThing_34 : decode cX10_takesThing 34 = .ok (.ifCond .ne 5, 3) := by decide +kernel
theorem dX10_takesThing_37 : decode cX10_takesThing 37 = .ok (.iconst 0, 1) := by decide +kernel
theorem dX10_takesThing_38 : decode cX10_takesThing 38 = .ok (.ireturn, 1) := by decide +kernel
theorem dX10_takesThing_39 : decode cX10_takesThing 39 = .ok (.aload_n 0, 1) := by decide +kernel
theorem dX10_takesThing_40 : decode cX10_takesThing 40 = .ok (.getfield 48, 3) := by decide +kernel
theorem dX10_takesThing_43 : decode cX10_takesThing 43 = .ok (.iconst 2, 1) := by decide +kernel
theorem dX10_takesThing_44 : decode cX10_takesThing 44 = .ok (.aload_n 0, 1) := by decide +kernel
theorem dX10_takesThing_45 : decode cX10_takesThing 45 = .ok (.getfield 160, 3) := by decide +kernel
theorem dX10_takesThing_48 : decode cX10_takesThing 48 = .ok (.imul, 1) := by decide +kernel
theorem dX10_takesThing_49 : decode cX10_takesThing 49 = .ok (.iconst 1, 1) := by decide +kernel
theorem dX10_takesThing_50 : decode cX10_takesThing 50 = .ok (.iadd, 1) := by decide +kernel
theorem dX10_takesThing_51 : decode cX10_takesThing 51 = .ok (.aload_n 0, 1) := by decide +kernel
theorem dX10_takesThing_52 : decode cX10_takesThing 52 = .ok (.getfield 139, 3) := by decide +kernel
theorem dX10_takesThing_55 : decode cX10_takesThing 55 = .ok (.iastore, 1) := by decide +kernel
theorem dX10_takesThing_56 : decode cX10_takesThing 56 = .ok (.aload_n 0, 1) := by decide +kernel
theorem dX10_takesThing_57 : decode cX10_takesThing 57 = .ok (.dup, 1) := by decide +kernel
theorem dX10_takesThing_58 : decode cX10_takesThing 58 = .ok (.getfield 160, 3) := by decide +kernel
theorem dX10_takesThing_61 : decode cX10_takesThing 61 = .ok (.iconst 1, 1) := by decide +kernel
theorem dX10_takesThing_62 : decode cX10_takesThing 62 = .ok (.iadd, 1) := by decide +kernel
theorem dX10_takesThing_63 : decode cX10_takesThing 63 = .ok (.putfield 160, 3) := by decide +kernel
theorem dX10_takesThing_66 : decode cX10_takesThing 66 = .ok (.iconst 1, 1) := by decide +kernel
theorem dX10_takesThing_67 : decode cX10_takesThing 67 = .ok (.ireturn, 1) := by decide +kernel
theorem dX10_takesOrder_0 : decode cX10_takesOrder 0 = .ok (.aload_n 0, 1) := by decide +kernel
theorem dX10_takesOrder_1 : decode cX10_takesOrder 1 = .ok (.iconst 0, 1) := by decide +kernel
theorem dX10_takesOrder_2 : decode cX10_takesOrder 2 = .ok (.aload_n 0, 1) := by decide +kernel
theorem dX10_takesOrder_3 : decode cX10_takesOrder 3 = .ok (.getfield 145, 3) := by decide +kernel
theorem dX10_takesOrder_6 : decode cX10_takesOrder 6 = .ok (.iconst 1, 1) := by decide +kernel
theorem dX10_takesOrder_7 : decode cX10_takesOrder 7 = .ok (.isub, 1) := by decide +kernel
theorem dX10_takesOrder_8 : decode cX10_takesOrder 8 = .ok (.invokevirtual 142, 3) := by decide +kernel
theorem dX10_takesOrder_11 : decode cX10_takesOrder 11 = .ok (.ifCond .ne 5, 3) := by decide +kernel
theorem dX10_takesOrder_14 : decode cX10_takesOrder 14 = .ok (.iconst 0, 1) := by decide +kernel
theorem dX10_takesOrder_15 : decode cX10_takesOrder 15 = .ok (.ireturn, 1) := by decide +kernel
theorem dX10_takesOrder_16 : decode cX10_takesOrder 16 = .ok (.aload_n 0, 1) := by decide +kernel
theorem dX10_takesOrder_17 : decode cX10_takesOrder 17 = .ok (.getfield 51, 3) := by decide +kernel
theorem dX10_takesOrder_20 : decode cX10_takesOrder 20 = .ok (.iconst 2, 1) := by decide +kernel
theorem dX10_takesOrder_21 : decode cX10_takesOrder 21 = .ok (.aload_n 0, 1) := by decide +kernel
theorem dX10_takesOrder_22 : decode cX10_takesOrder 22 = .ok (.getfield 163, 3) := by decide +kernel
theorem dX10_takesOrder_25 : decode cX10_takesOrder 25 = .ok (.imul, 1) := by decide +kernel
theorem dX10_takesOrder_26 : decode cX10_takesOrder 26 = .ok (.aload_n 0, 1) := by decide +kernel
theorem dX10_takesOrder_27 : decode cX10_takesOrder 27 = .ok (.getfield 139, 3) := by decide +kernel
theorem dX10_takesOrder_30 : decode cX10_takesOrder 30 = .ok (.iastore, 1) := by decide +kernel
theorem dX10_takesOrder_31 : decode cX10_takesOrder 31 = .ok (.aload_n 0, 1) := by decide +kernel
theorem dX10_takesOrder_32 : decode cX10_takesOrder 32 = .ok (.iconst 0, 1) := by decide +kernel
theorem dX10_takesOrder_33 : decode cX10_takesOrder 33 = .ok (.bipush 99, 2) := by decide +kernel
theorem dX10_takesOrder_35 : decode cX10_takesOrder 35 = .ok (.invokevirtual 142, 3) := by decide +kernel
theorem dX10_takesOrder_38 : decode cX10_takesOrder 38 = .ok (.ifCond .ne 5, 3) := by decide +kernel
theorem dX10_takesOrder_41 : decode cX10_takesOrder 41 = .ok (.iconst 0, 1) := by decide +kernel
theorem dX10_takesOrder_42 : decode cX10_takesOrder 42 = .ok (.ireturn, 1) := by decide +kernel
theorem dX10_takesOrder_43 : decode cX10_takesOrder 43 = .ok (.aload_n 0, 1) := by decide +kernel
theorem dX10_takesOrder_44 : decode cX10_takesOrder 44 = .ok (.getfield 51, 3) := by decide +kernel
theorem dX10_takesOrder_47 : decode cX10_takesOrder 47 = .ok (.iconst 2, 1) := by decide +kernel
theorem dX10_takesOrder_48 : decode cX10_takesOrder 48 = .ok (.aload_n 0, 1) := by decide +kernel
theorem dX10_takesOrder_49 : decode cX10_takesOrder 49 = .ok (.getfield 163, 3) := by decide +kernel
theorem dX10_takesOrder_52 : decode cX10_takesOrder 52 = .ok (.imul, 1) := by decide +kernel
theorem dX10_takesOrder_53 : decode cX10_takesOrder 53 = .ok (.iconst 1, 1) := by decide +kernel
theorem dX10_takesOrder_54 : decode cX10_takesOrder 54 = .ok (.iadd, 1) := by decide +kernel
theorem dX10_takesOrder_55 : decode cX10_takesOrder 55 = .ok (.aload_n 0, 1) := by decide +kernel
theorem dX10_takesOrder_56 : decode cX10_takesOrder 56 = .ok (.getfield 139, 3) := by decide +kernel
theorem dX10_takesOrder_59 : decode cX10_takesOrder 59 = .ok (.iastore, 1) := by decide +kernel
theorem dX10_takesOrder_60 : decode cX10_takesOrder 60 = .ok (.aload_n 0, 1) := by decide +kernel
theorem dX10_takesOrder_61 : decode cX10_takesOrder 61 = .ok (.dup, 1) := by decide +kernel
theorem dX10_takesOrder_62 : decode cX10_takesOrder 62 = .ok (.getfield 163, 3) := by decide +kernel
theorem dX10_takesOrder_65 : decode cX10_takesOrder 65 = .ok (.iconst 1, 1) := by decide +kernel
theorem dX10_takesOrder_66 : decode cX10_takesOrder 66 = .ok (.iadd, 1) := by decide +kernel
theorem dX10_takesOrder_67 : decode cX10_takesOrder 67 = .ok (.putfield 163, 3) := by decide +kernel
theorem dX10_takesOrder_70 : decode cX10_takesOrder 70 = .ok (.iconst 1, 1) := by decide +kernel
theorem dX10_takesOrder_71 : decode cX10_takesOrder 71 = .ok (.ireturn, 1) := by decide +kernel
theorem dX10_takesWords_0 : decode cX10_takesWords 0 = .ok (.iload_n 1, 1) := by decide +kernel
theorem dX10_takesWords_1 : decode cX10_takesWords 1 = .ok (.lookupswitch 63 #[(104, 43), (112, 48), (116, 58), (119, 53)], 43) := by decide +kernel
theorem dX10_takesWords_44 : decode cX10_takesWords 44 = .ok (.aload_n 0, 1) := by decide +kernel
theorem dX10_takesWords_45 : decode cX10_takesWords 45 = .ok (.invokevirtual 166, 3) := by decide +kernel
theorem dX10_takesWords_48 : decode cX10_takesWords 48 = .ok (.ireturn, 1) := by decide +kernel
theorem dX10_takesWords_49 : decode cX10_takesWords 49 = .ok (.aload_n 0, 1) := by decide +kernel
theorem dX10_takesWords_50 : decode cX10_takesWords 50 = .ok (.invokevirtual 170, 3) := by decide +kernel
theorem dX10_takesWords_53 : decode cX10_takesWords 53 = .ok (.ireturn, 1) := by decide +kernel
theorem dX10_takesWords_54 : decode cX10_takesWords 54 = .ok (.aload_n 0, 1) := by decide +kernel
theorem dX10_takesWords_55 : decode cX10_takesWords 55 = .ok (.invokevirtual 173, 3) := by decide +kernel
theorem dX10_takesWords_58 : decode cX10_takesWords 58 = .ok (.ireturn, 1) := by decide +kernel
theorem dX10_takesWords_59 : decode cX10_takesWords 59 = .ok (.aload_n 0, 1) := by decide +kernel
theorem dX10_takesWords_60 : decode cX10_takesWords 60 = .ok (.invokevirtual 176, 3) := by decide +kernel
theorem dX10_takesWords_63 : decode cX10_takesWords 63 = .ok (.ireturn, 1) := by decide +kernel
theorem dX10_takesWords_64 : decode cX10_takesWords 64 = .ok (.aload_n 0, 1) := by decide +kernel
theorem dX10_takesWords_65 : decode cX10_takesWords 65 = .ok (.invokevirtual 179, 3) := by decide +kernel
theorem dX10_takesWords_68 : decode cX10_takesWords 68 = .ok (.ireturn, 1) := by decide +kernel
theorem dX10_takesClause_0 : decode cX10_takesClause 0 = .ok (.aload_n 0, 1) := by decide +kernel
theorem dX10_takesClause_1 : decode cX10_takesClause 1 = .ok (.invokevirtual 127, 3) := by decide +kernel
theorem dX10_takesClause_4 : decode cX10_takesClause 4 = .ok (.istore_n 1, 1) := by decide +kernel
theorem dX10_takesClause_5 : decode cX10_takesClause 5 = .ok (.iload_n 1, 1) := by decide +kernel
theorem dX10_takesClause_6 : decode cX10_takesClause 6 = .ok (.bipush 104, 2) := by decide +kernel
theorem dX10_takesClause_8 : decode cX10_takesClause 8 = .ok (.if_icmp .eq 34, 3) := by decide +kernel
theorem dX10_takesClause_11 : decode cX10_takesClause 11 = .ok (.aload_n 0, 1) := by decide +kernel
theorem dX10_takesClause_12 : decode cX10_takesClause 12 = .ok (.getfield 145, 3) := by decide +kernel
theorem dX10_takesClause_15 : decode cX10_takesClause 15 = .ok (.ifCond .le 31, 3) := by decide +kernel
theorem dX10_takesClause_18 : decode cX10_takesClause 18 = .ok (.iload_n 1, 1) := by decide +kernel
theorem dX10_takesClause_19 : decode cX10_takesClause 19 = .ok (.bipush 112, 2) := by decide +kernel
theorem dX10_takesClause_21 : decode cX10_takesClause 21 = .ok (.if_icmp .eq 21, 3) := by decide +kernel
theorem dX10_takesClause_24 : decode cX10_takesClause 24 = .ok (.iload_n 1, 1) := by decide +kernel
theorem dX10_takesClause_25 : decode cX10_takesClause 25 = .ok (.bipush 119, 2) := by decide +kernel
theorem dX10_takesClause_27 : decode cX10_takesClause 27 = .ok (.if_icmp .eq 15, 3) := by decide +kernel
theorem dX10_takesClause_30 : decode cX10_takesClause 30 = .ok (.iload_n 1, 1) := by decide +kernel
theorem dX10_takesClause_31 : decode cX10_takesClause 31 = .ok (.bipush 116, 2) := by decide +kernel
theorem dX10_takesClause_33 : decode cX10_takesClause 33 = .ok (.if_icmp .eq 9, 3) := by decide +kernel
theorem dX10_takesClause_36 : decode cX10_takesClause 36 = .ok (.iload_n 1, 1) := by decide +kernel
theorem dX10_takesClause_37 : decode cX10_takesClause 37 = .ok (.bipush 111, 2) := by decide +kernel
theorem dX10_takesClause_39 : decode cX10_takesClause 39 = .ok (.if_icmp .ne 7, 3) := by decide +kernel
theorem dX10_takesClause_42 : decode cX10_takesClause 42 = .ok (.iconst 1, 1) := by decide +kernel
theorem dX10_takesClause_43 : decode cX10_takesClause 43 = .ok (.goto 4, 3) := by decide +kernel
theorem dX10_takesClause_46 : decode cX10_takesClause 46 = .ok (.iconst 0, 1) := by decide +kernel
theorem dX10_takesClause_47 : decode cX10_takesClause 47 = .ok (.istore_n 2, 1) := by decide +kernel
theorem dX10_takesClause_48 : decode cX10_takesClause 48 = .ok (.iload_n 2, 1) := by decide +kernel
theorem dX10_takesClause_49 : decode cX10_takesClause 49 = .ok (.ifCond .ne 13, 3) := by decide +kernel
theorem dX10_takesClause_52 : decode cX10_takesClause 52 = .ok (.aload_n 0, 1) := by decide +kernel
theorem dX10_takesClause_53 : decode cX10_takesClause 53 = .ok (.iconst 1, 1) := by decide +kernel
theorem dX10_takesClause_54 : decode cX10_takesClause 54 = .ok (.aload_n 0, 1) := by decide +kernel
theorem dX10_takesClause_55 : decode cX10_takesClause 55 = .ok (.getfield 121, 3) := by decide +kernel
theorem dX10_takesClause_58 : decode cX10_takesClause 58 = .ok (.invokevirtual 131, 3) := by decide +kernel
theorem dX10_takesClause_61 : decode cX10_takesClause 61 = .ok (.ireturn, 1) := by decide +kernel
theorem dX10_takesClause_62 : decode cX10_takesClause 62 = .ok (.iload_n 1, 1) := by decide +kernel
theorem dX10_takesClause_63 : decode cX10_takesClause 63 = .ok (.bipush 104, 2) := by decide +kernel
theorem dX10_takesClause_65 : decode cX10_takesClause 65 = .ok (.if_icmp .ne 18, 3) := by decide +kernel
theorem dX10_takesClause_68 : decode cX10_takesClause 68 = .ok (.aload_n 0, 1) := by decide +kernel
theorem dX10_takesClause_69 : decode cX10_takesClause 69 = .ok (.getfield 145, 3) := by decide +kernel
theorem dX10_takesClause_72 : decode cX10_takesClause 72 = .ok (.ifCond .le 7, 3) := by decide +kernel
theorem dX10_takesClause_75 : decode cX10_takesClause 75 = .ok (.iconst 1, 1) := by decide +kernel
theorem dX10_takesClause_76 : decode cX10_takesClause 76 = .ok (.goto 88, 3) := by decide +kernel
theorem dX10_takesClause_79 : decode cX10_takesClause 79 = .ok (.iconst 0, 1) := by decide +kernel
theorem dX10_takesClause_80 : decode cX10_takesClause 80 = .ok (.goto 84, 3) := by decide +kernel
theorem dX10_takesClause_83 : decode cX10_takesClause 83 = .ok (.iload_n 1, 1) := by decide +kernel
theorem dX10_takesClause_84 : decode cX10_takesClause 84 = .ok (.bipush 112, 2) := by decide +kernel
theorem dX10_takesClause_86 : decode cX10_takesClause 86 = .ok (.if_icmp .ne 20, 3) := by decide +kernel
theorem dX10_takesClause_89 : decode cX10_takesClause 89 = .ok (.aload_n 0, 1) := by decide +kernel
theorem dX10_takesClause_90 : decode cX10_takesClause 90 = .ok (.getfield 154, 3) := by decide +kernel
theorem dX10_takesClause_93 : decode cX10_takesClause 93 = .ok (.bipush 12, 2) := by decide +kernel
theorem dX10_takesClause_95 : decode cX10_takesClause 95 = .ok (.if_icmp .ne 7, 3) := by decide +kernel
theorem dX10_takesClause_98 : decode cX10_takesClause 98 = .ok (.iconst 1, 1) := by decide +kernel
theorem dX10_takesClause_99 : decode cX10_takesClause 99 = .ok (.goto 65, 3) := by decide +kernel
theorem dX10_takesClause_102 : decode cX10_takesClause 102 = .ok (.iconst 0, 1) := by decide +kernel
theorem dX10_takesClause_103 : decode cX10_takesClause 103 = .ok (.goto 61, 3) := by decide +kernel
theorem dX10_takesClause_106 : decode cX10_takesClause 106 = .ok (.iload_n 1, 1) := by decide +kernel
theorem dX10_takesClause_107 : decode cX10_takesClause 107 = .ok (.bipush 119, 2) := by decide +kernel
theorem dX10_takesClause_109 : decode cX10_takesClause 109 = .ok (.if_icmp .ne 19, 3) := by decide +kernel
theorem dX10_takesClause_112 : decode cX10_takesClause 112 = .ok (.aload_n 0, 1) := by decide +kernel
theorem dX10_takesClause_113 : decode cX10_takesClause 113 = .ok (.getfield 157, 3) := by decide +kernel
theorem dX10_takesClause_116 : decode cX10_takesClause 116 = .ok (.iconst 4, 1) := by decide +kernel
theorem dX10_takesClause_117 : decode cX10_takesClause 117 = .ok (.if_icmp .ne 7, 3) := by decide +kernel
theorem dX10_takesClause_120 : decode cX10_takesClause 120 = .ok (.iconst 1, 1) := by decide +kernel
theorem dX10_takesClause_121 : decode cX10_takesClause 121 = .ok (.goto 43, 3) := by decide +kernel
theorem dX10_takesClause_124 : decode cX10_takesClause 124 = .ok (.iconst 0, 1) := by decide +kernel
theorem dX10_takesClause_125 : decode cX10_takesClause 125 = .ok (.goto 39, 3) := by decide +kernel
theorem dX10_takesClause_128 : decode cX10_takesClause 128 = .ok (.iload_n 1, 1) := by decide +kernel
theorem dX10_takesClause_129 : decode cX10_takesClause 129 = .ok (.bipush 116, 2) := by decide +kernel
theorem dX10_takesClause_131 : decode cX10_takesClause 131 = .ok (.if_icmp .ne 20, 3) := by decide +kernel
theorem dX10_takesClause_134 : decode cX10_takesClause 134 = .ok (.aload_n 0, 1) := by decide +kernel
theorem dX10_takesClause_135 : decode cX10_takesClause 135 = .ok (.getfield 160, 3) := by decide +kernel
theorem dX10_takesClause_138 : decode cX10_takesClause 138 = .ok (.bipush 8, 2) := by decide +kernel
theorem dX10_takesClause_140 : decode cX10_takesClause 140 = .ok (.if_icmp .ne 7, 3) := by decide +kernel
theorem dX10_takesClause_143 : decode cX10_takesClause 143 = .ok (.iconst 1, 1) := by decide +kernel
theorem dX10_takesClause_144 : decode cX10_takesClause 144 = .ok (.goto 20, 3) := by decide +kernel
theorem dX10_takesClause_147 : decode cX10_takesClause 147 = .ok (.iconst 0, 1) := by decide +kernel
theorem dX10_takesClause_148 : decode cX10_takesClause 148 = .ok (.goto 16, 3) := by decide +kernel
theorem dX10_takesClause_151 : decode cX10_takesClause 151 = .ok (.aload_n 0, 1) := by decide +kernel
theorem dX10_takesClause_152 : decode cX10_takesClause 152 = .ok (.getfield 163, 3) := by decide +kernel
theorem dX10_takesClause_155 : decode cX10_takesClause 155 = .ok (.iconst 4, 1) := by decide +kernel
theorem dX10_takesClause_156 : decode cX10_takesClause 156 = .ok (.if_icmp .ne 7, 3) := by decide +kernel
theorem dX10_takesClause_159 : decode cX10_takesClause 159 = .ok (.iconst 1, 1) := by decide +kernel
theorem dX10_takesClause_160 : decode cX10_takesClause 160 = .ok (.goto 4, 3) := by decide +kernel
theorem dX10_takesClause_163 : decode cX10_takesClause 163 = .ok (.iconst 0, 1) := by decide +kernel
theorem dX10_takesClause_164 : decode cX10_takesClause 164 = .ok (.istore_n 3, 1) := by decide +kernel
theorem dX10_takesClause_165 : decode cX10_takesClause 165 = .ok (.iload_n 3, 1) := by decide +kernel
theorem dX10_takesClause_166 : decode cX10_takesClause 166 = .ok (.ifCond .eq 13, 3) := by decide +kernel
theorem dX10_takesClause_169 : decode cX10_takesClause 169 = .ok (.aload_n 0, 1) := by decide +kernel
theorem dX10_takesClause_170 : decode cX10_takesClause 170 = .ok (.iconst 3, 1) := by decide +kernel
theorem dX10_takesClause_171 : decode cX10_takesClause 171 = .ok (.aload_n 0, 1) := by decide +kernel
theorem dX10_takesClause_172 : decode cX10_takesClause 172 = .ok (.getfield 121, 3) := by decide +kernel
theorem dX10_takesClause_175 : decode cX10_takesClause 175 = .ok (.invokevirtual 131, 3) := by decide +kernel
theorem dX10_takesClause_178 : decode cX10_takesClause 178 = .ok (.ireturn, 1) := by decide +kernel
theorem dX10_takesClause_179 : decode cX10_takesClause 179 = .ok (.aload_n 0, 1) := by decide +kernel
theorem dX10_takesClause_180 : decode cX10_takesClause 180 = .ok (.dup, 1) := by decide +kernel
theorem dX10_takesClause_181 : decode cX10_takesClause 181 = .ok (.getfield 114, 3) := by decide +kernel
theorem dX10_takesClause_184 : decode cX10_takesClause 184 = .ok (.iconst 1, 1) := by decide +kernel
theorem dX10_takesClause_185 : decode cX10_takesClause 185 = .ok (.iadd, 1) := by decide +kernel
theorem dX10_takesClause_186 : decode cX10_takesClause 186 = .ok (.putfield 114, 3) := by decide +kernel
theorem dX10_takesClause_189 : decode cX10_takesClause 189 = .ok (.aload_n 0, 1) := by decide +kernel
theorem dX10_takesClause_190 : decode cX10_takesClause 190 = .ok (.iload_n 1, 1) := by decide +kernel
theorem dX10_takesClause_191 : decode cX10_takesClause 191 = .ok (.invokevirtual 182, 3) := by decide +kernel
theorem dX10_takesClause_194 : decode cX10_takesClause 194 = .ok (.ifCond .eq 16, 3) := by decide +kernel
theorem dX10_takesClause_197 : decode cX10_takesClause 197 = .ok (.aload_n 0, 1) := by decide +kernel
theorem dX10_takesClause_198 : decode cX10_takesClause 198 = .ok (.bipush 59, 2) := by decide +kernel
theorem dX10_takesClause_200 : decode cX10_takesClause 200 = .ok (.invokevirtual 185, 3) := by decide +kernel
theorem dX10_takesClause_203 : decode cX10_takesClause 203 = .ok (.ifCond .eq 7, 3) := by decide +kernel
theorem dX10_takesClause_206 : decode cX10_takesClause 206 = .ok (.iconst 1, 1) := by decide +kernel
theorem dX10_takesClause_207 : decode cX10_takesClause 207 = .ok (.goto 4, 3) := by decide +kernel
theorem dX10_takesClause_210 : decode cX10_takesClause 210 = .ok (.iconst 0, 1) := by decide +kernel
theorem dX10_takesClause_211 : decode cX10_takesClause 211 = .ok (.ireturn, 1) := by decide +kernel
theorem dX10_hotel_0 : decode cX10_hotel 0 = .ok (.aload_n 0, 1) := by decide +kernel
theorem dX10_hotel_1 : decode cX10_hotel 1 = .ok (.iconst 0, 1) := by decide +kernel
theorem dX10_hotel_2 : decode cX10_hotel 2 = .ok (.putfield 114, 3) := by decide +kernel
theorem dX10_hotel_5 : decode cX10_hotel 5 = .ok (.aload_n 0, 1) := by decide +kernel
theorem dX10_hotel_6 : decode cX10_hotel 6 = .ok (.iconst 0, 1) := by decide +kernel
theorem dX10_hotel_7 : decode cX10_hotel 7 = .ok (.putfield 124, 3) := by decide +kernel
theorem dX10_hotel_10 : decode cX10_hotel 10 = .ok (.aload_n 0, 1) := by decide +kernel
theorem dX10_hotel_11 : decode cX10_hotel 11 = .ok (.iconst (-1), 1) := by decide +kernel
theorem dX10_hotel_12 : decode cX10_hotel 12 = .ok (.putfield 38, 3) := by decide +kernel
theorem dX10_hotel_15 : decode cX10_hotel 15 = .ok (.aload_n 0, 1) := by decide +kernel
theorem dX10_hotel_16 : decode cX10_hotel 16 = .ok (.iconst 0, 1) := by decide +kernel
theorem dX10_hotel_17 : decode cX10_hotel 17 = .ok (.putfield 145, 3) := by decide +kernel
theorem dX10_hotel_20 : decode cX10_hotel 20 = .ok (.aload_n 0, 1) := by decide +kernel
theorem dX10_hotel_21 : decode cX10_hotel 21 = .ok (.iconst 0, 1) := by decide +kernel
theorem dX10_hotel_22 : decode cX10_hotel 22 = .ok (.putfield 148, 3) := by decide +kernel
theorem dX10_hotel_25 : decode cX10_hotel 25 = .ok (.aload_n 0, 1) := by decide +kernel
theorem dX10_hotel_26 : decode cX10_hotel 26 = .ok (.iconst 0, 1) := by decide +kernel
theorem dX10_hotel_27 : decode cX10_hotel 27 = .ok (.putfield 154, 3) := by decide +kernel
theorem dX10_hotel_30 : decode cX10_hotel 30 = .ok (.aload_n 0, 1) := by decide +kernel
theorem dX10_hotel_31 : decode cX10_hotel 31 = .ok (.iconst 0, 1) := by decide +kernel
theorem dX10_hotel_32 : decode cX10_hotel 32 = .ok (.putfield 157, 3) := by decide +kernel
theorem dX10_hotel_35 : decode cX10_hotel 35 = .ok (.aload_n 0, 1) := by decide +kernel
theorem dX10_hotel_36 : decode cX10_hotel 36 = .ok (.iconst 0, 1) := by decide +kernel
theorem dX10_hotel_37 : decode cX10_hotel 37 = .ok (.putfield 160, 3) := by decide +kernel
theorem dX10_hotel_40 : decode cX10_hotel 40 = .ok (.aload_n 0, 1) := by decide +kernel
theorem dX10_hotel_41 : decode cX10_hotel 41 = .ok (.iconst 0, 1) := by decide +kernel
theorem dX10_hotel_42 : decode cX10_hotel 42 = .ok (.putfield 163, 3) := by decide +kernel
theorem dX10_hotel_45 : decode cX10_hotel 45 = .ok (.iconst 0, 1) := by decide +kernel
theorem dX10_hotel_46 : decode cX10_hotel 46 = .ok (.istore_n 1, 1) := by decide +kernel
theorem dX10_hotel_47 : decode cX10_hotel 47 = .ok (.iload_n 1, 1) := by decide +kernel
theorem dX10_hotel_48 : decode cX10_hotel 48 = .ok (.bipush 8, 2) := by decide +kernel
theorem dX10_hotel_50 : decode cX10_hotel 50 = .ok (.if_icmp .ge 16, 3) := by decide +kernel
theorem dX10_hotel_53 : decode cX10_hotel 53 = .ok (.aload_n 0, 1) := by decide +kernel
theorem dX10_hotel_54 : decode cX10_hotel 54 = .ok (.getfield 42, 3) := by decide +kernel
theorem dX10_hotel_57 : decode cX10_hotel 57 = .ok (.iload_n 1, 1) := by decide +kernel
theorem dX10_hotel_58 : decode cX10_hotel 58 = .ok (.iconst 0, 1) := by decide +kernel
theorem dX10_hotel_59 : decode cX10_hotel 59 = .ok (.iastore, 1) := by decide +kernel
theorem dX10_hotel_60 : decode cX10_hotel 60 = .ok (.iinc 1 1, 3) := by decide +kernel
theorem dX10_hotel_63 : decode cX10_hotel 63 = .ok (.goto (-16), 3) := by decide +kernel
theorem dX10_hotel_66 : decode cX10_hotel 66 = .ok (.iconst 1, 1) := by decide +kernel
theorem dX10_hotel_67 : decode cX10_hotel 67 = .ok (.istore_n 1, 1) := by decide +kernel
theorem dX10_hotel_68 : decode cX10_hotel 68 = .ok (.iload_n 1, 1) := by decide +kernel
theorem dX10_hotel_69 : decode cX10_hotel 69 = .ok (.ifCond .eq 19, 3) := by decide +kernel
theorem dX10_hotel_72 : decode cX10_hotel 72 = .ok (.aload_n 0, 1) := by decide +kernel
theorem dX10_hotel_73 : decode cX10_hotel 73 = .ok (.invokevirtual 127, 3) := by decide +kernel
theorem dX10_hotel_76 : decode cX10_hotel 76 = .ok (.iconst (-1), 1) := by decide +kernel
theorem dX10_hotel_77 : decode cX10_hotel 77 = .ok (.if_icmp .eq 11, 3) := by decide +kernel
theorem dX10_hotel_80 : decode cX10_hotel 80 = .ok (.aload_n 0, 1) := by decide +kernel
theorem dX10_hotel_81 : decode cX10_hotel 81 = .ok (.invokevirtual 188, 3) := by decide +kernel
theorem dX10_hotel_84 : decode cX10_hotel 84 = .ok (.istore_n 1, 1) := by decide +kernel
theorem dX10_hotel_85 : decode cX10_hotel 85 = .ok (.goto (-17), 3) := by decide +kernel
theorem dX10_hotel_88 : decode cX10_hotel 88 = .ok (.aload_n 0, 1) := by decide +kernel
theorem dX10_hotel_89 : decode cX10_hotel 89 = .ok (.iconst 0, 1) := by decide +kernel
theorem dX10_hotel_90 : decode cX10_hotel 90 = .ok (.putfield 110, 3) := by decide +kernel
theorem dX10_hotel_93 : decode cX10_hotel 93 = .ok (.iload_n 1, 1) := by decide +kernel
theorem dX10_hotel_94 : decode cX10_hotel 94 = .ok (.ifCond .ne 11, 3) := by decide +kernel
theorem dX10_hotel_97 : decode cX10_hotel 97 = .ok (.bipush (-10), 2) := by decide +kernel
theorem dX10_hotel_99 : decode cX10_hotel 99 = .ok (.aload_n 0, 1) := by decide +kernel
theorem dX10_hotel_100 : decode cX10_hotel 100 = .ok (.getfield 124, 3) := by decide +kernel
theorem dX10_hotel_103 : decode cX10_hotel 103 = .ok (.isub, 1) := by decide +kernel
theorem dX10_hotel_104 : decode cX10_hotel 104 = .ok (.ireturn, 1) := by decide +kernel
theorem dX10_hotel_105 : decode cX10_hotel 105 = .ok (.aload_n 0, 1) := by decide +kernel
theorem dX10_hotel_106 : decode cX10_hotel 106 = .ok (.getfield 7, 3) := by decide +kernel
theorem dX10_hotel_109 : decode cX10_hotel 109 = .ok (.bipush 58, 2) := by decide +kernel
theorem dX10_hotel_111 : decode cX10_hotel 111 = .ok (.iaload, 1) := by decide +kernel
theorem dX10_hotel_112 : decode cX10_hotel 112 = .ok (.istore_n 2, 1) := by decide +kernel
theorem dX10_hotel_113 : decode cX10_hotel 113 = .ok (.iconst 0, 1) := by decide +kernel
theorem dX10_hotel_114 : decode cX10_hotel 114 = .ok (.istore_n 3, 1) := by decide +kernel
theorem dX10_hotel_115 : decode cX10_hotel 115 = .ok (.iload_n 3, 1) := by decide +kernel
theorem dX10_hotel_116 : decode cX10_hotel 116 = .ok (.bipush 59, 2) := by decide +kernel
theorem dX10_hotel_118 : decode cX10_hotel 118 = .ok (.if_icmp .ge 16, 3) := by decide +kernel
theorem dX10_hotel_121 : decode cX10_hotel 121 = .ok (.aload_n 0, 1) := by decide +kernel
theorem dX10_hotel_122 : decode cX10_hotel 122 = .ok (.getfield 7, 3) := by decide +kernel
theorem dX10_hotel_125 : decode cX10_hotel 125 = .ok (.iload_n 3, 1) := by decide +kernel
theorem dX10_hotel_126 : decode cX10_hotel 126 = .ok (.iconst 0, 1) := by decide +kernel
theorem dX10_hotel_127 : decode cX10_hotel 127 = .ok (.iastore, 1) := by decide +kernel
theorem dX10_hotel_128 : decode cX10_hotel 128 = .ok (.iinc 3 1, 3) := by decide +kernel
theorem dX10_hotel_131 : decode cX10_hotel 131 = .ok (.goto (-16), 3) := by decide +kernel
theorem dX10_hotel_134 : decode cX10_hotel 134 = .ok (.aload_n 0, 1) := by decide +kernel
theorem dX10_hotel_135 : decode cX10_hotel 135 = .ok (.getfield 7, 3) := by decide +kernel
theorem dX10_hotel_138 : decode cX10_hotel 138 = .ok (.bipush 58, 2) := by decide +kernel
theorem dX10_hotel_140 : decode cX10_hotel 140 = .ok (.iload_n 2, 1) := by decide +kernel
theorem dX10_hotel_141 : decode cX10_hotel 141 = .ok (.iastore, 1) := by decide +kernel
theorem dX10_hotel_142 : decode cX10_hotel 142 = .ok (.aload_n 0, 1) := by decide +kernel
theorem dX10_hotel_143 : decode cX10_hotel 143 = .ok (.aload_n 0, 1) := by decide +kernel
theorem dX10_hotel_144 : decode cX10_hotel 144 = .ok (.getfield 145, 3) := by decide +kernel
theorem dX10_hotel_147 : decode cX10_hotel 147 = .ok (.putfield 90, 3) := by decide +kernel
theorem dX10_hotel_150 : decode cX10_hotel 150 = .ok (.aload_n 0, 1) := by decide +kernel
theorem dX10_hotel_151 : decode cX10_hotel 151 = .ok (.aload_n 0, 1) := by decide +kernel
theorem dX10_hotel_152 : decode cX10_hotel 152 = .ok (.getfield 148, 3) := by decide +kernel
theorem dX10_hotel_155 : decode cX10_hotel 155 = .ok (.putfield 191, 3) := by decide +kernel
theorem dX10_hotel_158 : decode cX10_hotel 158 = .ok (.aload_n 0, 1) := by decide +kernel
theorem dX10_hotel_159 : decode cX10_hotel 159 = .ok (.aload_n 0, 1) := by decide +kernel
theorem dX10_hotel_160 : decode cX10_hotel 160 = .ok (.getfield 154, 3) := by decide +kernel
theorem dX10_hotel_163 : decode cX10_hotel 163 = .ok (.putfield 194, 3) := by decide +kernel
theorem dX10_hotel_166 : decode cX10_hotel 166 = .ok (.aload_n 0, 1) := by decide +kernel
theorem dX10_hotel_167 : decode cX10_hotel 167 = .ok (.aload_n 0, 1) := by decide +kernel
theorem dX10_hotel_168 : decode cX10_hotel 168 = .ok (.getfield 157, 3) := by decide +kernel
theorem dX10_hotel_171 : decode cX10_hotel 171 = .ok (.putfield 97, 3) := by decide +kernel
theorem dX10_hotel_174 : decode cX10_hotel 174 = .ok (.aload_n 0, 1) := by decide +kernel
theorem dX10_hotel_175 : decode cX10_hotel 175 = .ok (.aload_n 0, 1) := by decide +kernel
theorem dX10_hotel_176 : decode cX10_hotel 176 = .ok (.getfield 160, 3) := by decide +kernel
theorem dX10_hotel_179 : decode cX10_hotel 179 = .ok (.putfield 104, 3) := by decide +kernel
theorem dX10_hotel_182 : decode cX10_hotel 182 = .ok (.aload_n 0, 1) := by decide +kernel
theorem dX10_hotel_183 : decode cX10_hotel 183 = .ok (.aload_n 0, 1) := by decide +kernel
theorem dX10_hotel_184 : decode cX10_hotel 184 = .ok (.getfield 163, 3) := by decide +kernel
theorem dX10_hotel_187 : decode cX10_hotel 187 = .ok (.putfield 197, 3) := by decide +kernel
theorem dX10_hotel_190 : decode cX10_hotel 190 = .ok (.iconst 0, 1) := by decide +kernel
theorem dX10_hotel_191 : decode cX10_hotel 191 = .ok (.istore_n 3, 1) := by decide +kernel
theorem dX10_hotel_192 : decode cX10_hotel 192 = .ok (.iload_n 3, 1) := by decide +kernel
theorem dX10_hotel_193 : decode cX10_hotel 193 = .ok (.bipush 8, 2) := by decide +kernel
theorem dX10_hotel_195 : decode cX10_hotel 195 = .ok (.if_icmp .ge 21, 3) := by decide +kernel
theorem dX10_hotel_198 : decode cX10_hotel 198 = .ok (.aload_n 0, 1) := by decide +kernel
theorem dX10_hotel_199 : decode cX10_hotel 199 = .ok (.getfield 17, 3) := by decide +kernel
theorem dX10_hotel_202 : decode cX10_hotel 202 = .ok (.iload_n 3, 1) := by decide +kernel
theorem dX10_hotel_203 : decode cX10_hotel 203 = .ok (.aload_n 0, 1) := by decide +kernel
theorem dX10_hotel_204 : decode cX10_hotel 204 = .ok (.getfield 42, 3) := by decide +kernel
theorem dX10_hotel_207 : decode cX10_hotel 207 = .ok (.iload_n 3, 1) := by decide +kernel
theorem dX10_hotel_208 : decode cX10_hotel 208 = .ok (.iaload, 1) := by decide +kernel
theorem dX10_hotel_209 : decode cX10_hotel 209 = .ok (.iastore, 1) := by decide +kernel
theorem dX10_hotel_210 : decode cX10_hotel 210 = .ok (.iinc 3 1, 3) := by decide +kernel
theorem dX10_hotel_213 : decode cX10_hotel 213 = .ok (.goto (-21), 3) := by decide +kernel
theorem dX10_hotel_216 : decode cX10_hotel 216 = .ok (.iconst 0, 1) := by decide +kernel
theorem dX10_hotel_217 : decode cX10_hotel 217 = .ok (.istore_n 3, 1) := by decide +kernel
theorem dX10_hotel_218 : decode cX10_hotel 218 = .ok (.iload_n 3, 1) := by decide +kernel
theorem dX10_hotel_219 : decode cX10_hotel 219 = .ok (.aload_n 0, 1) := by decide +kernel
theorem dX10_hotel_220 : decode cX10_hotel 220 = .ok (.getfield 97, 3) := by decide +kernel
theorem dX10_hotel_223 : decode cX10_hotel 223 = .ok (.if_icmp .ge 41, 3) := by decide +kernel
theorem dX10_hotel_226 : decode cX10_hotel 226 = .ok (.aload_n 0, 1) := by decide +kernel
theorem dX10_hotel_227 : decode cX10_hotel 227 = .ok (.getfield 7, 3) := by decide +kernel
theorem dX10_hotel_230 : decode cX10_hotel 230 = .ok (.iconst 2, 1) := by decide +kernel
theorem dX10_hotel_231 : decode cX10_hotel 231 = .ok (.iload_n 3, 1) := by decide +kernel
theorem dX10_hotel_232 : decode cX10_hotel 232 = .ok (.iadd, 1) := by decide +kernel
theorem dX10_hotel_233 : decode cX10_hotel 233 = .ok (.aload_n 0, 1) := by decide +kernel
theorem dX10_hotel_234 : decode cX10_hotel 234 = .ok (.getfield 45, 3) := by decide +kernel
theorem dX10_hotel_237 : decode cX10_hotel 237 = .ok (.iconst 2, 1) := by decide +kernel
theorem dX10_hotel_238 : decode cX10_hotel 238 = .ok (.iload_n 3, 1) := by decide +kernel
theorem dX10_hotel_239 : decode cX10_hotel 239 = .ok (.imul, 1) := by decide +kernel
theorem dX10_hotel_240 : decode cX10_hotel 240 = .ok (.iaload, 1) := by decide +kernel
theorem dX10_hotel_241 : decode cX10_hotel 241 = .ok (.iastore, 1) := by decide +kernel
theorem dX10_hotel_242 : decode cX10_hotel 242 = .ok (.aload_n 0, 1) := by decide +kernel
theorem dX10_hotel_243 : decode cX10_hotel 243 = .ok (.getfield 20, 3) := by decide +kernel
theorem dX10_hotel_246 : decode cX10_hotel 246 = .ok (.iload_n 3, 1) := by decide +kernel
theorem dX10_hotel_247 : decode cX10_hotel 247 = .ok (.aload_n 0, 1) := by decide +kernel
theorem dX10_hotel_248 : decode cX10_hotel 248 = .ok (.getfield 45, 3) := by decide +kernel
theorem dX10_hotel_251 : decode cX10_hotel 251 = .ok (.iconst 2, 1) := by decide +kernel
theorem dX10_hotel_252 : decode cX10_hotel 252 = .ok (.iload_n 3, 1) := by decide +kernel
theorem dX10_hotel_253 : decode cX10_hotel 253 = .ok (.imul, 1) := by decide +kernel
theorem dX10_hotel_254 : decode cX10_hotel 254 = .ok (.iconst 1, 1) := by decide +kernel
theorem dX10_hotel_255 : decode cX10_hotel 255 = .ok (.iadd, 1) := by decide +kernel
theorem dX10_hotel_256 : decode cX10_hotel 256 = .ok (.iaload, 1) := by decide +kernel
theorem dX10_hotel_257 : decode cX10_hotel 257 = .ok (.iastore, 1) := by decide +kernel
theorem dX10_hotel_258 : decode cX10_hotel 258 = .ok (.iinc 3 1, 3) := by decide +kernel
theorem dX10_hotel_261 : decode cX10_hotel 261 = .ok (.goto (-43), 3) := by decide +kernel
theorem dX10_hotel_264 : decode cX10_hotel 264 = .ok (.iconst 0, 1) := by decide +kernel
theorem dX10_hotel_265 : decode cX10_hotel 265 = .ok (.istore_n 3, 1) := by decide +kernel
theorem dX10_hotel_266 : decode cX10_hotel 266 = .ok (.iload_n 3, 1) := by decide +kernel
theorem dX10_hotel_267 : decode cX10_hotel 267 = .ok (.aload_n 0, 1) := by decide +kernel
theorem dX10_hotel_268 : decode cX10_hotel 268 = .ok (.getfield 104, 3) := by decide +kernel
theorem dX10_hotel_271 : decode cX10_hotel 271 = .ok (.if_icmp .ge 49, 3) := by decide +kernel
theorem dX10_hotel_274 : decode cX10_hotel 274 = .ok (.aload_n 0, 1) := by decide +kernel
theorem dX10_hotel_275 : decode cX10_hotel 275 = .ok (.getfield 23, 3) := by decide +kernel
theorem dX10_hotel_278 : decode cX10_hotel 278 = .ok (.iload_n 3, 1) := by decide +kernel
theorem dX10_hotel_279 : decode cX10_hotel 279 = .ok (.aload_n 0, 1) := by decide +kernel
theorem dX10_hotel_280 : decode cX10_hotel 280 = .ok (.getfield 48, 3) := by decide +kernel
theorem dX10_hotel_283 : decode cX10_hotel 283 = .ok (.iconst 2, 1) := by decide +kernel
theorem dX10_hotel_284 : decode cX10_hotel 284 = .ok (.iload_n 3, 1) := by decide +kernel
theorem dX10_hotel_285 : decode cX10_hotel 285 = .ok (.imul, 1) := by decide +kernel
theorem dX10_hotel_286 : decode cX10_hotel 286 = .ok (.iaload, 1) := by decide +kernel
theorem dX10_hotel_287 : decode cX10_hotel 287 = .ok (.iastore, 1) := by decide +kernel
theorem dX10_hotel_288 : decode cX10_hotel 288 = .ok (.aload_n 0, 1) := by decide +kernel
theorem dX10_hotel_289 : decode cX10_hotel 289 = .ok (.getfield 26, 3) := by decide +kernel
theorem dX10_hotel_292 : decode cX10_hotel 292 = .ok (.iload_n 3, 1) := by decide +kernel
theorem dX10_hotel_293 : decode cX10_hotel 293 = .ok (.aload_n 0, 1) := by decide +kernel
theorem dX10_hotel_294 : decode cX10_hotel 294 = .ok (.getfield 48, 3) := by decide +kernel
theorem dX10_hotel_297 : decode cX10_hotel 297 = .ok (.iconst 2, 1) := by decide +kernel
theorem dX10_hotel_298 : decode cX10_hotel 298 = .ok (.iload_n 3, 1) := by decide +kernel
theorem dX10_hotel_299 : decode cX10_hotel 299 = .ok (.imul, 1) := by decide +kernel
theorem dX10_hotel_300 : decode cX10_hotel 300 = .ok (.iconst 1, 1) := by decide +kernel
theorem dX10_hotel_301 : decode cX10_hotel 301 = .ok (.iadd, 1) := by decide +kernel
theorem dX10_hotel_302 : decode cX10_hotel 302 = .ok (.iaload, 1) := by decide +kernel
theorem dX10_hotel_303 : decode cX10_hotel 303 = .ok (.iastore, 1) := by decide +kernel
theorem dX10_hotel_304 : decode cX10_hotel 304 = .ok (.aload_n 0, 1) := by decide +kernel
theorem dX10_hotel_305 : decode cX10_hotel 305 = .ok (.getfield 7, 3) := by decide +kernel
theorem dX10_hotel_308 : decode cX10_hotel 308 = .ok (.bipush 50, 2) := by decide +kernel
theorem dX10_hotel_310 : decode cX10_hotel 310 = .ok (.iload_n 3, 1) := by decide +kernel
theorem dX10_hotel_311 : decode cX10_hotel 311 = .ok (.iadd, 1) := by decide +kernel
theorem dX10_hotel_312 : decode cX10_hotel 312 = .ok (.iconst (-1), 1) := by decide +kernel
theorem dX10_hotel_313 : decode cX10_hotel 313 = .ok (.iastore, 1) := by decide +kernel
theorem dX10_hotel_314 : decode cX10_hotel 314 = .ok (.iinc 3 1, 3) := by decide +kernel
theorem dX10_hotel_317 : decode cX10_hotel 317 = .ok (.goto (-51), 3) := by decide +kernel
theorem dX10_hotel_320 : decode cX10_hotel 320 = .ok (.iconst 0, 1) := by decide +kernel
theorem dX10_hotel_321 : decode cX10_hotel 321 = .ok (.istore_n 3, 1) := by decide +kernel
theorem dX10_hotel_322 : decode cX10_hotel 322 = .ok (.iload_n 3, 1) := by decide +kernel
theorem dX10_hotel_323 : decode cX10_hotel 323 = .ok (.aload_n 0, 1) := by decide +kernel
theorem dX10_hotel_324 : decode cX10_hotel 324 = .ok (.getfield 197, 3) := by decide +kernel
theorem dX10_hotel_327 : decode cX10_hotel 327 = .ok (.if_icmp .ge 39, 3) := by decide +kernel
theorem dX10_hotel_330 : decode cX10_hotel 330 = .ok (.aload_n 0, 1) := by decide +kernel
theorem dX10_hotel_331 : decode cX10_hotel 331 = .ok (.getfield 29, 3) := by decide +kernel
theorem dX10_hotel_334 : decode cX10_hotel 334 = .ok (.iload_n 3, 1) := by decide +kernel
theorem dX10_hotel_335 : decode cX10_hotel 335 = .ok (.aload_n 0, 1) := by decide +kernel
theorem dX10_hotel_336 : decode cX10_hotel 336 = .ok (.getfield 51, 3) := by decide +kernel
theorem dX10_hotel_339 : decode cX10_hotel 339 = .ok (.iconst 2, 1) := by decide +kernel
theorem dX10_hotel_340 : decode cX10_hotel 340 = .ok (.iload_n 3, 1) := by decide +kernel
theorem dX10_hotel_341 : decode cX10_hotel 341 = .ok (.imul, 1) := by decide +kernel
theorem dX10_hotel_342 : decode cX10_hotel 342 = .ok (.iaload, 1) := by decide +kernel
theorem dX10_hotel_343 : decode cX10_hotel 343 = .ok (.iastore, 1) := by decide +kernel
theorem dX10_hotel_344 : decode cX10_hotel 344 = .ok (.aload_n 0, 1) := by decide +kernel
theorem dX10_hotel_345 : decode cX10_hotel 345 = .ok (.getfield 32, 3) := by decide +kernel
theorem dX10_hotel_348 : decode cX10_hotel 348 = .ok (.iload_n 3, 1) := by decide +kernel
theorem dX10_hotel_349 : decode cX10_hotel 349 = .ok (.aload_n 0, 1) := by decide +kernel
theorem dX10_hotel_350 : decode cX10_hotel 350 = .ok (.getfield 51, 3) := by decide +kernel
theorem dX10_hotel_353 : decode cX10_hotel 353 = .ok (.iconst 2, 1) := by decide +kernel
theorem dX10_hotel_354 : decode cX10_hotel 354 = .ok (.iload_n 3, 1) := by decide +kernel
theorem dX10_hotel_355 : decode cX10_hotel 355 = .ok (.imul, 1) := by decide +kernel
theorem dX10_hotel_356 : decode cX10_hotel 356 = .ok (.iconst 1, 1) := by decide +kernel
theorem dX10_hotel_357 : decode cX10_hotel 357 = .ok (.iadd, 1) := by decide +kernel
theorem dX10_hotel_358 : decode cX10_hotel 358 = .ok (.iaload, 1) := by decide +kernel
theorem dX10_hotel_359 : decode cX10_hotel 359 = .ok (.iastore, 1) := by decide +kernel
theorem dX10_hotel_360 : decode cX10_hotel 360 = .ok (.iinc 3 1, 3) := by decide +kernel
theorem dX10_hotel_363 : decode cX10_hotel 363 = .ok (.goto (-41), 3) := by decide +kernel
theorem dX10_hotel_366 : decode cX10_hotel 366 = .ok (.aload_n 0, 1) := by decide +kernel
theorem dX10_hotel_367 : decode cX10_hotel 367 = .ok (.iconst 0, 1) := by decide +kernel
theorem dX10_hotel_368 : decode cX10_hotel 368 = .ok (.putfield 200, 3) := by decide +kernel
theorem dX10_hotel_371 : decode cX10_hotel 371 = .ok (.aload_n 0, 1) := by decide +kernel
theorem dX10_hotel_372 : decode cX10_hotel 372 = .ok (.iconst 0, 1) := by decide +kernel
theorem dX10_hotel_373 : decode cX10_hotel 373 = .ok (.putfield 203, 3) := by decide +kernel
theorem dX10_hotel_376 : decode cX10_hotel 376 = .ok (.aload_n 0, 1) := by decide +kernel
theorem dX10_hotel_377 : decode cX10_hotel 377 = .ok (.iconst 0, 1) := by decide +kernel
theorem dX10_hotel_378 : decode cX10_hotel 378 = .ok (.putfield 206, 3) := by decide +kernel
theorem dX10_hotel_381 : decode cX10_hotel 381 = .ok (.aload_n 0, 1) := by decide +kernel
theorem dX10_hotel_382 : decode cX10_hotel 382 = .ok (.getfield 13, 3) := by decide +kernel
theorem dX10_hotel_385 : decode cX10_hotel 385 = .ok (.iconst 0, 1) := by decide +kernel
theorem dX10_hotel_386 : decode cX10_hotel 386 = .ok (.iconst 0, 1) := by decide +kernel
theorem dX10_hotel_387 : decode cX10_hotel 387 = .ok (.bastore, 1) := by decide +kernel
theorem dX10_hotel_388 : decode cX10_hotel 388 = .ok (.aload_n 0, 1) := by decide +kernel
theorem dX10_hotel_389 : decode cX10_hotel 389 = .ok (.getfield 13, 3) := by decide +kernel
theorem dX10_hotel_392 : decode cX10_hotel 392 = .ok (.iconst 1, 1) := by decide +kernel
theorem dX10_hotel_393 : decode cX10_hotel 393 = .ok (.iconst 0, 1) := by decide +kernel
theorem dX10_hotel_394 : decode cX10_hotel 394 = .ok (.bastore, 1) := by decide +kernel
theorem dX10_hotel_395 : decode cX10_hotel 395 = .ok (.aload_n 0, 1) := by decide +kernel
theorem dX10_hotel_396 : decode cX10_hotel 396 = .ok (.getfield 97, 3) := by decide +kernel
theorem dX10_hotel_399 : decode cX10_hotel 399 = .ok (.ireturn, 1) := by decide +kernel
theorem dX10_fault_0 : decode cX10_fault 0 = .ok (.aload_n 0, 1) := by decide +kernel
theorem dX10_fault_1 : decode cX10_fault 1 = .ok (.getfield 38, 3) := by decide +kernel
theorem dX10_fault_4 : decode cX10_fault 4 = .ok (.ireturn, 1) := by decide +kernel
theorem dX10_thingsAt_0 : decode cX10_thingsAt 0 = .ok (.iconst 0, 1) := by decide +kernel
theorem dX10_thingsAt_1 : decode cX10_thingsAt 1 = .ok (.istore_n 3, 1) := by decide +kernel
theorem dX10_thingsAt_2 : decode cX10_thingsAt 2 = .ok (.iconst 0, 1) := by decide +kernel
theorem dX10_thingsAt_3 : decode cX10_thingsAt 3 = .ok (.istore 4, 2) := by decide +kernel
theorem dX10_thingsAt_5 : decode cX10_thingsAt 5 = .ok (.iload 4, 2) := by decide +kernel
theorem dX10_thingsAt_7 : decode cX10_thingsAt 7 = .ok (.aload_n 0, 1) := by decide +kernel
theorem dX10_thingsAt_8 : decode cX10_thingsAt 8 = .ok (.getfield 104, 3) := by decide +kernel
theorem dX10_thingsAt_11 : decode cX10_thingsAt 11 = .ok (.if_icmp .ge 36, 3) := by decide +kernel
theorem dX10_thingsAt_14 : decode cX10_thingsAt 14 = .ok (.iload_n 3, 1) := by decide +kernel
theorem dX10_thingsAt_15 : decode cX10_thingsAt 15 = .ok (.aload_n 0, 1) := by decide +kernel
theorem dX10_thingsAt_16 : decode cX10_thingsAt 16 = .ok (.getfield 7, 3) := by decide +kernel
theorem dX10_thingsAt_19 : decode cX10_thingsAt 19 = .ok (.iload_n 1, 1) := by decide +kernel
theorem dX10_thingsAt_20 : decode cX10_thingsAt 20 = .ok (.bipush 50, 2) := by decide +kernel
theorem dX10_thingsAt_22 : decode cX10_thingsAt 22 = .ok (.iadd, 1) := by decide +kernel
theorem dX10_thingsAt_23 : decode cX10_thingsAt 23 = .ok (.iload 4, 2) := by decide +kernel
theorem dX10_thingsAt_25 : decode cX10_thingsAt 25 = .ok (.iadd, 1) := by decide +kernel
theorem dX10_thingsAt_26 : decode cX10_thingsAt 26 = .ok (.iaload, 1) := by decide +kernel
theorem dX10_thingsAt_27 : decode cX10_thingsAt 27 = .ok (.iload_n 2, 1) := by decide +kernel
theorem dX10_thingsAt_28 : decode cX10_thingsAt 28 = .ok (.if_icmp .ne 10, 3) := by decide +kernel
theorem dX10_thingsAt_31 : decode cX10_thingsAt 31 = .ok (.iconst 1, 1) := by decide +kernel
theorem dX10_thingsAt_32 : decode cX10_thingsAt 32 = .ok (.iload 4, 2) := by decide +kernel
theorem dX10_thingsAt_34 : decode cX10_thingsAt 34 = .ok (.ishl, 1) := by decide +kernel
theorem dX10_thingsAt_35 : decode cX10_thingsAt 35 = .ok (.goto 4, 3) := by decide +kernel
theorem dX10_thingsAt_38 : decode cX10_thingsAt 38 = .ok (.iconst 0, 1) := by decide +kernel
theorem dX10_thingsAt_39 : decode cX10_thingsAt 39 = .ok (.ior, 1) := by decide +kernel
theorem dX10_thingsAt_40 : decode cX10_thingsAt 40 = .ok (.istore_n 3, 1) := by decide +kernel
theorem dX10_thingsAt_41 : decode cX10_thingsAt 41 = .ok (.iinc 4 1, 3) := by decide +kernel
theorem dX10_thingsAt_44 : decode cX10_thingsAt 44 = .ok (.goto (-39), 3) := by decide +kernel
theorem dX10_thingsAt_47 : decode cX10_thingsAt 47 = .ok (.iload_n 3, 1) := by decide +kernel
theorem dX10_thingsAt_48 : decode cX10_thingsAt 48 = .ok (.ireturn, 1) := by decide +kernel
theorem dX10_weightOf_0 : decode cX10_weightOf 0 = .ok (.iconst 0, 1) := by decide +kernel
theorem dX10_weightOf_1 : decode cX10_weightOf 1 = .ok (.istore_n 2, 1) := by decide +kernel
theorem dX10_weightOf_2 : decode cX10_weightOf 2 = .ok (.iconst 0, 1) := by decide +kernel
theorem dX10_weightOf_3 : decode cX10_weightOf 3 = .ok (.istore_n 3, 1) := by decide +kernel
theorem dX10_weightOf_4 : decode cX10_weightOf 4 = .ok (.iload_n 3, 1) := by decide +kernel
theorem dX10_weightOf_5 : decode cX10_weightOf 5 = .ok (.aload_n 0, 1) := by decide +kernel
theorem dX10_weightOf_6 : decode cX10_weightOf 6 = .ok (.getfield 104, 3) := by decide +kernel
theorem dX10_weightOf_9 : decode cX10_weightOf 9 = .ok (.if_icmp .ge 30, 3) := by decide +kernel
theorem dX10_weightOf_12 : decode cX10_weightOf 12 = .ok (.iload_n 2, 1) := by decide +kernel
theorem dX10_weightOf_13 : decode cX10_weightOf 13 = .ok (.iload_n 1, 1) := by decide +kernel
theorem dX10_weightOf_14 : decode cX10_weightOf 14 = .ok (.iload_n 3, 1) := by decide +kernel
theorem dX10_weightOf_15 : decode cX10_weightOf 15 = .ok (.invokestatic 151, 3) := by decide +kernel
theorem dX10_weightOf_18 : decode cX10_weightOf 18 = .ok (.ifCond .eq 12, 3) := by decide +kernel
theorem dX10_weightOf_21 : decode cX10_weightOf 21 = .ok (.aload_n 0, 1) := by decide +kernel
theorem dX10_weightOf_22 : decode cX10_weightOf 22 = .ok (.getfield 23, 3) := by decide +kernel
theorem dX10_weightOf_25 : decode cX10_weightOf 25 = .ok (.iload_n 3, 1) := by decide +kernel
theorem dX10_weightOf_26 : decode cX10_weightOf 26 = .ok (.iaload, 1) := by decide +kernel
theorem dX10_weightOf_27 : decode cX10_weightOf 27 = .ok (.goto 4, 3) := by decide +kernel
theorem dX10_weightOf_30 : decode cX10_weightOf 30 = .ok (.iconst 0, 1) := by decide +kernel
theorem dX10_weightOf_31 : decode cX10_weightOf 31 = .ok (.iadd, 1) := by decide +kernel
theorem dX10_weightOf_32 : decode cX10_weightOf 32 = .ok (.istore_n 2, 1) := by decide +kernel
theorem dX10_weightOf_33 : decode cX10_weightOf 33 = .ok (.iinc 3 1, 3) := by decide +kernel
theorem dX10_weightOf_36 : decode cX10_weightOf 36 = .ok (.goto (-32), 3) := by decide +kernel
theorem dX10_weightOf_39 : decode cX10_weightOf 39 = .ok (.iload_n 2, 1) := by decide +kernel
theorem dX10_weightOf_40 : decode cX10_weightOf 40 = .ok (.ireturn, 1) := by decide +kernel
theorem dX10_worthOf_0 : decode cX10_worthOf 0 = .ok (.iconst 0, 1) := by decide +kernel
theorem dX10_worthOf_1 : decode cX10_worthOf 1 = .ok (.istore_n 2, 1) := by decide +kernel
theorem dX10_worthOf_2 : decode cX10_worthOf 2 = .ok (.iconst 0, 1) := by decide +kernel
theorem dX10_worthOf_3 : decode cX10_worthOf 3 = .ok (.istore_n 3, 1) := by decide +kernel
theorem dX10_worthOf_4 : decode cX10_worthOf 4 = .ok (.iload_n 3, 1) := by decide +kernel
theorem dX10_worthOf_5 : decode cX10_worthOf 5 = .ok (.aload_n 0, 1) := by decide +kernel
theorem dX10_worthOf_6 : decode cX10_worthOf 6 = .ok (.getfield 104, 3) := by decide +kernel
theorem dX10_worthOf_9 : decode cX10_worthOf 9 = .ok (.if_icmp .ge 30, 3) := by decide +kernel
theorem dX10_worthOf_12 : decode cX10_worthOf 12 = .ok (.iload_n 2, 1) := by decide +kernel
theorem dX10_worthOf_13 : decode cX10_worthOf 13 = .ok (.iload_n 1, 1) := by decide +kernel
theorem dX10_worthOf_14 : decode cX10_worthOf 14 = .ok (.iload_n 3, 1) := by decide +kernel
theorem dX10_worthOf_15 : decode cX10_worthOf 15 = .ok (.invokestatic 151, 3) := by decide +kernel
theorem dX10_worthOf_18 : decode cX10_worthOf 18 = .ok (.ifCond .eq 12, 3) := by decide +kernel
theorem dX10_worthOf_21 : decode cX10_worthOf 21 = .ok (.aload_n 0, 1) := by decide +kernel
theorem dX10_worthOf_22 : decode cX10_worthOf 22 = .ok (.getfield 26, 3) := by decide +kernel
theorem dX10_worthOf_25 : decode cX10_worthOf 25 = .ok (.iload_n 3, 1) := by decide +kernel
theorem dX10_worthOf_26 : decode cX10_worthOf 26 = .ok (.iaload, 1) := by decide +kernel
theorem dX10_worthOf_27 : decode cX10_worthOf 27 = .ok (.goto 4, 3) := by decide +kernel
theorem dX10_worthOf_30 : decode cX10_worthOf 30 = .ok (.iconst 0, 1) := by decide +kernel
theorem dX10_worthOf_31 : decode cX10_worthOf 31 = .ok (.iadd, 1) := by decide +kernel
theorem dX10_worthOf_32 : decode cX10_worthOf 32 = .ok (.istore_n 2, 1) := by decide +kernel
theorem dX10_worthOf_33 : decode cX10_worthOf 33 = .ok (.iinc 3 1, 3) := by decide +kernel
theorem dX10_worthOf_36 : decode cX10_worthOf 36 = .ok (.goto (-32), 3) := by decide +kernel
theorem dX10_worthOf_39 : decode cX10_worthOf 39 = .ok (.iload_n 2, 1) := by decide +kernel
theorem dX10_worthOf_40 : decode cX10_worthOf 40 = .ok (.ireturn, 1) := by decide +kernel
theorem dX10_told_0 : decode cX10_told 0 = .ok (.iload_n 1, 1) := by decide +kernel
theorem dX10_told_1 : decode cX10_told 1 = .ok (.tableswitch 157 0 13 #[71, 76, 81, 86, 91, 96, 101, 108, 115, 123, 130, 142, 147, 152], 71) := by decide +kernel
theorem dX10_told_72 : decode cX10_told 72 = .ok (.aload_n 0, 1) := by decide +kernel
theorem dX10_told_73 : decode cX10_told 73 = .ok (.getfield 90, 3) := by decide +kernel
theorem dX10_told_76 : decode cX10_told 76 = .ok (.ireturn, 1) := by decide +kernel
theorem dX10_told_77 : decode cX10_told 77 = .ok (.aload_n 0, 1) := by decide +kernel
theorem dX10_told_78 : decode cX10_told 78 = .ok (.getfield 194, 3) := by decide +kernel
theorem dX10_told_81 : decode cX10_told 81 = .ok (.ireturn, 1) := by decide +kernel
theorem dX10_told_82 : decode cX10_told 82 = .ok (.aload_n 0, 1) := by decide +kernel
theorem dX10_told_83 : decode cX10_told 83 = .ok (.getfield 97, 3) := by decide +kernel
theorem dX10_told_86 : decode cX10_told 86 = .ok (.ireturn, 1) := by decide +kernel
theorem dX10_told_87 : decode cX10_told 87 = .ok (.aload_n 0, 1) := by decide +kernel
theorem dX10_told_88 : decode cX10_told 88 = .ok (.getfield 104, 3) := by decide +kernel
theorem dX10_told_91 : decode cX10_told 91 = .ok (.ireturn, 1) := by decide +kernel
theorem dX10_told_92 : decode cX10_told 92 = .ok (.aload_n 0, 1) := by decide +kernel
theorem dX10_told_93 : decode cX10_told 93 = .ok (.getfield 197, 3) := by decide +kernel
theorem dX10_told_96 : decode cX10_told 96 = .ok (.ireturn, 1) := by decide +kernel
theorem dX10_told_97 : decode cX10_told 97 = .ok (.aload_n 0, 1) := by decide +kernel
theorem dX10_told_98 : decode cX10_told 98 = .ok (.getfield 110, 3) := by decide +kernel
theorem dX10_told_101 : decode cX10_told 101 = .ok (.ireturn, 1) := by decide +kernel
theorem dX10_told_102 : decode cX10_told 102 = .ok (.aload_n 0, 1) := by decide +kernel
theorem dX10_told_103 : decode cX10_told 103 = .ok (.getfield 7, 3) := by decide +kernel
theorem dX10_told_106 : decode cX10_told 106 = .ok (.iconst 0, 1) := by decide +kernel
theorem dX10_told_107 : decode cX10_told 107 = .ok (.iaload, 1) := by decide +kernel
theorem dX10_told_108 : decode cX10_told 108 = .ok (.ireturn, 1) := by decide +kernel
theorem dX10_told_109 : decode cX10_told 109 = .ok (.aload_n 0, 1) := by decide +kernel
theorem dX10_told_110 : decode cX10_told 110 = .ok (.getfield 7, 3) := by decide +kernel
theorem dX10_told_113 : decode cX10_told 113 = .ok (.iconst 1, 1) := by decide +kernel
theorem dX10_told_114 : decode cX10_told 114 = .ok (.iaload, 1) := by decide +kernel
theorem dX10_told_115 : decode cX10_told 115 = .ok (.ireturn, 1) := by decide +kernel
theorem dX10_told_116 : decode cX10_told 116 = .ok (.aload_n 0, 1) := by decide +kernel
theorem dX10_told_117 : decode cX10_told 117 = .ok (.iconst 0, 1) := by decide +kernel
theorem dX10_told_118 : decode cX10_told 118 = .ok (.bipush (-2), 2) := by decide +kernel
theorem dX10_told_120 : decode cX10_told 120 = .ok (.invokevirtual 209, 3) := by decide +kernel
theorem dX10_told_123 : decode cX10_told 123 = .ok (.ireturn, 1) := by decide +kernel
theorem dX10_told_124 : decode cX10_told 124 = .ok (.aload_n 0, 1) := by decide +kernel
theorem dX10_told_125 : decode cX10_told 125 = .ok (.iconst 0, 1) := by decide +kernel
theorem dX10_told_126 : decode cX10_told 126 = .ok (.iconst (-1), 1) := by decide +kernel
theorem dX10_told_127 : decode cX10_told 127 = .ok (.invokevirtual 209, 3) := by decide +kernel
theorem dX10_told_130 : decode cX10_told 130 = .ok (.ireturn, 1) := by decide +kernel
theorem dX10_told_131 : decode cX10_told 131 = .ok (.aload_n 0, 1) := by decide +kernel
theorem dX10_told_132 : decode cX10_told 132 = .ok (.aload_n 0, 1) := by decide +kernel
theorem dX10_told_133 : decode cX10_told 133 = .ok (.iconst 0, 1) := by decide +kernel
theorem dX10_told_134 : decode cX10_told 134 = .ok (.bipush (-2), 2) := by decide +kernel
theorem dX10_told_136 : decode cX10_told 136 = .ok (.invokevirtual 209, 3) := by decide +kernel
theorem dX10_told_139 : decode cX10_told 139 = .ok (.invokevirtual 213, 3) := by decide +kernel
theorem dX10_told_142 : decode cX10_told 142 = .ok (.ireturn, 1) := by decide +kernel
theorem dX10_told_143 : decode cX10_told 143 = .ok (.aload_n 0, 1) := by decide +kernel
theorem dX10_told_144 : decode cX10_told 144 = .ok (.getfield 200, 3) := by decide +kernel
theorem dX10_told_147 : decode cX10_told 147 = .ok (.ireturn, 1) := by decide +kernel
theorem dX10_told_148 : decode cX10_told 148 = .ok (.aload_n 0, 1) := by decide +kernel
theorem dX10_told_149 : decode cX10_told 149 = .ok (.getfield 203, 3) := by decide +kernel
theorem dX10_told_152 : decode cX10_told 152 = .ok (.ireturn, 1) := by decide +kernel
theorem dX10_told_153 : decode cX10_told 153 = .ok (.aload_n 0, 1) := by decide +kernel
theorem dX10_told_154 : decode cX10_told 154 = .ok (.getfield 206, 3) := by decide +kernel
theorem dX10_told_157 : decode cX10_told 157 = .ok (.ireturn, 1) := by decide +kernel
theorem dX10_told_158 : decode cX10_told 158 = .ok (.ldc 109, 2) := by decide +kernel
theorem dX10_told_160 : decode cX10_told 160 = .ok (.ireturn, 1) := by decide +kernel
theorem dX10_room_0 : decode cX10_room 0 = .ok (.aload_n 0, 1) := by decide +kernel
theorem dX10_room_1 : decode cX10_room 1 = .ok (.iload_n 1, 1) := by decide +kernel
theorem dX10_room_2 : decode cX10_room 2 = .ok (.invokevirtual 216, 3) := by decide +kernel
theorem dX10_room_5 : decode cX10_room 5 = .ok (.ifCond .eq 12, 3) := by decide +kernel
theorem dX10_room_8 : decode cX10_room 8 = .ok (.aload_n 0, 1) := by decide +kernel
theorem dX10_room_9 : decode cX10_room 9 = .ok (.getfield 17, 3) := by decide +kernel
theorem dX10_room_12 : decode cX10_room 12 = .ok (.iload_n 1, 1) := by decide +kernel
theorem dX10_room_13 : decode cX10_room 13 = .ok (.iaload, 1) := by decide +kernel
theorem dX10_room_14 : decode cX10_room 14 = .ok (.goto 5, 3) := by decide +kernel
theorem dX10_room_17 : decode cX10_room 17 = .ok (.ldc 219, 2) := by decide +kernel
theorem dX10_room_19 : decode cX10_room 19 = .ok (.ireturn, 1) := by decide +kernel
theorem dX10_onTray_0 : decode cX10_onTray 0 = .ok (.aload_n 0, 1) := by decide +kernel
theorem dX10_onTray_1 : decode cX10_onTray 1 = .ok (.iload_n 1, 1) := by decide +kernel
theorem dX10_onTray_2 : decode cX10_onTray 2 = .ok (.iconst 2, 1) := by decide +kernel
theorem dX10_onTray_3 : decode cX10_onTray 3 = .ok (.iload_n 2, 1) := by decide +kernel
theorem dX10_onTray_4 : decode cX10_onTray 4 = .ok (.imul, 1) := by decide +kernel
theorem dX10_onTray_5 : decode cX10_onTray 5 = .ok (.invokevirtual 209, 3) := by decide +kernel
theorem dX10_onTray_8 : decode cX10_onTray 8 = .ok (.aload_n 0, 1) := by decide +kernel
theorem dX10_onTray_9 : decode cX10_onTray 9 = .ok (.iload_n 1, 1) := by decide +kernel
theorem dX10_onTray_10 : decode cX10_onTray 10 = .ok (.iconst 2, 1) := by decide +kernel
theorem dX10_onTray_11 : decode cX10_onTray 11 = .ok (.iload_n 2, 1) := by decide +kernel
theorem dX10_onTray_12 : decode cX10_onTray 12 = .ok (.imul, 1) := by decide +kernel
theorem dX10_onTray_13 : decode cX10_onTray 13 = .ok (.iconst 1, 1) := by decide +kernel
theorem dX10_onTray_14 : decode cX10_onTray 14 = .ok (.iadd, 1) := by decide +kernel
theorem dX10_onTray_15 : decode cX10_onTray 15 = .ok (.invokevirtual 209, 3) := by decide +kernel
theorem dX10_onTray_18 : decode cX10_onTray 18 = .ok (.ior, 1) := by decide +kernel
theorem dX10_onTray_19 : decode cX10_onTray 19 = .ok (.ireturn, 1) := by decide +kernel
theorem dX10_differs_0 : decode cX10_differs 0 = .ok (.aload_n 0, 1) := by decide +kernel
theorem dX10_differs_1 : decode cX10_differs 1 = .ok (.aload_n 0, 1) := by decide +kernel
theorem dX10_differs_2 : decode cX10_differs 2 = .ok (.iload_n 1, 1) := by decide +kernel
theorem dX10_differs_3 : decode cX10_differs 3 = .ok (.iconst 2, 1) := by decide +kernel
theorem dX10_differs_4 : decode cX10_differs 4 = .ok (.iload_n 2, 1) := by decide +kernel
theorem dX10_differs_5 : decode cX10_differs 5 = .ok (.imul, 1) := by decide +kernel
theorem dX10_differs_6 : decode cX10_differs 6 = .ok (.invokevirtual 209, 3) := by decide +kernel
theorem dX10_differs_9 : decode cX10_differs 9 = .ok (.invokevirtual 220, 3) := by decide +kernel
theorem dX10_differs_12 : decode cX10_differs 12 = .ok (.aload_n 0, 1) := by decide +kernel
theorem dX10_differs_13 : decode cX10_differs 13 = .ok (.aload_n 0, 1) := by decide +kernel
theorem dX10_differs_14 : decode cX10_differs 14 = .ok (.iload_n 1, 1) := by decide +kernel
theorem dX10_differs_15 : decode cX10_differs 15 = .ok (.iconst 2, 1) := by decide +kernel
theorem dX10_differs_16 : decode cX10_differs 16 = .ok (.iload_n 2, 1) := by decide +kernel
theorem dX10_differs_17 : decode cX10_differs 17 = .ok (.imul, 1) := by decide +kernel
theorem dX10_differs_18 : decode cX10_differs 18 = .ok (.iconst 1, 1) := by decide +kernel
theorem dX10_differs_19 : decode cX10_differs 19 = .ok (.iadd, 1) := by decide +kernel
theorem dX10_differs_20 : decode cX10_differs 20 = .ok (.invokevirtual 209, 3) := by decide +kernel
theorem dX10_differs_23 : decode cX10_differs 23 = .ok (.invokevirtual 220, 3) := by decide +kernel
theorem dX10_differs_26 : decode cX10_differs 26 = .ok (.isub, 1) := by decide +kernel
theorem dX10_differs_27 : decode cX10_differs 27 = .ok (.istore_n 3, 1) := by decide +kernel
theorem dX10_differs_28 : decode cX10_differs 28 = .ok (.iload_n 3, 1) := by decide +kernel
theorem dX10_differs_29 : decode cX10_differs 29 = .ok (.ifCond .ge 8, 3) := by decide +kernel
theorem dX10_differs_32 : decode cX10_differs 32 = .ok (.iload_n 3, 1) := by decide +kernel
theorem dX10_differs_33 : decode cX10_differs 33 = .ok (.ineg, 1) := by decide +kernel
theorem dX10_differs_34 : decode cX10_differs 34 = .ok (.goto 4, 3) := by decide +kernel
theorem dX10_differs_37 : decode cX10_differs 37 = .ok (.iload_n 3, 1) := by decide +kernel
theorem dX10_differs_38 : decode cX10_differs 38 = .ok (.ireturn, 1) := by decide +kernel
theorem dX10_waiter_0 : decode cX10_waiter 0 = .ok (.aload_n 0, 1) := by decide +kernel
theorem dX10_waiter_1 : decode cX10_waiter 1 = .ok (.iload_n 1, 1) := by decide +kernel
theorem dX10_waiter_2 : decode cX10_waiter 2 = .ok (.invokevirtual 100, 3) := by decide +kernel
theorem dX10_waiter_5 : decode cX10_waiter 5 = .ok (.ifCond .ne 6, 3) := by decide +kernel
theorem dX10_waiter_8 : decode cX10_waiter 8 = .ok (.ldc 219, 2) := by decide +kernel
theorem dX10_waiter_10 : decode cX10_waiter 10 = .ok (.ireturn, 1) := by decide +kernel
theorem dX10_waiter_11 : decode cX10_waiter 11 = .ok (.iload_n 2, 1) := by decide +kernel
theorem dX10_waiter_12 : decode cX10_waiter 12 = .ok (.tableswitch 122 0 7 #[48, 57, 64, 73, 84, 95, 102, 112], 48) := by decide +kernel
theorem dX10_waiter_60 : decode cX10_waiter 60 = .ok (.aload_n 0, 1) := by decide +kernel
theorem dX10_waiter_61 : decode cX10_waiter 61 = .ok (.getfield 7, 3) := by decide +kernel
theorem dX10_waiter_64 : decode cX10_waiter 64 = .ok (.iconst 2, 1) := by decide +kernel
theorem dX10_waiter_65 : decode cX10_waiter 65 = .ok (.iload_n 1, 1) := by decide +kernel
theorem dX10_waiter_66 : decode cX10_waiter 66 = .ok (.iadd, 1) := by decide +kernel
theorem dX10_waiter_67 : decode cX10_waiter 67 = .ok (.iaload, 1) := by decide +kernel
theorem dX10_waiter_68 : decode cX10_waiter 68 = .ok (.ireturn, 1) := by decide +kernel
theorem dX10_waiter_69 : decode cX10_waiter 69 = .ok (.aload_n 0, 1) := by decide +kernel
theorem dX10_waiter_70 : decode cX10_waiter 70 = .ok (.getfield 20, 3) := by decide +kernel
theorem dX10_waiter_73 : decode cX10_waiter 73 = .ok (.iload_n 1, 1) := by decide +kernel
theorem dX10_waiter_74 : decode cX10_waiter 74 = .ok (.iaload, 1) := by decide +kernel
theorem dX10_waiter_75 : decode cX10_waiter 75 = .ok (.ireturn, 1) := by decide +kernel
theorem dX10_waiter_76 : decode cX10_waiter 76 = .ok (.aload_n 0, 1) := by decide +kernel
theorem dX10_waiter_77 : decode cX10_waiter 77 = .ok (.iconst 0, 1) := by decide +kernel
theorem dX10_waiter_78 : decode cX10_waiter 78 = .ok (.iconst 2, 1) := by decide +kernel
theorem dX10_waiter_79 : decode cX10_waiter 79 = .ok (.iload_n 1, 1) := by decide +kernel
theorem dX10_waiter_80 : decode cX10_waiter 80 = .ok (.imul, 1) := by decide +kernel
theorem dX10_waiter_81 : decode cX10_waiter 81 = .ok (.invokevirtual 209, 3) := by decide +kernel
theorem dX10_waiter_84 : decode cX10_waiter 84 = .ok (.ireturn, 1) := by decide +kernel
theorem dX10_waiter_85 : decode cX10_waiter 85 = .ok (.aload_n 0, 1) := by decide +kernel
theorem dX10_waiter_86 : decode cX10_waiter 86 = .ok (.iconst 0, 1) := by decide +kernel
theorem dX10_waiter_87 : decode cX10_waiter 87 = .ok (.iconst 2, 1) := by decide +kernel
theorem dX10_waiter_88 : decode cX10_waiter 88 = .ok (.iload_n 1, 1) := by decide +kernel
theorem dX10_waiter_89 : decode cX10_waiter 89 = .ok (.imul, 1) := by decide +kernel
theorem dX10_waiter_90 : decode cX10_waiter 90 = .ok (.iconst 1, 1) := by decide +kernel
theorem dX10_waiter_91 : decode cX10_waiter 91 = .ok (.iadd, 1) := by decide +kernel
theorem dX10_waiter_92 : decode cX10_waiter 92 = .ok (.invokevirtual 209, 3) := by decide +kernel
theorem dX10_waiter_95 : decode cX10_waiter 95 = .ok (.ireturn, 1) := by decide +kernel
theorem dX10_waiter_96 : decode cX10_waiter 96 = .ok (.aload_n 0, 1) := by decide +kernel
theorem dX10_waiter_97 : decode cX10_waiter 97 = .ok (.aload_n 0, 1) := by decide +kernel
theorem dX10_waiter_98 : decode cX10_waiter 98 = .ok (.iconst 0, 1) := by decide +kernel
theorem dX10_waiter_99 : decode cX10_waiter 99 = .ok (.iload_n 1, 1) := by decide +kernel
theorem dX10_waiter_100 : decode cX10_waiter 100 = .ok (.invokevirtual 223, 3) := by decide +kernel
theorem dX10_waiter_103 : decode cX10_waiter 103 = .ok (.invokevirtual 220, 3) := by decide +kernel
theorem dX10_waiter_106 : decode cX10_waiter 106 = .ok (.ireturn, 1) := by decide +kernel
theorem dX10_waiter_107 : decode cX10_waiter 107 = .ok (.aload_n 0, 1) := by decide +kernel
theorem dX10_waiter_108 : decode cX10_waiter 108 = .ok (.iconst 0, 1) := by decide +kernel
theorem dX10_waiter_109 : decode cX10_waiter 109 = .ok (.iload_n 1, 1) := by decide +kernel
theorem dX10_waiter_110 : decode cX10_waiter 110 = .ok (.invokevirtual 226, 3) := by decide +kernel
theorem dX10_waiter_113 : decode cX10_waiter 113 = .ok (.ireturn, 1) := by decide +kernel
theorem dX10_waiter_114 : decode cX10_waiter 114 = .ok (.aload_n 0, 1) := by decide +kernel
theorem dX10_waiter_115 : decode cX10_waiter 115 = .ok (.getfield 7, 3) := by decide +kernel
theorem dX10_waiter_118 : decode cX10_waiter 118 = .ok (.bipush 6, 2) := by decide +kernel
theorem dX10_waiter_120 : decode cX10_waiter 120 = .ok (.iload_n 1, 1) := by decide +kernel
theorem dX10_waiter_121 : decode cX10_waiter 121 = .ok (.iadd, 1) := by decide +kernel
theorem dX10_waiter_122 : decode cX10_waiter 122 = .ok (.iaload, 1) := by decide +kernel
theorem dX10_waiter_123 : decode cX10_waiter 123 = .ok (.ireturn, 1) := by decide +kernel
theorem dX10_waiter_124 : decode cX10_waiter 124 = .ok (.aload_n 0, 1) := by decide +kernel
theorem dX10_waiter_125 : decode cX10_waiter 125 = .ok (.getfield 7, 3) := by decide +kernel
theorem dX10_waiter_128 : decode cX10_waiter 128 = .ok (.bipush 46, 2) := by decide +kernel
theorem dX10_waiter_130 : decode cX10_waiter 130 = .ok (.iload_n 1, 1) := by decide +kernel
theorem dX10_waiter_131 : decode cX10_waiter 131 = .ok (.iadd, 1) := by decide +kernel
theorem dX10_waiter_132 : decode cX10_waiter 132 = .ok (.iaload, 1) := by decide +kernel
theorem dX10_waiter_133 : decode cX10_waiter 133 = .ok (.ireturn, 1) := by decide +kernel
theorem dX10_waiter_134 : decode cX10_waiter 134 = .ok (.ldc 109, 2) := by decide +kernel
theorem dX10_waiter_136 : decode cX10_waiter 136 = .ok (.ireturn, 1) := by decide +kernel
theorem dX10_whose_0 : decode cX10_whose 0 = .ok (.aload_n 0, 1) := by decide +kernel
theorem dX10_whose_1 : decode cX10_whose 1 = .ok (.getfield 7, 3) := by decide +kernel
theorem dX10_whose_4 : decode cX10_whose 4 = .ok (.bipush 50, 2) := by decide +kernel
theorem dX10_whose_6 : decode cX10_whose 6 = .ok (.iload_n 1, 1) := by decide +kernel
theorem dX10_whose_7 : decode cX10_whose 7 = .ok (.iadd, 1) := by decide +kernel
theorem dX10_whose_8 : decode cX10_whose 8 = .ok (.iaload, 1) := by decide +kernel
theorem dX10_whose_9 : decode cX10_whose 9 = .ok (.ifCond .ge 7, 3) := by decide +kernel
theorem dX10_whose_12 : decode cX10_whose 12 = .ok (.iconst (-1), 1) := by decide +kernel
theorem dX10_whose_13 : decode cX10_whose 13 = .ok (.goto 14, 3) := by decide +kernel
theorem dX10_whose_16 : decode cX10_whose 16 = .ok (.aload_n 0, 1) := by decide +kernel
theorem dX10_whose_17 : decode cX10_whose 17 = .ok (.getfield 7, 3) := by decide +kernel
theorem dX10_whose_20 : decode cX10_whose 20 = .ok (.bipush 50, 2) := by decide +kernel
theorem dX10_whose_22 : decode cX10_whose 22 = .ok (.iload_n 1, 1) := by decide +kernel
theorem dX10_whose_23 : decode cX10_whose 23 = .ok (.iadd, 1) := by decide +kernel
theorem dX10_whose_24 : decode cX10_whose 24 = .ok (.iaload, 1) := by decide +kernel
theorem dX10_whose_25 : decode cX10_whose 25 = .ok (.iconst 2, 1) := by decide +kernel
theorem dX10_whose_26 : decode cX10_whose 26 = .ok (.idiv, 1) := by decide +kernel
theorem dX10_whose_27 : decode cX10_whose 27 = .ok (.ireturn, 1) := by decide +kernel
theorem dX10_thing_0 : decode cX10_thing 0 = .ok (.aload_n 0, 1) := by decide +kernel
theorem dX10_thing_1 : decode cX10_thing 1 = .ok (.iload_n 1, 1) := by decide +kernel
theorem dX10_thing_2 : decode cX10_thing 2 = .ok (.invokevirtual 229, 3) := by decide +kernel
theorem dX10_thing_5 : decode cX10_thing 5 = .ok (.ifCond .ne 6, 3) := by decide +kernel
theorem dX10_thing_8 : decode cX10_thing 8 = .ok (.ldc 219, 2) := by decide +kernel
theorem dX10_thing_10 : decode cX10_thing 10 = .ok (.ireturn, 1) := by decide +kernel
theorem dX10_thing_11 : decode cX10_thing 11 = .ok (.iload_n 2, 1) := by decide +kernel
theorem dX10_thing_12 : decode cX10_thing 12 = .ok (.ifCond .ne 12, 3) := by decide +kernel
theorem dX10_thing_15 : decode cX10_thing 15 = .ok (.aload_n 0, 1) := by decide +kernel
theorem dX10_thing_16 : decode cX10_thing 16 = .ok (.getfield 23, 3) := by decide +kernel
theorem dX10_thing_19 : decode cX10_thing 19 = .ok (.iload_n 1, 1) := by decide +kernel
theorem dX10_thing_20 : decode cX10_thing 20 = .ok (.iaload, 1) := by decide +kernel
theorem dX10_thing_21 : decode cX10_thing 21 = .ok (.goto 32, 3) := by decide +kernel
theorem dX10_thing_24 : decode cX10_thing 24 = .ok (.iload_n 2, 1) := by decide +kernel
theorem dX10_thing_25 : decode cX10_thing 25 = .ok (.iconst 1, 1) := by decide +kernel
theorem dX10_thing_26 : decode cX10_thing 26 = .ok (.if_icmp .ne 12, 3) := by decide +kernel
theorem dX10_thing_29 : decode cX10_thing 29 = .ok (.aload_n 0, 1) := by decide +kernel
theorem dX10_thing_30 : decode cX10_thing 30 = .ok (.getfield 26, 3) := by decide +kernel
theorem dX10_thing_33 : decode cX10_thing 33 = .ok (.iload_n 1, 1) := by decide +kernel
theorem dX10_thing_34 : decode cX10_thing 34 = .ok (.iaload, 1) := by decide +kernel
theorem dX10_thing_35 : decode cX10_thing 35 = .ok (.goto 18, 3) := by decide +kernel
theorem dX10_thing_38 : decode cX10_thing 38 = .ok (.iload_n 2, 1) := by decide +kernel
theorem dX10_thing_39 : decode cX10_thing 39 = .ok (.iconst 2, 1) := by decide +kernel
theorem dX10_thing_40 : decode cX10_thing 40 = .ok (.if_icmp .ne 11, 3) := by decide +kernel
theorem dX10_thing_43 : decode cX10_thing 43 = .ok (.aload_n 0, 1) := by decide +kernel
theorem dX10_thing_44 : decode cX10_thing 44 = .ok (.iload_n 1, 1) := by decide +kernel
theorem dX10_thing_45 : decode cX10_thing 45 = .ok (.invokevirtual 232, 3) := by decide +kernel
theorem dX10_thing_48 : decode cX10_thing 48 = .ok (.goto 5, 3) := by decide +kernel
theorem dX10_thing_51 : decode cX10_thing 51 = .ok (.ldc 109, 2) := by decide +kernel
theorem dX10_thing_53 : decode cX10_thing 53 = .ok (.ireturn, 1) := by decide +kernel
theorem dX10_walks_0 : decode cX10_walks 0 = .ok (.aload_n 0, 1) := by decide +kernel
theorem dX10_walks_1 : decode cX10_walks 1 = .ok (.getfield 54, 3) := by decide +kernel
theorem dX10_walks_4 : decode cX10_walks 4 = .ok (.iload_n 2, 1) := by decide +kernel
theorem dX10_walks_5 : decode cX10_walks 5 = .ok (.aload_n 0, 1) := by decide +kernel
theorem dX10_walks_6 : decode cX10_walks 6 = .ok (.getfield 7, 3) := by decide +kernel
theorem dX10_walks_9 : decode cX10_walks 9 = .ok (.iload_n 1, 1) := by decide +kernel
theorem dX10_walks_10 : decode cX10_walks 10 = .ok (.iconst 2, 1) := by decide +kernel
theorem dX10_walks_11 : decode cX10_walks 11 = .ok (.iadd, 1) := by decide +kernel
theorem dX10_walks_12 : decode cX10_walks 12 = .ok (.iload_n 2, 1) := by decide +kernel
theorem dX10_walks_13 : decode cX10_walks 13 = .ok (.iadd, 1) := by decide +kernel
theorem dX10_walks_14 : decode cX10_walks 14 = .ok (.iaload, 1) := by decide +kernel
theorem dX10_walks_15 : decode cX10_walks 15 = .ok (.iastore, 1) := by decide +kernel
theorem dX10_walks_16 : decode cX10_walks 16 = .ok (.aload_n 0, 1) := by decide +kernel
theorem dX10_walks_17 : decode cX10_walks 17 = .ok (.getfield 57, 3) := by decide +kernel
theorem dX10_walks_20 : decode cX10_walks 20 = .ok (.iload_n 2, 1) := by decide +kernel
theorem dX10_walks_21 : decode cX10_walks 21 = .ok (.aload_n 0, 1) := by decide +kernel
theorem dX10_walks_22 : decode cX10_walks 22 = .ok (.getfield 7, 3) := by decide +kernel
theorem dX10_walks_25 : decode cX10_walks 25 = .ok (.iload_n 1, 1) := by decide +kernel
theorem dX10_walks_26 : decode cX10_walks 26 = .ok (.bipush 6, 2) := by decide +kernel
theorem dX10_walks_28 : decode cX10_walks 28 = .ok (.iadd, 1) := by decide +kernel
theorem dX10_walks_29 : decode cX10_walks 29 = .ok (.iload_n 2, 1) := by decide +kernel
theorem dX10_walks_30 : decode cX10_walks 30 = .ok (.iadd, 1) := by decide +kernel
theorem dX10_walks_31 : decode cX10_walks 31 = .ok (.iaload, 1) := by decide +kernel
theorem dX10_walks_32 : decode cX10_walks 32 = .ok (.ifCond .le 7, 3) := by decide +kernel
theorem dX10_walks_35 : decode cX10_walks 35 = .ok (.iconst 1, 1) := by decide +kernel
theorem dX10_walks_36 : decode cX10_walks 36 = .ok (.goto 4, 3) := by decide +kernel
theorem dX10_walks_39 : decode cX10_walks 39 = .ok (.iconst 0, 1) := by decide +kernel
theorem dX10_walks_40 : decode cX10_walks 40 = .ok (.bastore, 1) := by decide +kernel
theorem dX10_walks_41 : decode cX10_walks 41 = .ok (.aload_n 0, 1) := by decide +kernel
theorem dX10_walks_42 : decode cX10_walks 42 = .ok (.getfield 57, 3) := by decide +kernel
theorem dX10_walks_45 : decode cX10_walks 45 = .ok (.iload_n 2, 1) := by decide +kernel
theorem dX10_walks_46 : decode cX10_walks 46 = .ok (.baload, 1) := by decide +kernel
theorem dX10_walks_47 : decode cX10_walks 47 = .ok (.ifCond .eq 90, 3) := by decide +kernel
theorem dX10_walks_50 : decode cX10_walks 50 = .ok (.aload_n 0, 1) := by decide +kernel
theorem dX10_walks_51 : decode cX10_walks 51 = .ok (.getfield 7, 3) := by decide +kernel
theorem dX10_walks_54 : decode cX10_walks 54 = .ok (.iload_n 1, 1) := by decide +kernel
theorem dX10_walks_55 : decode cX10_walks 55 = .ok (.iconst 2, 1) := by decide +kernel
theorem dX10_walks_56 : decode cX10_walks 56 = .ok (.iadd, 1) := by decide +kernel
theorem dX10_walks_57 : decode cX10_walks 57 = .ok (.iload_n 2, 1) := by decide +kernel
theorem dX10_walks_58 : decode cX10_walks 58 = .ok (.iadd, 1) := by decide +kernel
theorem dX10_walks_59 : decode cX10_walks 59 = .ok (.aload_n 0, 1) := by decide +kernel
theorem dX10_walks_60 : decode cX10_walks 60 = .ok (.getfield 7, 3) := by decide +kernel
theorem dX10_walks_63 : decode cX10_walks 63 = .ok (.iload_n 1, 1) := by decide +kernel
theorem dX10_walks_64 : decode cX10_walks 64 = .ok (.bipush 10, 2) := by decide +kernel
theorem dX10_walks_66 : decode cX10_walks 66 = .ok (.iadd, 1) := by decide +kernel
theorem dX10_walks_67 : decode cX10_walks 67 = .ok (.bipush 9, 2) := by decide +kernel
theorem dX10_walks_69 : decode cX10_walks 69 = .ok (.iload_n 2, 1) := by decide +kernel
theorem dX10_walks_70 : decode cX10_walks 70 = .ok (.imul, 1) := by decide +kernel
theorem dX10_walks_71 : decode cX10_walks 71 = .ok (.iadd, 1) := by decide +kernel
theorem dX10_walks_72 : decode cX10_walks 72 = .ok (.iaload, 1) := by decide +kernel
theorem dX10_walks_73 : decode cX10_walks 73 = .ok (.iastore, 1) := by decide +kernel
theorem dX10_walks_74 : decode cX10_walks 74 = .ok (.iconst 0, 1) := by decide +kernel
theorem dX10_walks_75 : decode cX10_walks 75 = .ok (.istore_n 3, 1) := by decide +kernel
theorem dX10_walks_76 : decode cX10_walks 76 = .ok (.iload_n 3, 1) := by decide +kernel
theorem dX10_walks_77 : decode cX10_walks 77 = .ok (.bipush 8, 2) := by decide +kernel
theorem dX10_walks_79 : decode cX10_walks 79 = .ok (.if_icmp .ge 43, 3) := by decide +kernel
theorem dX10_walks_82 : decode cX10_walks 82 = .ok (.aload_n 0, 1) := by decide +kernel
theorem dX10_walks_83 : decode cX10_walks 83 = .ok (.getfield 7, 3) := by decide +kernel
theorem dX10_walks_86 : decode cX10_walks 86 = .ok (.iload_n 1, 1) := by decide +kernel
theorem dX10_walks_87 : decode cX10_walks 87 = .ok (.bipush 10, 2) := by decide +kernel
theorem dX10_walks_89 : decode cX10_walks 89 = .ok (.iadd, 1) := by decide +kernel
theorem dX10_walks_90 : decode cX10_walks 90 = .ok (.bipush 9, 2) := by decide +kernel
theorem dX10_walks_92 : decode cX10_walks 92 = .ok (.iload_n 2, 1) := by decide +kernel
theorem dX10_walks_93 : decode cX10_walks 93 = .ok (.imul, 1) := by decide +kernel
theorem dX10_walks_94 : decode cX10_walks 94 = .ok (.iadd, 1) := by decide +kernel
theorem dX10_walks_95 : decode cX10_walks 95 = .ok (.iload_n 3, 1) := by decide +kernel
theorem dX10_walks_96 : decode cX10_walks 96 = .ok (.iadd, 1) := by decide +kernel
theorem dX10_walks_97 : decode cX10_walks 97 = .ok (.aload_n 0, 1) := by decide +kernel
theorem dX10_walks_98 : decode cX10_walks 98 = .ok (.getfield 7, 3) := by decide +kernel
theorem dX10_walks_101 : decode cX10_walks 101 = .ok (.iload_n 1, 1) := by decide +kernel
theorem dX10_walks_102 : decode cX10_walks 102 = .ok (.bipush 10, 2) := by decide +kernel
theorem dX10_walks_104 : decode cX10_walks 104 = .ok (.iadd, 1) := by decide +kernel
theorem dX10_walks_105 : decode cX10_walks 105 = .ok (.bipush 9, 2) := by decide +kernel
theorem dX10_walks_107 : decode cX10_walks 107 = .ok (.iload_n 2, 1) := by decide +kernel
theorem dX10_walks_108 : decode cX10_walks 108 = .ok (.imul, 1) := by decide +kernel
theorem dX10_walks_109 : decode cX10_walks 109 = .ok (.iadd, 1) := by decide +kernel
theorem dX10_walks_110 : decode cX10_walks 110 = .ok (.iload_n 3, 1) := by decide +kernel
theorem dX10_walks_111 : decode cX10_walks 111 = .ok (.iadd, 1) := by decide +kernel
theorem dX10_walks_112 : decode cX10_walks 112 = .ok (.iconst 1, 1) := by decide +kernel
theorem dX10_walks_113 : decode cX10_walks 113 = .ok (.iadd, 1) := by decide +kernel
theorem dX10_walks_114 : decode cX10_walks 114 = .ok (.iaload, 1) := by decide +kernel
theorem dX10_walks_115 : decode cX10_walks 115 = .ok (.iastore, 1) := by decide +kernel
theorem dX10_walks_116 : decode cX10_walks 116 = .ok (.iinc 3 1, 3) := by decide +kernel
theorem dX10_walks_119 : decode cX10_walks 119 = .ok (.goto (-43), 3) := by decide +kernel
theorem dX10_walks_122 : decode cX10_walks 122 = .ok (.aload_n 0, 1) := by decide +kernel
theorem dX10_walks_123 : decode cX10_walks 123 = .ok (.getfield 7, 3) := by decide +kernel
theorem dX10_walks_126 : decode cX10_walks 126 = .ok (.iload_n 1, 1) := by decide +kernel
theorem dX10_walks_127 : decode cX10_walks 127 = .ok (.bipush 6, 2) := by decide +kernel
theorem dX10_walks_129 : decode cX10_walks 129 = .ok (.iadd, 1) := by decide +kernel
theorem dX10_walks_130 : decode cX10_walks 130 = .ok (.iload_n 2, 1) := by decide +kernel
theorem dX10_walks_131 : decode cX10_walks 131 = .ok (.iadd, 1) := by decide +kernel
theorem dX10_walks_132 : decode cX10_walks 132 = .ok (.dup2, 1) := by decide +kernel
theorem dX10_walks_133 : decode cX10_walks 133 = .ok (.iaload, 1) := by decide +kernel
theorem dX10_walks_134 : decode cX10_walks 134 = .ok (.iconst 1, 1) := by decide +kernel
theorem dX10_walks_135 : decode cX10_walks 135 = .ok (.isub, 1) := by decide +kernel
theorem dX10_walks_136 : decode cX10_walks 136 = .ok (.iastore, 1) := by decide +kernel
theorem dX10_walks_137 : decode cX10_walks 137 = .ok (.return_, 1) := by decide +kernel
theorem dX10_haveMet_0 : decode cX10_haveMet 0 = .ok (.aload_n 0, 1) := by decide +kernel
theorem dX10_haveMet_1 : decode cX10_haveMet 1 = .ok (.getfield 7, 3) := by decide +kernel
theorem dX10_haveMet_4 : decode cX10_haveMet 4 = .ok (.iload_n 1, 1) := by decide +kernel
theorem dX10_haveMet_5 : decode cX10_haveMet 5 = .ok (.iconst 2, 1) := by decide +kernel
theorem dX10_haveMet_6 : decode cX10_haveMet 6 = .ok (.iadd, 1) := by decide +kernel
theorem dX10_haveMet_7 : decode cX10_haveMet 7 = .ok (.iload_n 2, 1) := by decide +kernel
theorem dX10_haveMet_8 : decode cX10_haveMet 8 = .ok (.iadd, 1) := by decide +kernel
theorem dX10_haveMet_9 : decode cX10_haveMet 9 = .ok (.iaload, 1) := by decide +kernel
theorem dX10_haveMet_10 : decode cX10_haveMet 10 = .ok (.aload_n 0, 1) := by decide +kernel
theorem dX10_haveMet_11 : decode cX10_haveMet 11 = .ok (.getfield 7, 3) := by decide +kernel
theorem dX10_haveMet_14 : decode cX10_haveMet 14 = .ok (.iload_n 1, 1) := by decide +kernel
theorem dX10_haveMet_15 : decode cX10_haveMet 15 = .ok (.iconst 2, 1) := by decide +kernel
theorem dX10_haveMet_16 : decode cX10_haveMet 16 = .ok (.iadd, 1) := by decide +kernel
theorem dX10_haveMet_17 : decode cX10_haveMet 17 = .ok (.iload_n 3, 1) := by decide +kernel
theorem dX10_haveMet_18 : decode cX10_haveMet 18 = .ok (.iadd, 1) := by decide +kernel
theorem dX10_haveMet_19 : decode cX10_haveMet 19 = .ok (.iaload, 1) := by decide +kernel
theorem dX10_haveMet_20 : decode cX10_haveMet 20 = .ok (.if_icmp .ne 25, 3) := by decide +kernel
theorem dX10_haveMet_23 : decode cX10_haveMet 23 = .ok (.aload_n 0, 1) := by decide +kernel
theorem dX10_haveMet_24 : decode cX10_haveMet 24 = .ok (.getfield 57, 3) := by decide +kernel
theorem dX10_haveMet_27 : decode cX10_haveMet 27 = .ok (.iload_n 2, 1) := by decide +kernel
theorem dX10_haveMet_28 : decode cX10_haveMet 28 = .ok (.baload, 1) := by decide +kernel
theorem dX10_haveMet_29 : decode cX10_haveMet 29 = .ok (.ifCond .ne 12, 3) := by decide +kernel
theorem dX10_haveMet_32 : decode cX10_haveMet 32 = .ok (.aload_n 0, 1) := by decide +kernel
theorem dX10_haveMet_33 : decode cX10_haveMet 33 = .ok (.getfield 57, 3) := by decide +kernel
theorem dX10_haveMet_36 : decode cX10_haveMet 36 = .ok (.iload_n 3, 1) := by decide +kernel
theorem dX10_haveMet_37 : decode cX10_haveMet 37 = .ok (.baload, 1) := by decide +kernel
theorem dX10_haveMet_38 : decode cX10_haveMet 38 = .ok (.ifCond .eq 7, 3) := by decide +kernel
theorem dX10_haveMet_41 : decode cX10_haveMet 41 = .ok (.iconst 1, 1) := by decide +kernel
theorem dX10_haveMet_42 : decode cX10_haveMet 42 = .ok (.goto 4, 3) := by decide +kernel
theorem dX10_haveMet_45 : decode cX10_haveMet 45 = .ok (.iconst 0, 1) := by decide +kernel
theorem dX10_haveMet_46 : decode cX10_haveMet 46 = .ok (.istore 4, 2) := by decide +kernel
theorem dX10_haveMet_48 : decode cX10_haveMet 48 = .ok (.aload_n 0, 1) := by decide +kernel
theorem dX10_haveMet_49 : decode cX10_haveMet 49 = .ok (.getfield 57, 3) := by decide +kernel
theorem dX10_haveMet_52 : decode cX10_haveMet 52 = .ok (.iload_n 2, 1) := by decide +kernel
theorem dX10_haveMet_53 : decode cX10_haveMet 53 = .ok (.baload, 1) := by decide +kernel
theorem dX10_haveMet_54 : decode cX10_haveMet 54 = .ok (.ifCond .eq 54, 3) := by decide +kernel
theorem dX10_haveMet_57 : decode cX10_haveMet 57 = .ok (.aload_n 0, 1) := by decide +kernel
theorem dX10_haveMet_58 : decode cX10_haveMet 58 = .ok (.getfield 57, 3) := by decide +kernel
theorem dX10_haveMet_61 : decode cX10_haveMet 61 = .ok (.iload_n 3, 1) := by decide +kernel
theorem dX10_haveMet_62 : decode cX10_haveMet 62 = .ok (.baload, 1) := by decide +kernel
theorem dX10_haveMet_63 : decode cX10_haveMet 63 = .ok (.ifCond .eq 45, 3) := by decide +kernel
theorem dX10_haveMet_66 : decode cX10_haveMet 66 = .ok (.aload_n 0, 1) := by decide +kernel
theorem dX10_haveMet_67 : decode cX10_haveMet 67 = .ok (.getfield 7, 3) := by decide +kernel
theorem dX10_haveMet_70 : decode cX10_haveMet 70 = .ok (.iload_n 1, 1) := by decide +kernel
theorem dX10_haveMet_71 : decode cX10_haveMet 71 = .ok (.iconst 2, 1) := by decide +kernel
theorem dX10_haveMet_72 : decode cX10_haveMet 72 = .ok (.iadd, 1) := by decide +kernel
theorem dX10_haveMet_73 : decode cX10_haveMet 73 = .ok (.iload_n 2, 1) := by decide +kernel
theorem dX10_haveMet_74 : decode cX10_haveMet 74 = .ok (.iadd, 1) := by decide +kernel
theorem dX10_haveMet_75 : decode cX10_haveMet 75 = .ok (.iaload, 1) := by decide +kernel
theorem dX10_haveMet_76 : decode cX10_haveMet 76 = .ok (.aload_n 0, 1) := by decide +kernel
theorem dX10_haveMet_77 : decode cX10_haveMet 77 = .ok (.getfield 54, 3) := by decide +kernel
theorem dX10_haveMet_80 : decode cX10_haveMet 80 = .ok (.iload_n 3, 1) := by decide +kernel
theorem dX10_haveMet_81 : decode cX10_haveMet 81 = .ok (.iaload, 1) := by decide +kernel
theorem dX10_haveMet_82 : decode cX10_haveMet 82 = .ok (.if_icmp .ne 26, 3) := by decide +kernel
theorem dX10_haveMet_85 : decode cX10_haveMet 85 = .ok (.aload_n 0, 1) := by decide +kernel
theorem dX10_haveMet_86 : decode cX10_haveMet 86 = .ok (.getfield 7, 3) := by decide +kernel
theorem dX10_haveMet_89 : decode cX10_haveMet 89 = .ok (.iload_n 1, 1) := by decide +kernel
theorem dX10_haveMet_90 : decode cX10_haveMet 90 = .ok (.iconst 2, 1) := by decide +kernel
theorem dX10_haveMet_91 : decode cX10_haveMet 91 = .ok (.iadd, 1) := by decide +kernel
theorem dX10_haveMet_92 : decode cX10_haveMet 92 = .ok (.iload_n 3, 1) := by decide +kernel
theorem dX10_haveMet_93 : decode cX10_haveMet 93 = .ok (.iadd, 1) := by decide +kernel
theorem dX10_haveMet_94 : decode cX10_haveMet 94 = .ok (.iaload, 1) := by decide +kernel
theorem dX10_haveMet_95 : decode cX10_haveMet 95 = .ok (.aload_n 0, 1) := by decide +kernel
theorem dX10_haveMet_96 : decode cX10_haveMet 96 = .ok (.getfield 54, 3) := by decide +kernel
theorem dX10_haveMet_99 : decode cX10_haveMet 99 = .ok (.iload_n 2, 1) := by decide +kernel
theorem dX10_haveMet_100 : decode cX10_haveMet 100 = .ok (.iaload, 1) := by decide +kernel
theorem dX10_haveMet_101 : decode cX10_haveMet 101 = .ok (.if_icmp .ne 7, 3) := by decide +kernel
theorem dX10_haveMet_104 : decode cX10_haveMet 104 = .ok (.iconst 1, 1) := by decide +kernel
theorem dX10_haveMet_105 : decode cX10_haveMet 105 = .ok (.goto 4, 3) := by decide +kernel
theorem dX10_haveMet_108 : decode cX10_haveMet 108 = .ok (.iconst 0, 1) := by decide +kernel
theorem dX10_haveMet_109 : decode cX10_haveMet 109 = .ok (.istore 5, 2) := by decide +kernel
theorem dX10_haveMet_111 : decode cX10_haveMet 111 = .ok (.iload 4, 2) := by decide +kernel
theorem dX10_haveMet_113 : decode cX10_haveMet 113 = .ok (.ifCond .ne 8, 3) := by decide +kernel
theorem dX10_haveMet_116 : decode cX10_haveMet 116 = .ok (.iload 5, 2) := by decide +kernel
theorem dX10_haveMet_118 : decode cX10_haveMet 118 = .ok (.ifCond .eq 7, 3) := by decide +kernel
theorem dX10_haveMet_121 : decode cX10_haveMet 121 = .ok (.iconst 1, 1) := by decide +kernel
theorem dX10_haveMet_122 : decode cX10_haveMet 122 = .ok (.goto 4, 3) := by decide +kernel
theorem dX10_haveMet_125 : decode cX10_haveMet 125 = .ok (.iconst 0, 1) := by decide +kernel
theorem dX10_haveMet_126 : decode cX10_haveMet 126 = .ok (.ireturn, 1) := by decide +kernel
theorem dX10_spills_0 : decode cX10_spills 0 = .ok (.aload_n 0, 1) := by decide +kernel
theorem dX10_spills_1 : decode cX10_spills 1 = .ok (.iload_n 1, 1) := by decide +kernel
theorem dX10_spills_2 : decode cX10_spills 2 = .ok (.iload_n 2, 1) := by decide +kernel
theorem dX10_spills_3 : decode cX10_spills 3 = .ok (.invokevirtual 223, 3) := by decide +kernel
theorem dX10_spills_6 : decode cX10_spills 6 = .ok (.istore_n 3, 1) := by decide +kernel
theorem dX10_spills_7 : decode cX10_spills 7 = .ok (.iconst (-1), 1) := by decide +kernel
theorem dX10_spills_8 : decode cX10_spills 8 = .ok (.istore 4, 2) := by decide +kernel
theorem dX10_spills_10 : decode cX10_spills 10 = .ok (.iconst 0, 1) := by decide +kernel
theorem dX10_spills_11 : decode cX10_spills 11 = .ok (.istore 5, 2) := by decide +kernel
theorem dX10_spills_13 : decode cX10_spills 13 = .ok (.iload 5, 2) := by decide +kernel
theorem dX10_spills_15 : decode cX10_spills 15 = .ok (.aload_n 0, 1) := by decide +kernel
theorem dX10_spills_16 : decode cX10_spills 16 = .ok (.getfield 104, 3) := by decide +kernel
theorem dX10_spills_19 : decode cX10_spills 19 = .ok (.if_icmp .ge 50, 3) := by decide +kernel
theorem dX10_spills_22 : decode cX10_spills 22 = .ok (.iload_n 3, 1) := by decide +kernel
theorem dX10_spills_23 : decode cX10_spills 23 = .ok (.iload 5, 2) := by decide +kernel
theorem dX10_spills_25 : decode cX10_spills 25 = .ok (.invokestatic 151, 3) := by decide +kernel
theorem dX10_spills_28 : decode cX10_spills 28 = .ok (.ifCond .eq 31, 3) := by decide +kernel
theorem dX10_spills_31 : decode cX10_spills 31 = .ok (.iload 4, 2) := by decide +kernel
theorem dX10_spills_33 : decode cX10_spills 33 = .ok (.iconst (-1), 1) := by decide +kernel
theorem dX10_spills_34 : decode cX10_spills 34 = .ok (.if_icmp .eq 20, 3) := by decide +kernel
theorem dX10_spills_37 : decode cX10_spills 37 = .ok (.aload_n 0, 1) := by decide +kernel
theorem dX10_spills_38 : decode cX10_spills 38 = .ok (.getfield 23, 3) := by decide +kernel
theorem dX10_spills_41 : decode cX10_spills 41 = .ok (.iload 5, 2) := by decide +kernel
theorem dX10_spills_43 : decode cX10_spills 43 = .ok (.iaload, 1) := by decide +kernel
theorem dX10_spills_44 : decode cX10_spills 44 = .ok (.aload_n 0, 1) := by decide +kernel
theorem dX10_spills_45 : decode cX10_spills 45 = .ok (.getfield 23, 3) := by decide +kernel
theorem dX10_spills_48 : decode cX10_spills 48 = .ok (.iload 4, 2) := by decide +kernel
theorem dX10_spills_50 : decode cX10_spills 50 = .ok (.iaload, 1) := by decide +kernel
theorem dX10_spills_51 : decode cX10_spills 51 = .ok (.if_icmp .le 8, 3) := by decide +kernel
theorem dX10_spills_54 : decode cX10_spills 54 = .ok (.iload 5, 2) := by decide +kernel
theorem dX10_spills_56 : decode cX10_spills 56 = .ok (.goto 5, 3) := by decide +kernel
theorem dX10_spills_59 : decode cX10_spills 59 = .ok (.iload 4, 2) := by decide +kernel
theorem dX10_spills_61 : decode cX10_spills 61 = .ok (.istore 4, 2) := by decide +kernel
theorem dX10_spills_63 : decode cX10_spills 63 = .ok (.iinc 5 1, 3) := by decide +kernel
theorem dX10_spills_66 : decode cX10_spills 66 = .ok (.goto (-53), 3) := by decide +kernel
theorem dX10_spills_69 : decode cX10_spills 69 = .ok (.iload 4, 2) := by decide +kernel
theorem dX10_spills_71 : decode cX10_spills 71 = .ok (.iconst (-1), 1) := by decide +kernel
theorem dX10_spills_72 : decode cX10_spills 72 = .ok (.if_icmp .eq 17, 3) := by decide +kernel
theorem dX10_spills_75 : decode cX10_spills 75 = .ok (.aload_n 0, 1) := by decide +kernel
theorem dX10_spills_76 : decode cX10_spills 76 = .ok (.getfield 7, 3) := by decide +kernel
theorem dX10_spills_79 : decode cX10_spills 79 = .ok (.iload_n 1, 1) := by decide +kernel
theorem dX10_spills_80 : decode cX10_spills 80 = .ok (.bipush 50, 2) := by decide +kernel
theorem dX10_spills_82 : decode cX10_spills 82 = .ok (.iadd, 1) := by decide +kernel
theorem dX10_spills_83 : decode cX10_spills 83 = .ok (.iload 4, 2) := by decide +kernel
theorem dX10_spills_85 : decode cX10_spills 85 = .ok (.iadd, 1) := by decide +kernel
theorem dX10_spills_86 : decode cX10_spills 86 = .ok (.bipush (-2), 2) := by decide +kernel
theorem dX10_spills_88 : decode cX10_spills 88 = .ok (.iastore, 1) := by decide +kernel
theorem dX10_spills_89 : decode cX10_spills 89 = .ok (.return_, 1) := by decide +kernel
theorem dX10_passes_0 : decode cX10_passes 0 = .ok (.iconst 0, 1) := by decide +kernel
theorem dX10_passes_1 : decode cX10_passes 1 = .ok (.istore_n 2, 1) := by decide +kernel
theorem dX10_passes_2 : decode cX10_passes 2 = .ok (.iconst 0, 1) := by decide +kernel
theorem dX10_passes_3 : decode cX10_passes 3 = .ok (.istore_n 3, 1) := by decide +kernel
theorem dX10_passes_4 : decode cX10_passes 4 = .ok (.iload_n 3, 1) := by decide +kernel
theorem dX10_passes_5 : decode cX10_passes 5 = .ok (.aload_n 0, 1) := by decide +kernel
theorem dX10_passes_6 : decode cX10_passes 6 = .ok (.getfield 97, 3) := by decide +kernel
theorem dX10_passes_9 : decode cX10_passes 9 = .ok (.if_icmp .ge 32, 3) := by decide +kernel
theorem dX10_passes_12 : decode cX10_passes 12 = .ok (.iload_n 2, 1) := by decide +kernel
theorem dX10_passes_13 : decode cX10_passes 13 = .ok (.aload_n 0, 1) := by decide +kernel
theorem dX10_passes_14 : decode cX10_passes 14 = .ok (.iload_n 1, 1) := by decide +kernel
theorem dX10_passes_15 : decode cX10_passes 15 = .ok (.iload_n 3, 1) := by decide +kernel
theorem dX10_passes_16 : decode cX10_passes 16 = .ok (.invokevirtual 226, 3) := by decide +kernel
theorem dX10_passes_19 : decode cX10_passes 19 = .ok (.aload_n 0, 1) := by decide +kernel
theorem dX10_passes_20 : decode cX10_passes 20 = .ok (.getfield 191, 3) := by decide +kernel
theorem dX10_passes_23 : decode cX10_passes 23 = .ok (.if_icmp .le 9, 3) := by decide +kernel
theorem dX10_passes_26 : decode cX10_passes 26 = .ok (.iconst 1, 1) := by decide +kernel
theorem dX10_passes_27 : decode cX10_passes 27 = .ok (.iload_n 3, 1) := by decide +kernel
theorem dX10_passes_28 : decode cX10_passes 28 = .ok (.ishl, 1) := by decide +kernel
theorem dX10_passes_29 : decode cX10_passes 29 = .ok (.goto 4, 3) := by decide +kernel
theorem dX10_passes_32 : decode cX10_passes 32 = .ok (.iconst 0, 1) := by decide +kernel
theorem dX10_passes_33 : decode cX10_passes 33 = .ok (.ior, 1) := by decide +kernel
theorem dX10_passes_34 : decode cX10_passes 34 = .ok (.istore_n 2, 1) := by decide +kernel
theorem dX10_passes_35 : decode cX10_passes 35 = .ok (.iinc 3 1, 3) := by decide +kernel
theorem dX10_passes_38 : decode cX10_passes 38 = .ok (.goto (-34), 3) := by decide +kernel
theorem dX10_passes_41 : decode cX10_passes 41 = .ok (.iconst 0, 1) := by decide +kernel
theorem dX10_passes_42 : decode cX10_passes 42 = .ok (.istore_n 3, 1) := by decide +kernel
theorem dX10_passes_43 : decode cX10_passes 43 = .ok (.iload_n 3, 1) := by decide +kernel
theorem dX10_passes_44 : decode cX10_passes 44 = .ok (.aload_n 0, 1) := by decide +kernel
theorem dX10_passes_45 : decode cX10_passes 45 = .ok (.getfield 97, 3) := by decide +kernel
theorem dX10_passes_48 : decode cX10_passes 48 = .ok (.if_icmp .ge 15, 3) := by decide +kernel
theorem dX10_passes_51 : decode cX10_passes 51 = .ok (.aload_n 0, 1) := by decide +kernel
theorem dX10_passes_52 : decode cX10_passes 52 = .ok (.iload_n 1, 1) := by decide +kernel
theorem dX10_passes_53 : decode cX10_passes 53 = .ok (.iload_n 3, 1) := by decide +kernel
theorem dX10_passes_54 : decode cX10_passes 54 = .ok (.invokevirtual 235, 3) := by decide +kernel
theorem dX10_passes_57 : decode cX10_passes 57 = .ok (.iinc 3 1, 3) := by decide +kernel
theorem dX10_passes_60 : decode cX10_passes 60 = .ok (.goto (-17), 3) := by decide +kernel
theorem dX10_passes_63 : decode cX10_passes 63 = .ok (.iconst 0, 1) := by decide +kernel
theorem dX10_passes_64 : decode cX10_passes 64 = .ok (.istore_n 3, 1) := by decide +kernel
theorem dX10_passes_65 : decode cX10_passes 65 = .ok (.iconst 0, 1) := by decide +kernel
theorem dX10_passes_66 : decode cX10_passes 66 = .ok (.istore 4, 2) := by decide +kernel
theorem dX10_passes_68 : decode cX10_passes 68 = .ok (.iload 4, 2) := by decide +kernel
theorem dX10_passes_70 : decode cX10_passes 70 = .ok (.aload_n 0, 1) := by decide +kernel
theorem dX10_passes_71 : decode cX10_passes 71 = .ok (.getfield 97, 3) := by decide +kernel
theorem dX10_passes_74 : decode cX10_passes 74 = .ok (.if_icmp .ge 90, 3) := by decide +kernel
theorem dX10_passes_77 : decode cX10_passes 77 = .ok (.iload 4, 2) := by decide +kernel
theorem dX10_passes_79 : decode cX10_passes 79 = .ok (.iconst 1, 1) := by decide +kernel
theorem dX10_passes_80 : decode cX10_passes 80 = .ok (.iadd, 1) := by decide +kernel
theorem dX10_passes_81 : decode cX10_passes 81 = .ok (.istore 5, 2) := by decide +kernel
theorem dX10_passes_83 : decode cX10_passes 83 = .ok (.iload 5, 2) := by decide +kernel
theorem dX10_passes_85 : decode cX10_passes 85 = .ok (.aload_n 0, 1) := by decide +kernel
theorem dX10_passes_86 : decode cX10_passes 86 = .ok (.getfield 97, 3) := by decide +kernel
theorem dX10_passes_89 : decode cX10_passes 89 = .ok (.if_icmp .ge 69, 3) := by decide +kernel
theorem dX10_passes_92 : decode cX10_passes 92 = .ok (.aload_n 0, 1) := by decide +kernel
theorem dX10_passes_93 : decode cX10_passes 93 = .ok (.iload_n 1, 1) := by decide +kernel
theorem dX10_passes_94 : decode cX10_passes 94 = .ok (.iload 4, 2) := by decide +kernel
theorem dX10_passes_96 : decode cX10_passes 96 = .ok (.iload 5, 2) := by decide +kernel
theorem dX10_passes_98 : decode cX10_passes 98 = .ok (.invokevirtual 239, 3) := by decide +kernel
theorem dX10_passes_101 : decode cX10_passes 101 = .ok (.ifCond .eq 51, 3) := by decide +kernel
theorem dX10_passes_104 : decode cX10_passes 104 = .ok (.aload_n 0, 1) := by decide +kernel
theorem dX10_passes_105 : decode cX10_passes 105 = .ok (.getfield 7, 3) := by decide +kernel
theorem dX10_passes_108 : decode cX10_passes 108 = .ok (.iload_n 1, 1) := by decide +kernel
theorem dX10_passes_109 : decode cX10_passes 109 = .ok (.iconst 1, 1) := by decide +kernel
theorem dX10_passes_110 : decode cX10_passes 110 = .ok (.iadd, 1) := by decide +kernel
theorem dX10_passes_111 : decode cX10_passes 111 = .ok (.dup2, 1) := by decide +kernel
theorem dX10_passes_112 : decode cX10_passes 112 = .ok (.iaload, 1) := by decide +kernel
theorem dX10_passes_113 : decode cX10_passes 113 = .ok (.iconst 1, 1) := by decide +kernel
theorem dX10_passes_114 : decode cX10_passes 114 = .ok (.iadd, 1) := by decide +kernel
theorem dX10_passes_115 : decode cX10_passes 115 = .ok (.iastore, 1) := by decide +kernel
theorem dX10_passes_116 : decode cX10_passes 116 = .ok (.iload_n 3, 1) := by decide +kernel
theorem dX10_passes_117 : decode cX10_passes 117 = .ok (.aload_n 0, 1) := by decide +kernel
theorem dX10_passes_118 : decode cX10_passes 118 = .ok (.getfield 7, 3) := by decide +kernel
theorem dX10_passes_121 : decode cX10_passes 121 = .ok (.iload_n 1, 1) := by decide +kernel
theorem dX10_passes_122 : decode cX10_passes 122 = .ok (.bipush 46, 2) := by decide +kernel
theorem dX10_passes_124 : decode cX10_passes 124 = .ok (.iadd, 1) := by decide +kernel
theorem dX10_passes_125 : decode cX10_passes 125 = .ok (.iload 4, 2) := by decide +kernel
theorem dX10_passes_127 : decode cX10_passes 127 = .ok (.iadd, 1) := by decide +kernel
theorem dX10_passes_128 : decode cX10_passes 128 = .ok (.iaload, 1) := by decide +kernel
theorem dX10_passes_129 : decode cX10_passes 129 = .ok (.iload 5, 2) := by decide +kernel
theorem dX10_passes_131 : decode cX10_passes 131 = .ok (.invokestatic 151, 3) := by decide +kernel
theorem dX10_passes_134 : decode cX10_passes 134 = .ok (.ifCond .eq 7, 3) := by decide +kernel
theorem dX10_passes_137 : decode cX10_passes 137 = .ok (.iconst 0, 1) := by decide +kernel
theorem dX10_passes_138 : decode cX10_passes 138 = .ok (.goto 12, 3) := by decide +kernel
theorem dX10_passes_141 : decode cX10_passes 141 = .ok (.iconst 1, 1) := by decide +kernel
theorem dX10_passes_142 : decode cX10_passes 142 = .ok (.iload 4, 2) := by decide +kernel
theorem dX10_passes_144 : decode cX10_passes 144 = .ok (.ishl, 1) := by decide +kernel
theorem dX10_passes_145 : decode cX10_passes 145 = .ok (.iconst 1, 1) := by decide +kernel
theorem dX10_passes_146 : decode cX10_passes 146 = .ok (.iload 5, 2) := by decide +kernel
theorem dX10_passes_148 : decode cX10_passes 148 = .ok (.ishl, 1) := by decide +kernel
theorem dX10_passes_149 : decode cX10_passes 149 = .ok (.ior, 1) := by decide +kernel
theorem dX10_passes_150 : decode cX10_passes 150 = .ok (.ior, 1) := by decide +kernel
theorem dX10_passes_151 : decode cX10_passes 151 = .ok (.istore_n 3, 1) := by decide +kernel
theorem dX10_passes_152 : decode cX10_passes 152 = .ok (.iinc 5 1, 3) := by decide +kernel
theorem dX10_passes_155 : decode cX10_passes 155 = .ok (.goto (-72), 3) := by decide +kernel
theorem dX10_passes_158 : decode cX10_passes 158 = .ok (.iinc 4 1, 3) := by decide +kernel
theorem dX10_passes_161 : decode cX10_passes 161 = .ok (.goto (-93), 3) := by decide +kernel
theorem dX10_passes_164 : decode cX10_passes 164 = .ok (.iconst 0, 1) := by decide +kernel
theorem dX10_passes_165 : decode cX10_passes 165 = .ok (.istore 4, 2) := by decide +kernel
theorem dX10_passes_167 : decode cX10_passes 167 = .ok (.iload 4, 2) := by decide +kernel
theorem dX10_passes_169 : decode cX10_passes 169 = .ok (.aload_n 0, 1) := by decide +kernel
theorem dX10_passes_170 : decode cX10_passes 170 = .ok (.getfield 97, 3) := by decide +kernel
theorem dX10_passes_173 : decode cX10_passes 173 = .ok (.if_icmp .ge 27, 3) := by decide +kernel
theorem dX10_passes_176 : decode cX10_passes 176 = .ok (.iload_n 3, 1) := by decide +kernel
theorem dX10_passes_177 : decode cX10_passes 177 = .ok (.iload_n 2, 1) := by decide +kernel
theorem dX10_passes_178 : decode cX10_passes 178 = .ok (.iand, 1) := by decide +kernel
theorem dX10_passes_179 : decode cX10_passes 179 = .ok (.iload 4, 2) := by decide +kernel
theorem dX10_passes_181 : decode cX10_passes 181 = .ok (.invokestatic 151, 3) := by decide +kernel
theorem dX10_passes_184 : decode cX10_passes 184 = .ok (.ifCond .eq 10, 3) := by decide +kernel
theorem dX10_passes_187 : decode cX10_passes 187 = .ok (.aload_n 0, 1) := by decide +kernel
theorem dX10_passes_188 : decode cX10_passes 188 = .ok (.iload_n 1, 1) := by decide +kernel
theorem dX10_passes_189 : decode cX10_passes 189 = .ok (.iload 4, 2) := by decide +kernel
theorem dX10_passes_191 : decode cX10_passes 191 = .ok (.invokevirtual 243, 3) := by decide +kernel
theorem dX10_passes_194 : decode cX10_passes 194 = .ok (.iinc 4 1, 3) := by decide +kernel
theorem dX10_passes_197 : decode cX10_passes 197 = .ok (.goto (-30), 3) := by decide +kernel
theorem dX10_passes_200 : decode cX10_passes 200 = .ok (.aload_n 0, 1) := by decide +kernel
theorem dX10_passes_201 : decode cX10_passes 201 = .ok (.getfield 7, 3) := by decide +kernel
theorem dX10_passes_204 : decode cX10_passes 204 = .ok (.iload_n 1, 1) := by decide +kernel
theorem dX10_passes_205 : decode cX10_passes 205 = .ok (.iconst 0, 1) := by decide +kernel
theorem dX10_passes_206 : decode cX10_passes 206 = .ok (.iadd, 1) := by decide +kernel
theorem dX10_passes_207 : decode cX10_passes 207 = .ok (.dup2, 1) := by decide +kernel
theorem dX10_passes_208 : decode cX10_passes 208 = .ok (.iaload, 1) := by decide +kernel
theorem dX10_passes_209 : decode cX10_passes 209 = .ok (.iconst 1, 1) := by decide +kernel
theorem dX10_passes_210 : decode cX10_passes 210 = .ok (.iadd, 1) := by decide +kernel
theorem dX10_passes_211 : decode cX10_passes 211 = .ok (.iastore, 1) := by decide +kernel
theorem dX10_passes_212 : decode cX10_passes 212 = .ok (.return_, 1) := by decide +kernel
theorem dX10_minds_0 : decode cX10_minds 0 = .ok (.aload_n 0, 1) := by decide +kernel
theorem dX10_minds_1 : decode cX10_minds 1 = .ok (.getfield 206, 3) := by decide +kernel
theorem dX10_minds_4 : decode cX10_minds 4 = .ok (.bipush 20, 2) := by decide +kernel
theorem dX10_minds_6 : decode cX10_minds 6 = .ok (.if_icmp .ne 51, 3) := by decide +kernel
theorem dX10_minds_9 : decode cX10_minds 9 = .ok (.iconst 0, 1) := by decide +kernel
theorem dX10_minds_10 : decode cX10_minds 10 = .ok (.istore_n 1, 1) := by decide +kernel
theorem dX10_minds_11 : decode cX10_minds 11 = .ok (.iload_n 1, 1) := by decide +kernel
theorem dX10_minds_12 : decode cX10_minds 12 = .ok (.sipush 1121, 3) := by decide +kernel
theorem dX10_minds_15 : decode cX10_minds 15 = .ok (.if_icmp .ge 32, 3) := by decide +kernel
theorem dX10_minds_18 : decode cX10_minds 18 = .ok (.aload_n 0, 1) := by decide +kernel
theorem dX10_minds_19 : decode cX10_minds 19 = .ok (.getfield 7, 3) := by decide +kernel
theorem dX10_minds_22 : decode cX10_minds 22 = .ok (.sipush 236, 3) := by decide +kernel
theorem dX10_minds_25 : decode cX10_minds 25 = .ok (.iload_n 1, 1) := by decide +kernel
theorem dX10_minds_26 : decode cX10_minds 26 = .ok (.iadd, 1) := by decide +kernel
theorem dX10_minds_27 : decode cX10_minds 27 = .ok (.aload_n 0, 1) := by decide +kernel
theorem dX10_minds_28 : decode cX10_minds 28 = .ok (.getfield 7, 3) := by decide +kernel
theorem dX10_minds_31 : decode cX10_minds 31 = .ok (.sipush 236, 3) := by decide +kernel
theorem dX10_minds_34 : decode cX10_minds 34 = .ok (.iload_n 1, 1) := by decide +kernel
theorem dX10_minds_35 : decode cX10_minds 35 = .ok (.iadd, 1) := by decide +kernel
theorem dX10_minds_36 : decode cX10_minds 36 = .ok (.bipush 59, 2) := by decide +kernel
theorem dX10_minds_38 : decode cX10_minds 38 = .ok (.iadd, 1) := by decide +kernel
theorem dX10_minds_39 : decode cX10_minds 39 = .ok (.iaload, 1) := by decide +kernel
theorem dX10_minds_40 : decode cX10_minds 40 = .ok (.iastore, 1) := by decide +kernel
theorem dX10_minds_41 : decode cX10_minds 41 = .ok (.iinc 1 1, 3) := by decide +kernel
theorem dX10_minds_44 : decode cX10_minds 44 = .ok (.goto (-33), 3) := by decide +kernel
theorem dX10_minds_47 : decode cX10_minds 47 = .ok (.aload_n 0, 1) := by decide +kernel
theorem dX10_minds_48 : decode cX10_minds 48 = .ok (.dup, 1) := by decide +kernel
theorem dX10_minds_49 : decode cX10_minds 49 = .ok (.getfield 206, 3) := by decide +kernel
theorem dX10_minds_52 : decode cX10_minds 52 = .ok (.iconst 1, 1) := by decide +kernel
theorem dX10_minds_53 : decode cX10_minds 53 = .ok (.isub, 1) := by decide +kernel
theorem dX10_minds_54 : decode cX10_minds 54 = .ok (.putfield 206, 3) := by decide +kernel
theorem dX10_minds_57 : decode cX10_minds 57 = .ok (.aload_n 0, 1) := by decide +kernel
theorem dX10_minds_58 : decode cX10_minds 58 = .ok (.iconst 0, 1) := by decide +kernel
theorem dX10_minds_59 : decode cX10_minds 59 = .ok (.sipush 236, 3) := by decide +kernel
theorem dX10_minds_62 : decode cX10_minds 62 = .ok (.bipush 59, 2) := by decide +kernel
theorem dX10_minds_64 : decode cX10_minds 64 = .ok (.aload_n 0, 1) := by decide +kernel
theorem dX10_minds_65 : decode cX10_minds 65 = .ok (.getfield 206, 3) := by decide +kernel
theorem dX10_minds_68 : decode cX10_minds 68 = .ok (.imul, 1) := by decide +kernel
theorem dX10_minds_69 : decode cX10_minds 69 = .ok (.iadd, 1) := by decide +kernel
theorem dX10_minds_70 : decode cX10_minds 70 = .ok (.invokevirtual 246, 3) := by decide +kernel
theorem dX10_minds_73 : decode cX10_minds 73 = .ok (.aload_n 0, 1) := by decide +kernel
theorem dX10_minds_74 : decode cX10_minds 74 = .ok (.dup, 1) := by decide +kernel
theorem dX10_minds_75 : decode cX10_minds 75 = .ok (.getfield 206, 3) := by decide +kernel
theorem dX10_minds_78 : decode cX10_minds 78 = .ok (.iconst 1, 1) := by decide +kernel
theorem dX10_minds_79 : decode cX10_minds 79 = .ok (.iadd, 1) := by decide +kernel
theorem dX10_minds_80 : decode cX10_minds 80 = .ok (.putfield 206, 3) := by decide +kernel
theorem dX10_minds_83 : decode cX10_minds 83 = .ok (.return_, 1) := by decide +kernel
theorem dX10_undo_0 : decode cX10_undo 0 = .ok (.aload_n 0, 1) := by decide +kernel
theorem dX10_undo_1 : decode cX10_undo 1 = .ok (.getfield 206, 3) := by decide +kernel
theorem dX10_undo_4 : decode cX10_undo 4 = .ok (.ifCond .ne 6, 3) := by decide +kernel
theorem dX10_undo_7 : decode cX10_undo 7 = .ok (.ldc 249, 2) := by decide +kernel
theorem dX10_undo_9 : decode cX10_undo 9 = .ok (.ireturn, 1) := by decide +kernel
theorem dX10_undo_10 : decode cX10_undo 10 = .ok (.aload_n 0, 1) := by decide +kernel
theorem dX10_undo_11 : decode cX10_undo 11 = .ok (.getfield 7, 3) := by decide +kernel
theorem dX10_undo_14 : decode cX10_undo 14 = .ok (.bipush 58, 2) := by decide +kernel
theorem dX10_undo_16 : decode cX10_undo 16 = .ok (.iaload, 1) := by decide +kernel
theorem dX10_undo_17 : decode cX10_undo 17 = .ok (.istore_n 1, 1) := by decide +kernel
theorem dX10_undo_18 : decode cX10_undo 18 = .ok (.aload_n 0, 1) := by decide +kernel
theorem dX10_undo_19 : decode cX10_undo 19 = .ok (.dup, 1) := by decide +kernel
theorem dX10_undo_20 : decode cX10_undo 20 = .ok (.getfield 206, 3) := by decide +kernel
theorem dX10_undo_23 : decode cX10_undo 23 = .ok (.iconst 1, 1) := by decide +kernel
theorem dX10_undo_24 : decode cX10_undo 24 = .ok (.isub, 1) := by decide +kernel
theorem dX10_undo_25 : decode cX10_undo 25 = .ok (.putfield 206, 3) := by decide +kernel
theorem dX10_undo_28 : decode cX10_undo 28 = .ok (.aload_n 0, 1) := by decide +kernel
theorem dX10_undo_29 : decode cX10_undo 29 = .ok (.sipush 236, 3) := by decide +kernel
theorem dX10_undo_32 : decode cX10_undo 32 = .ok (.bipush 59, 2) := by decide +kernel
theorem dX10_undo_34 : decode cX10_undo 34 = .ok (.aload_n 0, 1) := by decide +kernel
theorem dX10_undo_35 : decode cX10_undo 35 = .ok (.getfield 206, 3) := by decide +kernel
theorem dX10_undo_38 : decode cX10_undo 38 = .ok (.imul, 1) := by decide +kernel
theorem dX10_undo_39 : decode cX10_undo 39 = .ok (.iadd, 1) := by decide +kernel
theorem dX10_undo_40 : decode cX10_undo 40 = .ok (.iconst 0, 1) := by decide +kernel
theorem dX10_undo_41 : decode cX10_undo 41 = .ok (.invokevirtual 246, 3) := by decide +kernel
theorem dX10_undo_44 : decode cX10_undo 44 = .ok (.aload_n 0, 1) := by decide +kernel
theorem dX10_undo_45 : decode cX10_undo 45 = .ok (.getfield 7, 3) := by decide +kernel
theorem dX10_undo_48 : decode cX10_undo 48 = .ok (.bipush 58, 2) := by decide +kernel
theorem dX10_undo_50 : decode cX10_undo 50 = .ok (.iload_n 1, 1) := by decide +kernel
theorem dX10_undo_51 : decode cX10_undo 51 = .ok (.iastore, 1) := by decide +kernel
theorem dX10_undo_52 : decode cX10_undo 52 = .ok (.aload_n 0, 1) := by decide +kernel
theorem dX10_undo_53 : decode cX10_undo 53 = .ok (.getfield 206, 3) := by decide +kernel
theorem dX10_undo_56 : decode cX10_undo 56 = .ok (.ireturn, 1) := by decide +kernel
theorem dX10_minute_0 : decode cX10_minute 0 = .ok (.iload_n 1, 1) := by decide +kernel
theorem dX10_minute_1 : decode cX10_minute 1 = .ok (.i2l, 1) := by decide +kernel
theorem dX10_minute_2 : decode cX10_minute 2 = .ok (.lconst 1, 1) := by decide +kernel
theorem dX10_minute_3 : decode cX10_minute 3 = .ok (.ldc2_w 250, 3) := by decide +kernel
theorem dX10_minute_6 : decode cX10_minute 6 = .ok (.invokestatic 93, 3) := by decide +kernel
theorem dX10_minute_9 : decode cX10_minute 9 = .ok (.ifCond .ne 6, 3) := by decide +kernel
theorem dX10_minute_12 : decode cX10_minute 12 = .ok (.ldc 109, 2) := by decide +kernel
theorem dX10_minute_14 : decode cX10_minute 14 = .ok (.ireturn, 1) := by decide +kernel
theorem dX10_minute_15 : decode cX10_minute 15 = .ok (.aload_n 0, 1) := by decide +kernel
theorem dX10_minute_16 : decode cX10_minute 16 = .ok (.getfield 90, 3) := by decide +kernel
theorem dX10_minute_19 : decode cX10_minute 19 = .ok (.ifCond .ne 6, 3) := by decide +kernel
theorem dX10_minute_22 : decode cX10_minute 22 = .ok (.ldc 249, 2) := by decide +kernel
theorem dX10_minute_24 : decode cX10_minute 24 = .ok (.ireturn, 1) := by decide +kernel
theorem dX10_minute_25 : decode cX10_minute 25 = .ok (.aload_n 0, 1) := by decide +kernel
theorem dX10_minute_26 : decode cX10_minute 26 = .ok (.getfield 7, 3) := by decide +kernel
theorem dX10_minute_29 : decode cX10_minute 29 = .ok (.iconst 0, 1) := by decide +kernel
theorem dX10_minute_30 : decode cX10_minute 30 = .ok (.iaload, 1) := by decide +kernel
theorem dX10_minute_31 : decode cX10_minute 31 = .ok (.sipush 9000, 3) := by decide +kernel
theorem dX10_minute_34 : decode cX10_minute 34 = .ok (.if_icmp .le 6, 3) := by decide +kernel
theorem dX10_minute_37 : decode cX10_minute 37 = .ok (.ldc 113, 2) := by decide +kernel
theorem dX10_minute_39 : decode cX10_minute 39 = .ok (.ireturn, 1) := by decide +kernel
theorem dX10_minute_40 : decode cX10_minute 40 = .ok (.aload_n 0, 1) := by decide +kernel
theorem dX10_minute_41 : decode cX10_minute 41 = .ok (.invokevirtual 252, 3) := by decide +kernel
theorem dX10_minute_44 : decode cX10_minute 44 = .ok (.iconst 0, 1) := by decide +kernel
theorem dX10_minute_45 : decode cX10_minute 45 = .ok (.istore_n 2, 1) := by decide +kernel
theorem dX10_minute_46 : decode cX10_minute 46 = .ok (.iload_n 2, 1) := by decide +kernel
theorem dX10_minute_47 : decode cX10_minute 47 = .ok (.iload_n 1, 1) := by decide +kernel
theorem dX10_minute_48 : decode cX10_minute 48 = .ok (.if_icmp .ge 14, 3) := by decide +kernel
theorem dX10_minute_51 : decode cX10_minute 51 = .ok (.aload_n 0, 1) := by decide +kernel
theorem dX10_minute_52 : decode cX10_minute 52 = .ok (.iconst 0, 1) := by decide +kernel
theorem dX10_minute_53 : decode cX10_minute 53 = .ok (.invokevirtual 255, 3) := by decide +kernel
theorem dX10_minute_56 : decode cX10_minute 56 = .ok (.iinc 2 1, 3) := by decide +kernel
theorem dX10_minute_59 : decode cX10_minute 59 = .ok (.goto (-13), 3) := by decide +kernel
theorem dX10_minute_62 : decode cX10_minute 62 = .ok (.aload_n 0, 1) := by decide +kernel
theorem dX10_minute_63 : decode cX10_minute 63 = .ok (.getfield 7, 3) := by decide +kernel
theorem dX10_minute_66 : decode cX10_minute 66 = .ok (.iconst 0, 1) := by decide +kernel
theorem dX10_minute_67 : decode cX10_minute 67 = .ok (.iaload, 1) := by decide +kernel
theorem dX10_minute_68 : decode cX10_minute 68 = .ok (.ireturn, 1) := by decide +kernel
theorem dX10_route_0 : decode cX10_route 0 = .ok (.aload_n 0, 1) := by decide +kernel
theorem dX10_route_1 : decode cX10_route 1 = .ok (.iload_n 1, 1) := by decide +kernel
theorem dX10_route_2 : decode cX10_route 2 = .ok (.invokevirtual 100, 3) := by decide +kernel
theorem dX10_route_5 : decode cX10_route 5 = .ok (.ifCond .ne 6, 3) := by decide +kernel
theorem dX10_route_8 : decode cX10_route 8 = .ok (.ldc 219, 2) := by decide +kernel
theorem dX10_route_10 : decode cX10_route 10 = .ok (.ireturn, 1) := by decide +kernel
theorem dX10_route_11 : decode cX10_route 11 = .ok (.iload_n 2, 1) := by decide +kernel
theorem dX10_route_12 : decode cX10_route 12 = .ok (.i2l, 1) := by decide +kernel
theorem dX10_route_13 : decode cX10_route 13 = .ok (.lconst 0, 1) := by decide +kernel
theorem dX10_route_14 : decode cX10_route 14 = .ok (.ldc2_w 259, 3) := by decide +kernel
theorem dX10_route_17 : decode cX10_route 17 = .ok (.invokestatic 93, 3) := by decide +kernel
theorem dX10_route_20 : decode cX10_route 20 = .ok (.ifCond .ne 6, 3) := by decide +kernel
theorem dX10_route_23 : decode cX10_route 23 = .ok (.ldc 109, 2) := by decide +kernel
theorem dX10_route_25 : decode cX10_route 25 = .ok (.ireturn, 1) := by decide +kernel
theorem dX10_route_26 : decode cX10_route 26 = .ok (.iconst 0, 1) := by decide +kernel
theorem dX10_route_27 : decode cX10_route 27 = .ok (.istore_n 3, 1) := by decide +kernel
theorem dX10_route_28 : decode cX10_route 28 = .ok (.iload_n 2, 1) := by decide +kernel
theorem dX10_route_29 : decode cX10_route 29 = .ok (.istore 4, 2) := by decide +kernel
theorem dX10_route_31 : decode cX10_route 31 = .ok (.iload 4, 2) := by decide +kernel
theorem dX10_route_33 : decode cX10_route 33 = .ok (.ifCond .le 16, 3) := by decide +kernel
theorem dX10_route_36 : decode cX10_route 36 = .ok (.iinc 3 1, 3) := by decide +kernel
theorem dX10_route_39 : decode cX10_route 39 = .ok (.iload 4, 2) := by decide +kernel
theorem dX10_route_41 : decode cX10_route 41 = .ok (.bipush 10, 2) := by decide +kernel
theorem dX10_route_43 : decode cX10_route 43 = .ok (.idiv, 1) := by decide +kernel
theorem dX10_route_44 : decode cX10_route 44 = .ok (.istore 4, 2) := by decide +kernel
theorem dX10_route_46 : decode cX10_route 46 = .ok (.goto (-15), 3) := by decide +kernel
theorem dX10_route_49 : decode cX10_route 49 = .ok (.iload_n 2, 1) := by decide +kernel
theorem dX10_route_50 : decode cX10_route 50 = .ok (.istore 4, 2) := by decide +kernel
theorem dX10_route_52 : decode cX10_route 52 = .ok (.iload_n 3, 1) := by decide +kernel
theorem dX10_route_53 : decode cX10_route 53 = .ok (.iconst 1, 1) := by decide +kernel
theorem dX10_route_54 : decode cX10_route 54 = .ok (.isub, 1) := by decide +kernel
theorem dX10_route_55 : decode cX10_route 55 = .ok (.istore 5, 2) := by decide +kernel
theorem dX10_route_57 : decode cX10_route 57 = .ok (.iload 5, 2) := by decide +kernel
theorem dX10_route_59 : decode cX10_route 59 = .ok (.ifCond .lt 47, 3) := by decide +kernel
theorem dX10_route_62 : decode cX10_route 62 = .ok (.aload_n 0, 1) := by decide +kernel
theorem dX10_route_63 : decode cX10_route 63 = .ok (.getfield 60, 3) := by decide +kernel
theorem dX10_route_66 : decode cX10_route 66 = .ok (.iload 5, 2) := by decide +kernel
theorem dX10_route_68 : decode cX10_route 68 = .ok (.iload 4, 2) := by decide +kernel
theorem dX10_route_70 : decode cX10_route 70 = .ok (.bipush 10, 2) := by decide +kernel
theorem dX10_route_72 : decode cX10_route 72 = .ok (.irem, 1) := by decide +kernel
theorem dX10_route_73 : decode cX10_route 73 = .ok (.iconst 1, 1) := by decide +kernel
theorem dX10_route_74 : decode cX10_route 74 = .ok (.isub, 1) := by decide +kernel
theorem dX10_route_75 : decode cX10_route 75 = .ok (.iastore, 1) := by decide +kernel
theorem dX10_route_76 : decode cX10_route 76 = .ok (.iload 4, 2) := by decide +kernel
theorem dX10_route_78 : decode cX10_route 78 = .ok (.bipush 10, 2) := by decide +kernel
theorem dX10_route_80 : decode cX10_route 80 = .ok (.idiv, 1) := by decide +kernel
theorem dX10_route_81 : decode cX10_route 81 = .ok (.istore 4, 2) := by decide +kernel
theorem dX10_route_83 : decode cX10_route 83 = .ok (.aload_n 0, 1) := by decide +kernel
theorem dX10_route_84 : decode cX10_route 84 = .ok (.aload_n 0, 1) := by decide +kernel
theorem dX10_route_85 : decode cX10_route 85 = .ok (.getfield 60, 3) := by decide +kernel
theorem dX10_route_88 : decode cX10_route 88 = .ok (.iload 5, 2) := by decide +kernel
theorem dX10_route_90 : decode cX10_route 90 = .ok (.iaload, 1) := by decide +kernel
theorem dX10_route_91 : decode cX10_route 91 = .ok (.invokevirtual 216, 3) := by decide +kernel
theorem dX10_route_94 : decode cX10_route 94 = .ok (.ifCond .ne 6, 3) := by decide +kernel
theorem dX10_route_97 : decode cX10_route 97 = .ok (.ldc 109, 2) := by decide +kernel
theorem dX10_route_99 : decode cX10_route 99 = .ok (.ireturn, 1) := by decide +kernel
theorem dX10_route_100 : decode cX10_route 100 = .ok (.iinc 5 (-1), 3) := by decide +kernel
theorem dX10_route_103 : decode cX10_route 103 = .ok (.goto (-46), 3) := by decide +kernel
theorem dX10_route_106 : decode cX10_route 106 = .ok (.aload_n 0, 1) := by decide +kernel
theorem dX10_route_107 : decode cX10_route 107 = .ok (.getfield 7, 3) := by decide +kernel
theorem dX10_route_110 : decode cX10_route 110 = .ok (.iconst 2, 1) := by decide +kernel
theorem dX10_route_111 : decode cX10_route 111 = .ok (.iload_n 1, 1) := by decide +kernel
theorem dX10_route_112 : decode cX10_route 112 = .ok (.iadd, 1) := by decide +kernel
theorem dX10_route_113 : decode cX10_route 113 = .ok (.iaload, 1) := by decide +kernel
theorem dX10_route_114 : decode cX10_route 114 = .ok (.istore 5, 2) := by decide +kernel
theorem dX10_route_116 : decode cX10_route 116 = .ok (.iconst 0, 1) := by decide +kernel
theorem dX10_route_117 : decode cX10_route 117 = .ok (.istore 6, 2) := by decide +kernel
theorem dX10_route_119 : decode cX10_route 119 = .ok (.iload 6, 2) := by decide +kernel
theorem dX10_route_121 : decode cX10_route 121 = .ok (.iload_n 3, 1) := by decide +kernel
theorem dX10_route_122 : decode cX10_route 122 = .ok (.if_icmp .ge 41, 3) := by decide +kernel
theorem dX10_route_125 : decode cX10_route 125 = .ok (.aload_n 0, 1) := by decide +kernel
theorem dX10_route_126 : decode cX10_route 126 = .ok (.getfield 17, 3) := by decide +kernel
theorem dX10_route_129 : decode cX10_route 129 = .ok (.iload 5, 2) := by decide +kernel
theorem dX10_route_131 : decode cX10_route 131 = .ok (.iaload, 1) := by decide +kernel
theorem dX10_route_132 : decode cX10_route 132 = .ok (.aload_n 0, 1) := by decide +kernel
theorem dX10_route_133 : decode cX10_route 133 = .ok (.getfield 60, 3) := by decide +kernel
theorem dX10_route_136 : decode cX10_route 136 = .ok (.iload 6, 2) := by decide +kernel
theorem dX10_route_138 : decode cX10_route 138 = .ok (.iaload, 1) := by decide +kernel
theorem dX10_route_139 : decode cX10_route 139 = .ok (.invokestatic 151, 3) := by decide +kernel
theorem dX10_route_142 : decode cX10_route 142 = .ok (.ifCond .ne 6, 3) := by decide +kernel
theorem dX10_route_145 : decode cX10_route 145 = .ok (.ldc 249, 2) := by decide +kernel
theorem dX10_route_147 : decode cX10_route 147 = .ok (.ireturn, 1) := by decide +kernel
theorem dX10_route_148 : decode cX10_route 148 = .ok (.aload_n 0, 1) := by decide +kernel
theorem dX10_route_149 : decode cX10_route 149 = .ok (.getfield 60, 3) := by decide +kernel
theorem dX10_route_152 : decode cX10_route 152 = .ok (.iload 6, 2) := by decide +kernel
theorem dX10_route_154 : decode cX10_route 154 = .ok (.iaload, 1) := by decide +kernel
theorem dX10_route_155 : decode cX10_route 155 = .ok (.istore 5, 2) := by decide +kernel
theorem dX10_route_157 : decode cX10_route 157 = .ok (.iinc 6 1, 3) := by decide +kernel
theorem dX10_route_160 : decode cX10_route 160 = .ok (.goto (-41), 3) := by decide +kernel
theorem dX10_route_163 : decode cX10_route 163 = .ok (.aload_n 0, 1) := by decide +kernel
theorem dX10_route_164 : decode cX10_route 164 = .ok (.invokevirtual 252, 3) := by decide +kernel
theorem dX10_route_167 : decode cX10_route 167 = .ok (.iconst 0, 1) := by decide +kernel
theorem dX10_route_168 : decode cX10_route 168 = .ok (.istore 6, 2) := by decide +kernel
theorem dX10_route_170 : decode cX10_route 170 = .ok (.iload 6, 2) := by decide +kernel
theorem dX10_route_172 : decode cX10_route 172 = .ok (.iload_n 3, 1) := by decide +kernel
theorem dX10_route_173 : decode cX10_route 173 = .ok (.if_icmp .ge 31, 3) := by decide +kernel
theorem dX10_route_176 : decode cX10_route 176 = .ok (.aload_n 0, 1) := by decide +kernel
theorem dX10_route_177 : decode cX10_route 177 = .ok (.getfield 7, 3) := by decide +kernel
theorem dX10_route_180 : decode cX10_route 180 = .ok (.bipush 10, 2) := by decide +kernel
theorem dX10_route_182 : decode cX10_route 182 = .ok (.bipush 9, 2) := by decide +kernel
theorem dX10_route_184 : decode cX10_route 184 = .ok (.iload_n 1, 1) := by decide +kernel
theorem dX10_route_185 : decode cX10_route 185 = .ok (.imul, 1) := by decide +kernel
theorem dX10_route_186 : decode cX10_route 186 = .ok (.iadd, 1) := by decide +kernel
theorem dX10_route_187 : decode cX10_route 187 = .ok (.iload 6, 2) := by decide +kernel
theorem dX10_route_189 : decode cX10_route 189 = .ok (.iadd, 1) := by decide +kernel
theorem dX10_route_190 : decode cX10_route 190 = .ok (.aload_n 0, 1) := by decide +kernel
theorem dX10_route_191 : decode cX10_route 191 = .ok (.getfield 60, 3) := by decide +kernel
theorem dX10_route_194 : decode cX10_route 194 = .ok (.iload 6, 2) := by decide +kernel
theorem dX10_route_196 : decode cX10_route 196 = .ok (.iaload, 1) := by decide +kernel
theorem dX10_route_197 : decode cX10_route 197 = .ok (.iastore, 1) := by decide +kernel
theorem dX10_route_198 : decode cX10_route 198 = .ok (.iinc 6 1, 3) := by decide +kernel
theorem dX10_route_201 : decode cX10_route 201 = .ok (.goto (-31), 3) := by decide +kernel
theorem dX10_route_204 : decode cX10_route 204 = .ok (.aload_n 0, 1) := by decide +kernel
theorem dX10_route_205 : decode cX10_route 205 = .ok (.getfield 7, 3) := by decide +kernel
theorem dX10_route_208 : decode cX10_route 208 = .ok (.bipush 6, 2) := by decide +kernel
theorem dX10_route_210 : decode cX10_route 210 = .ok (.iload_n 1, 1) := by decide +kernel
theorem dX10_route_211 : decode cX10_route 211 = .ok (.iadd, 1) := by decide +kernel
theorem dX10_route_212 : decode cX10_route 212 = .ok (.iload_n 3, 1) := by decide +kernel
theorem dX10_route_213 : decode cX10_route 213 = .ok (.iastore, 1) := by decide +kernel
theorem dX10_route_214 : decode cX10_route 214 = .ok (.iload_n 3, 1) := by decide +kernel
theorem dX10_route_215 : decode cX10_route 215 = .ok (.ireturn, 1) := by decide +kernel
theorem dX10_lay_0 : decode cX10_lay 0 = .ok (.aload_n 0, 1) := by decide +kernel
theorem dX10_lay_1 : decode cX10_lay 1 = .ok (.iload_n 1, 1) := by decide +kernel
theorem dX10_lay_2 : decode cX10_lay 2 = .ok (.invokevirtual 229, 3) := by decide +kernel
theorem dX10_lay_5 : decode cX10_lay 5 = .ok (.ifCond .eq 11, 3) := by decide +kernel
theorem dX10_lay_8 : decode cX10_lay 8 = .ok (.aload_n 0, 1) := by decide +kernel
theorem dX10_lay_9 : decode cX10_lay 9 = .ok (.iload_n 2, 1) := by decide +kernel
theorem dX10_lay_10 : decode cX10_lay 10 = .ok (.invokevirtual 100, 3) := by decide +kernel
theorem dX10_lay_13 : decode cX10_lay 13 = .ok (.ifCond .ne 6, 3) := by decide +kernel
theorem dX10_lay_16 : decode cX10_lay 16 = .ok (.ldc 219, 2) := by decide +kernel
theorem dX10_lay_18 : decode cX10_lay 18 = .ok (.ireturn, 1) := by decide +kernel
theorem dX10_lay_19 : decode cX10_lay 19 = .ok (.iload_n 3, 1) := by decide +kernel
theorem dX10_lay_20 : decode cX10_lay 20 = .ok (.i2l, 1) := by decide +kernel
theorem dX10_lay_21 : decode cX10_lay 21 = .ok (.lconst 0, 1) := by decide +kernel
theorem dX10_lay_22 : decode cX10_lay 22 = .ok (.lconst 1, 1) := by decide +kernel
theorem dX10_lay_23 : decode cX10_lay 23 = .ok (.invokestatic 93, 3) := by decide +kernel
theorem dX10_lay_26 : decode cX10_lay 26 = .ok (.ifCond .ne 6, 3) := by decide +kernel
theorem dX10_lay_29 : decode cX10_lay 29 = .ok (.ldc 109, 2) := by decide +kernel
theorem dX10_lay_31 : decode cX10_lay 31 = .ok (.ireturn, 1) := by decide +kernel
theorem dX10_lay_32 : decode cX10_lay 32 = .ok (.aload_n 0, 1) := by decide +kernel
theorem dX10_lay_33 : decode cX10_lay 33 = .ok (.iload_n 1, 1) := by decide +kernel
theorem dX10_lay_34 : decode cX10_lay 34 = .ok (.invokevirtual 232, 3) := by decide +kernel
theorem dX10_lay_37 : decode cX10_lay 37 = .ok (.istore 4, 2) := by decide +kernel
theorem dX10_lay_39 : decode cX10_lay 39 = .ok (.aload_n 0, 1) := by decide +kernel
theorem dX10_lay_40 : decode cX10_lay 40 = .ok (.getfield 7, 3) := by decide +kernel
theorem dX10_lay_43 : decode cX10_lay 43 = .ok (.bipush 50, 2) := by decide +kernel
theorem dX10_lay_45 : decode cX10_lay 45 = .ok (.iload_n 1, 1) := by decide +kernel
theorem dX10_lay_46 : decode cX10_lay 46 = .ok (.iadd, 1) := by decide +kernel
theorem dX10_lay_47 : decode cX10_lay 47 = .ok (.iaload, 1) := by decide +kernel
theorem dX10_lay_48 : decode cX10_lay 48 = .ok (.iconst (-1), 1) := by decide +kernel
theorem dX10_lay_49 : decode cX10_lay 49 = .ok (.if_icmp .eq 35, 3) := by decide +kernel
theorem dX10_lay_52 : decode cX10_lay 52 = .ok (.iload 4, 2) := by decide +kernel
theorem dX10_lay_54 : decode cX10_lay 54 = .ok (.iconst (-1), 1) := by decide +kernel
theorem dX10_lay_55 : decode cX10_lay 55 = .ok (.if_icmp .eq 33, 3) := by decide +kernel
theorem dX10_lay_58 : decode cX10_lay 58 = .ok (.iload 4, 2) := by decide +kernel
theorem dX10_lay_60 : decode cX10_lay 60 = .ok (.iload_n 2, 1) := by decide +kernel
theorem dX10_lay_61 : decode cX10_lay 61 = .ok (.if_icmp .eq 27, 3) := by decide +kernel
theorem dX10_lay_64 : decode cX10_lay 64 = .ok (.aload_n 0, 1) := by decide +kernel
theorem dX10_lay_65 : decode cX10_lay 65 = .ok (.getfield 7, 3) := by decide +kernel
theorem dX10_lay_68 : decode cX10_lay 68 = .ok (.iconst 2, 1) := by decide +kernel
theorem dX10_lay_69 : decode cX10_lay 69 = .ok (.iload 4, 2) := by decide +kernel
theorem dX10_lay_71 : decode cX10_lay 71 = .ok (.iadd, 1) := by decide +kernel
theorem dX10_lay_72 : decode cX10_lay 72 = .ok (.iaload, 1) := by decide +kernel
theorem dX10_lay_73 : decode cX10_lay 73 = .ok (.aload_n 0, 1) := by decide +kernel
theorem dX10_lay_74 : decode cX10_lay 74 = .ok (.getfield 7, 3) := by decide +kernel
theorem dX10_lay_77 : decode cX10_lay 77 = .ok (.iconst 2, 1) := by decide +kernel
theorem dX10_lay_78 : decode cX10_lay 78 = .ok (.iload_n 2, 1) := by decide +kernel
theorem dX10_lay_79 : decode cX10_lay 79 = .ok (.iadd, 1) := by decide +kernel
theorem dX10_lay_80 : decode cX10_lay 80 = .ok (.iaload, 1) := by decide +kernel
theorem dX10_lay_81 : decode cX10_lay 81 = .ok (.if_icmp .ne 7, 3) := by decide +kernel
theorem dX10_lay_84 : decode cX10_lay 84 = .ok (.iconst 1, 1) := by decide +kernel
theorem dX10_lay_85 : decode cX10_lay 85 = .ok (.goto 4, 3) := by decide +kernel
theorem dX10_lay_88 : decode cX10_lay 88 = .ok (.iconst 0, 1) := by decide +kernel
theorem dX10_lay_89 : decode cX10_lay 89 = .ok (.istore 5, 2) := by decide +kernel
theorem dX10_lay_91 : decode cX10_lay 91 = .ok (.aload_n 0, 1) := by decide +kernel
theorem dX10_lay_92 : decode cX10_lay 92 = .ok (.aload_n 0, 1) := by decide +kernel
theorem dX10_lay_93 : decode cX10_lay 93 = .ok (.iconst 0, 1) := by decide +kernel
theorem dX10_lay_94 : decode cX10_lay 94 = .ok (.iload_n 2, 1) := by decide +kernel
theorem dX10_lay_95 : decode cX10_lay 95 = .ok (.invokevirtual 223, 3) := by decide +kernel
theorem dX10_lay_98 : decode cX10_lay 98 = .ok (.invokevirtual 220, 3) := by decide +kernel
theorem dX10_lay_101 : decode cX10_lay 101 = .ok (.aload_n 0, 1) := by decide +kernel
theorem dX10_lay_102 : decode cX10_lay 102 = .ok (.getfield 23, 3) := by decide +kernel
theorem dX10_lay_105 : decode cX10_lay 105 = .ok (.iload_n 1, 1) := by decide +kernel
theorem dX10_lay_106 : decode cX10_lay 106 = .ok (.iaload, 1) := by decide +kernel
theorem dX10_lay_107 : decode cX10_lay 107 = .ok (.iadd, 1) := by decide +kernel
theorem dX10_lay_108 : decode cX10_lay 108 = .ok (.istore 6, 2) := by decide +kernel
theorem dX10_lay_110 : decode cX10_lay 110 = .ok (.iload 5, 2) := by decide +kernel
theorem dX10_lay_112 : decode cX10_lay 112 = .ok (.ifCond .eq 14, 3) := by decide +kernel
theorem dX10_lay_115 : decode cX10_lay 115 = .ok (.iload 6, 2) := by decide +kernel
theorem dX10_lay_117 : decode cX10_lay 117 = .ok (.aload_n 0, 1) := by decide +kernel
theorem dX10_lay_118 : decode cX10_lay 118 = .ok (.getfield 20, 3) := by decide +kernel
theorem dX10_lay_121 : decode cX10_lay 121 = .ok (.iload_n 2, 1) := by decide +kernel
theorem dX10_lay_122 : decode cX10_lay 122 = .ok (.iaload, 1) := by decide +kernel
theorem dX10_lay_123 : decode cX10_lay 123 = .ok (.if_icmp .le 6, 3) := by decide +kernel
theorem dX10_lay_126 : decode cX10_lay 126 = .ok (.ldc 249, 2) := by decide +kernel
theorem dX10_lay_128 : decode cX10_lay 128 = .ok (.ireturn, 1) := by decide +kernel
theorem dX10_lay_129 : decode cX10_lay 129 = .ok (.aload_n 0, 1) := by decide +kernel
theorem dX10_lay_130 : decode cX10_lay 130 = .ok (.invokevirtual 252, 3) := by decide +kernel
theorem dX10_lay_133 : decode cX10_lay 133 = .ok (.aload_n 0, 1) := by decide +kernel
theorem dX10_lay_134 : decode cX10_lay 134 = .ok (.getfield 7, 3) := by decide +kernel
theorem dX10_lay_137 : decode cX10_lay 137 = .ok (.bipush 50, 2) := by decide +kernel
theorem dX10_lay_139 : decode cX10_lay 139 = .ok (.iload_n 1, 1) := by decide +kernel
theorem dX10_lay_140 : decode cX10_lay 140 = .ok (.iadd, 1) := by decide +kernel
theorem dX10_lay_141 : decode cX10_lay 141 = .ok (.iconst 2, 1) := by decide +kernel
theorem dX10_lay_142 : decode cX10_lay 142 = .ok (.iload_n 2, 1) := by decide +kernel
theorem dX10_lay_143 : decode cX10_lay 143 = .ok (.imul, 1) := by decide +kernel
theorem dX10_lay_144 : decode cX10_lay 144 = .ok (.iload_n 3, 1) := by decide +kernel
theorem dX10_lay_145 : decode cX10_lay 145 = .ok (.iadd, 1) := by decide +kernel
theorem dX10_lay_146 : decode cX10_lay 146 = .ok (.iastore, 1) := by decide +kernel
theorem dX10_lay_147 : decode cX10_lay 147 = .ok (.iload 6, 2) := by decide +kernel
theorem dX10_lay_149 : decode cX10_lay 149 = .ok (.ireturn, 1) := by decide +kernel
theorem dX10_takeOff_0 : decode cX10_takeOff 0 = .ok (.aload_n 0, 1) := by decide +kernel
theorem dX10_takeOff_1 : decode cX10_takeOff 1 = .ok (.iload_n 1, 1) := by decide +kernel
theorem dX10_takeOff_2 : decode cX10_takeOff 2 = .ok (.invokevirtual 229, 3) := by decide +kernel
theorem dX10_takeOff_5 : decode cX10_takeOff 5 = .ok (.ifCond .ne 6, 3) := by decide +kernel
theorem dX10_takeOff_8 : decode cX10_takeOff 8 = .ok (.ldc 219, 2) := by decide +kernel
theorem dX10_takeOff_10 : decode cX10_takeOff 10 = .ok (.ireturn, 1) := by decide +kernel
theorem dX10_takeOff_11 : decode cX10_takeOff 11 = .ok (.aload_n 0, 1) := by decide +kernel
theorem dX10_takeOff_12 : decode cX10_takeOff 12 = .ok (.iload_n 1, 1) := by decide +kernel
theorem dX10_takeOff_13 : decode cX10_takeOff 13 = .ok (.invokevirtual 232, 3) := by decide +kernel
theorem dX10_takeOff_16 : decode cX10_takeOff 16 = .ok (.istore_n 2, 1) := by decide +kernel
theorem dX10_takeOff_17 : decode cX10_takeOff 17 = .ok (.iload_n 2, 1) := by decide +kernel
theorem dX10_takeOff_18 : decode cX10_takeOff 18 = .ok (.iconst (-1), 1) := by decide +kernel
theorem dX10_takeOff_19 : decode cX10_takeOff 19 = .ok (.if_icmp .ne 6, 3) := by decide +kernel
theorem dX10_takeOff_22 : decode cX10_takeOff 22 = .ok (.ldc 249, 2) := by decide +kernel
theorem dX10_takeOff_24 : decode cX10_takeOff 24 = .ok (.ireturn, 1) := by decide +kernel
theorem dX10_takeOff_25 : decode cX10_takeOff 25 = .ok (.aload_n 0, 1) := by decide +kernel
theorem dX10_takeOff_26 : decode cX10_takeOff 26 = .ok (.invokevirtual 252, 3) := by decide +kernel
theorem dX10_takeOff_29 : decode cX10_takeOff 29 = .ok (.aload_n 0, 1) := by decide +kernel
theorem dX10_takeOff_30 : decode cX10_takeOff 30 = .ok (.getfield 7, 3) := by decide +kernel
theorem dX10_takeOff_33 : decode cX10_takeOff 33 = .ok (.bipush 50, 2) := by decide +kernel
theorem dX10_takeOff_35 : decode cX10_takeOff 35 = .ok (.iload_n 1, 1) := by decide +kernel
theorem dX10_takeOff_36 : decode cX10_takeOff 36 = .ok (.iadd, 1) := by decide +kernel
theorem dX10_takeOff_37 : decode cX10_takeOff 37 = .ok (.iconst (-1), 1) := by decide +kernel
theorem dX10_takeOff_38 : decode cX10_takeOff 38 = .ok (.iastore, 1) := by decide +kernel
theorem dX10_takeOff_39 : decode cX10_takeOff 39 = .ok (.iload_n 2, 1) := by decide +kernel
theorem dX10_takeOff_40 : decode cX10_takeOff 40 = .ok (.ireturn, 1) := by decide +kernel
theorem dX10_treaty_0 : decode cX10_treaty 0 = .ok (.aload_n 0, 1) := by decide +kernel
theorem dX10_treaty_1 : decode cX10_treaty 1 = .ok (.iload_n 1, 1) := by decide +kernel
theorem dX10_treaty_2 : decode cX10_treaty 2 = .ok (.iload_n 2, 1) := by decide +kernel
theorem dX10_treaty_3 : decode cX10_treaty 3 = .ok (.invokevirtual 261, 3) := by decide +kernel
theorem dX10_treaty_6 : decode cX10_treaty 6 = .ok (.ifCond .ne 6, 3) := by decide +kernel
theorem dX10_treaty_9 : decode cX10_treaty 9 = .ok (.ldc 219, 2) := by decide +kernel
theorem dX10_treaty_11 : decode cX10_treaty 11 = .ok (.ireturn, 1) := by decide +kernel
theorem dX10_treaty_12 : decode cX10_treaty 12 = .ok (.aload_n 0, 1) := by decide +kernel
theorem dX10_treaty_13 : decode cX10_treaty 13 = .ok (.invokevirtual 252, 3) := by decide +kernel
theorem dX10_treaty_16 : decode cX10_treaty 16 = .ok (.aload_n 0, 1) := by decide +kernel
theorem dX10_treaty_17 : decode cX10_treaty 17 = .ok (.getfield 7, 3) := by decide +kernel
theorem dX10_treaty_20 : decode cX10_treaty 20 = .ok (.bipush 46, 2) := by decide +kernel
theorem dX10_treaty_22 : decode cX10_treaty 22 = .ok (.iload_n 1, 1) := by decide +kernel
theorem dX10_treaty_23 : decode cX10_treaty 23 = .ok (.iadd, 1) := by decide +kernel
theorem dX10_treaty_24 : decode cX10_treaty 24 = .ok (.iaload, 1) := by decide +kernel
theorem dX10_treaty_25 : decode cX10_treaty 25 = .ok (.iload_n 2, 1) := by decide +kernel
theorem dX10_treaty_26 : decode cX10_treaty 26 = .ok (.ishr, 1) := by decide +kernel
theorem dX10_treaty_27 : decode cX10_treaty 27 = .ok (.iconst 1, 1) := by decide +kernel
theorem dX10_treaty_28 : decode cX10_treaty 28 = .ok (.iand, 1) := by decide +kernel
theorem dX10_treaty_29 : decode cX10_treaty 29 = .ok (.istore 4, 2) := by decide +kernel
theorem dX10_treaty_31 : decode cX10_treaty 31 = .ok (.aload_n 0, 1) := by decide +kernel
theorem dX10_treaty_32 : decode cX10_treaty 32 = .ok (.getfield 7, 3) := by decide +kernel
theorem dX10_treaty_35 : decode cX10_treaty 35 = .ok (.bipush 46, 2) := by decide +kernel
theorem dX10_treaty_37 : decode cX10_treaty 37 = .ok (.iload_n 1, 1) := by decide +kernel
theorem dX10_treaty_38 : decode cX10_treaty 38 = .ok (.iadd, 1) := by decide +kernel
theorem dX10_treaty_39 : decode cX10_treaty 39 = .ok (.iload_n 3, 1) := by decide +kernel
theorem dX10_treaty_40 : decode cX10_treaty 40 = .ok (.ifCond .eq 19, 3) := by decide +kernel
theorem dX10_treaty_43 : decode cX10_treaty 43 = .ok (.aload_n 0, 1) := by decide +kernel
theorem dX10_treaty_44 : decode cX10_treaty 44 = .ok (.getfield 7, 3) := by decide +kernel
theorem dX10_treaty_47 : decode cX10_treaty 47 = .ok (.bipush 46, 2) := by decide +kernel
theorem dX10_treaty_49 : decode cX10_treaty 49 = .ok (.iload_n 1, 1) := by decide +kernel
theorem dX10_treaty_50 : decode cX10_treaty 50 = .ok (.iadd, 1) := by decide +kernel
theorem dX10_treaty_51 : decode cX10_treaty 51 = .ok (.iaload, 1) := by decide +kernel
theorem dX10_treaty_52 : decode cX10_treaty 52 = .ok (.iconst 1, 1) := by decide +kernel
theorem dX10_treaty_53 : decode cX10_treaty 53 = .ok (.iload_n 2, 1) := by decide +kernel
theorem dX10_treaty_54 : decode cX10_treaty 54 = .ok (.ishl, 1) := by decide +kernel
theorem dX10_treaty_55 : decode cX10_treaty 55 = .ok (.ior, 1) := by decide +kernel
theorem dX10_treaty_56 : decode cX10_treaty 56 = .ok (.goto 18, 3) := by decide +kernel
theorem dX10_treaty_59 : decode cX10_treaty 59 = .ok (.aload_n 0, 1) := by decide +kernel
theorem dX10_treaty_60 : decode cX10_treaty 60 = .ok (.getfield 7, 3) := by decide +kernel
theorem dX10_treaty_63 : decode cX10_treaty 63 = .ok (.bipush 46, 2) := by decide +kernel
theorem dX10_treaty_65 : decode cX10_treaty 65 = .ok (.iload_n 1, 1) := by decide +kernel
theorem dX10_treaty_66 : decode cX10_treaty 66 = .ok (.iadd, 1) := by decide +kernel
theorem dX10_treaty_67 : decode cX10_treaty 67 = .ok (.iaload, 1) := by decide +kernel
theorem dX10_treaty_68 : decode cX10_treaty 68 = .ok (.iconst 1, 1) := by decide +kernel
theorem dX10_treaty_69 : decode cX10_treaty 69 = .ok (.iload_n 2, 1) := by decide +kernel
theorem dX10_treaty_70 : decode cX10_treaty 70 = .ok (.ishl, 1) := by decide +kernel
theorem dX10_treaty_71 : decode cX10_treaty 71 = .ok (.iconst (-1), 1) := by decide +kernel
theorem dX10_treaty_72 : decode cX10_treaty 72 = .ok (.ixor, 1) := by decide +kernel
theorem dX10_treaty_73 : decode cX10_treaty 73 = .ok (.iand, 1) := by decide +kernel
theorem dX10_treaty_74 : decode cX10_treaty 74 = .ok (.iastore, 1) := by decide +kernel
theorem dX10_treaty_75 : decode cX10_treaty 75 = .ok (.aload_n 0, 1) := by decide +kernel
theorem dX10_treaty_76 : decode cX10_treaty 76 = .ok (.getfield 7, 3) := by decide +kernel
theorem dX10_treaty_79 : decode cX10_treaty 79 = .ok (.bipush 46, 2) := by decide +kernel
theorem dX10_treaty_81 : decode cX10_treaty 81 = .ok (.iload_n 2, 1) := by decide +kernel
theorem dX10_treaty_82 : decode cX10_treaty 82 = .ok (.iadd, 1) := by decide +kernel
theorem dX10_treaty_83 : decode cX10_treaty 83 = .ok (.iload_n 3, 1) := by decide +kernel
theorem dX10_treaty_84 : decode cX10_treaty 84 = .ok (.ifCond .eq 19, 3) := by decide +kernel
theorem dX10_treaty_87 : decode cX10_treaty 87 = .ok (.aload_n 0, 1) := by decide +kernel
theorem dX10_treaty_88 : decode cX10_treaty 88 = .ok (.getfield 7, 3) := by decide +kernel
theorem dX10_treaty_91 : decode cX10_treaty 91 = .ok (.bipush 46, 2) := by decide +kernel
theorem dX10_treaty_93 : decode cX10_treaty 93 = .ok (.iload_n 2, 1) := by decide +kernel
theorem dX10_treaty_94 : decode cX10_treaty 94 = .ok (.iadd, 1) := by decide +kernel
theorem dX10_treaty_95 : decode cX10_treaty 95 = .ok (.iaload, 1) := by decide +kernel
theorem dX10_treaty_96 : decode cX10_treaty 96 = .ok (.iconst 1, 1) := by decide +kernel
theorem dX10_treaty_97 : decode cX10_treaty 97 = .ok (.iload_n 1, 1) := by decide +kernel
theorem dX10_treaty_98 : decode cX10_treaty 98 = .ok (.ishl, 1) := by decide +kernel
theorem dX10_treaty_99 : decode cX10_treaty 99 = .ok (.ior, 1) := by decide +kernel
theorem dX10_treaty_100 : decode cX10_treaty 100 = .ok (.goto 18, 3) := by decide +kernel
theorem dX10_treaty_103 : decode cX10_treaty 103 = .ok (.aload_n 0, 1) := by decide +kernel
theorem dX10_treaty_104 : decode cX10_treaty 104 = .ok (.getfield 7, 3) := by decide +kernel
theorem dX10_treaty_107 : decode cX10_treaty 107 = .ok (.bipush 46, 2) := by decide +kernel
theorem dX10_treaty_109 : decode cX10_treaty 109 = .ok (.iload_n 2, 1) := by decide +kernel
theorem dX10_treaty_110 : decode cX10_treaty 110 = .ok (.iadd, 1) := by decide +kernel
theorem dX10_treaty_111 : decode cX10_treaty 111 = .ok (.iaload, 1) := by decide +kernel
theorem dX10_treaty_112 : decode cX10_treaty 112 = .ok (.iconst 1, 1) := by decide +kernel
theorem dX10_treaty_113 : decode cX10_treaty 113 = .ok (.iload_n 1, 1) := by decide +kernel
theorem dX10_treaty_114 : decode cX10_treaty 114 = .ok (.ishl, 1) := by decide +kernel
theorem dX10_treaty_115 : decode cX10_treaty 115 = .ok (.iconst (-1), 1) := by decide +kernel
theorem dX10_treaty_116 : decode cX10_treaty 116 = .ok (.ixor, 1) := by decide +kernel
theorem dX10_treaty_117 : decode cX10_treaty 117 = .ok (.iand, 1) := by decide +kernel
theorem dX10_treaty_118 : decode cX10_treaty 118 = .ok (.iastore, 1) := by decide +kernel
theorem dX10_treaty_119 : decode cX10_treaty 119 = .ok (.iload 4, 2) := by decide +kernel
theorem dX10_treaty_121 : decode cX10_treaty 121 = .ok (.ireturn, 1) := by decide +kernel
theorem dX10_draw_0 : decode cX10_draw 0 = .ok (.aload_n 0, 1) := by decide +kernel
theorem dX10_draw_1 : decode cX10_draw 1 = .ok (.getfield 7, 3) := by decide +kernel
theorem dX10_draw_4 : decode cX10_draw 4 = .ok (.bipush 58, 2) := by decide +kernel
theorem dX10_draw_6 : decode cX10_draw 6 = .ok (.aload_n 0, 1) := by decide +kernel
theorem dX10_draw_7 : decode cX10_draw 7 = .ok (.getfield 7, 3) := by decide +kernel
theorem dX10_draw_10 : decode cX10_draw 10 = .ok (.bipush 58, 2) := by decide +kernel
theorem dX10_draw_12 : decode cX10_draw 12 = .ok (.iaload, 1) := by decide +kernel
theorem dX10_draw_13 : decode cX10_draw 13 = .ok (.i2l, 1) := by decide +kernel
theorem dX10_draw_14 : decode cX10_draw 14 = .ok (.ldc2_w 264, 3) := by decide +kernel
theorem dX10_draw_17 : decode cX10_draw 17 = .ok (.lmul, 1) := by decide +kernel
theorem dX10_draw_18 : decode cX10_draw 18 = .ok (.ldc2_w 266, 3) := by decide +kernel
theorem dX10_draw_21 : decode cX10_draw 21 = .ok (.ladd, 1) := by decide +kernel
theorem dX10_draw_22 : decode cX10_draw 22 = .ok (.ldc2_w 268, 3) := by decide +kernel
theorem dX10_draw_25 : decode cX10_draw 25 = .ok (.lrem, 1) := by decide +kernel
theorem dX10_draw_26 : decode cX10_draw 26 = .ok (.l2i, 1) := by decide +kernel
theorem dX10_draw_27 : decode cX10_draw 27 = .ok (.iastore, 1) := by decide +kernel
theorem dX10_draw_28 : decode cX10_draw 28 = .ok (.aload_n 0, 1) := by decide +kernel
theorem dX10_draw_29 : decode cX10_draw 29 = .ok (.getfield 7, 3) := by decide +kernel
theorem dX10_draw_32 : decode cX10_draw 32 = .ok (.bipush 58, 2) := by decide +kernel
theorem dX10_draw_34 : decode cX10_draw 34 = .ok (.iaload, 1) := by decide +kernel
theorem dX10_draw_35 : decode cX10_draw 35 = .ok (.ldc_w 270, 3) := by decide +kernel
theorem dX10_draw_38 : decode cX10_draw 38 = .ok (.idiv, 1) := by decide +kernel
theorem dX10_draw_39 : decode cX10_draw 39 = .ok (.iload_n 1, 1) := by decide +kernel
theorem dX10_draw_40 : decode cX10_draw 40 = .ok (.irem, 1) := by decide +kernel
theorem dX10_draw_41 : decode cX10_draw 41 = .ok (.ireturn, 1) := by decide +kernel
theorem dX10_nth_0 : decode cX10_nth 0 = .ok (.iconst 0, 1) := by decide +kernel
theorem dX10_nth_1 : decode cX10_nth 1 = .ok (.istore_n 2, 1) := by decide +kernel
theorem dX10_nth_2 : decode cX10_nth 2 = .ok (.iconst 0, 1) := by decide +kernel
theorem dX10_nth_3 : decode cX10_nth 3 = .ok (.istore_n 3, 1) := by decide +kernel
theorem dX10_nth_4 : decode cX10_nth 4 = .ok (.iload_n 3, 1) := by decide +kernel
theorem dX10_nth_5 : decode cX10_nth 5 = .ok (.bipush 8, 2) := by decide +kernel
theorem dX10_nth_7 : decode cX10_nth 7 = .ok (.if_icmp .ge 27, 3) := by decide +kernel
theorem dX10_nth_10 : decode cX10_nth 10 = .ok (.iload_n 0, 1) := by decide +kernel
theorem dX10_nth_11 : decode cX10_nth 11 = .ok (.iload_n 3, 1) := by decide +kernel
theorem dX10_nth_12 : decode cX10_nth 12 = .ok (.invokestatic 151, 3) := by decide +kernel
theorem dX10_nth_15 : decode cX10_nth 15 = .ok (.ifCond .eq 13, 3) := by decide +kernel
theorem dX10_nth_18 : decode cX10_nth 18 = .ok (.iload_n 2, 1) := by decide +kernel
theorem dX10_nth_19 : decode cX10_nth 19 = .ok (.iload_n 1, 1) := by decide +kernel
theorem dX10_nth_20 : decode cX10_nth 20 = .ok (.if_icmp .ne 5, 3) := by decide +kernel
theorem dX10_nth_23 : decode cX10_nth 23 = .ok (.iload_n 3, 1) := by decide +kernel
theorem dX10_nth_24 : decode cX10_nth 24 = .ok (.ireturn, 1) := by decide +kernel
theorem dX10_nth_25 : decode cX10_nth 25 = .ok (.iinc 2 1, 3) := by decide +kernel
theorem dX10_nth_28 : decode cX10_nth 28 = .ok (.iinc 3 1, 3) := by decide +kernel
theorem dX10_nth_31 : decode cX10_nth 31 = .ok (.goto (-27), 3) := by decide +kernel
theorem dX10_nth_34 : decode cX10_nth 34 = .ok (.iconst (-1), 1) := by decide +kernel
theorem dX10_nth_35 : decode cX10_nth 35 = .ok (.ireturn, 1) := by decide +kernel
theorem dX10_drift_0 : decode cX10_drift 0 = .ok (.iload_n 1, 1) := by decide +kernel
theorem dX10_drift_1 : decode cX10_drift 1 = .ok (.i2l, 1) := by decide +kernel
theorem dX10_drift_2 : decode cX10_drift 2 = .ok (.lconst 1, 1) := by decide +kernel
theorem dX10_drift_3 : decode cX10_drift 3 = .ok (.ldc2_w 250, 3) := by decide +kernel
theorem dX10_drift_6 : decode cX10_drift 6 = .ok (.invokestatic 93, 3) := by decide +kernel
theorem dX10_drift_9 : decode cX10_drift 9 = .ok (.ifCond .ne 6, 3) := by decide +kernel
theorem dX10_drift_12 : decode cX10_drift 12 = .ok (.ldc 109, 2) := by decide +kernel
theorem dX10_drift_14 : decode cX10_drift 14 = .ok (.ireturn, 1) := by decide +kernel
theorem dX10_drift_15 : decode cX10_drift 15 = .ok (.aload_n 0, 1) := by decide +kernel
theorem dX10_drift_16 : decode cX10_drift 16 = .ok (.getfield 90, 3) := by decide +kernel
theorem dX10_drift_19 : decode cX10_drift 19 = .ok (.ifCond .ne 6, 3) := by decide +kernel
theorem dX10_drift_22 : decode cX10_drift 22 = .ok (.ldc 249, 2) := by decide +kernel
theorem dX10_drift_24 : decode cX10_drift 24 = .ok (.ireturn, 1) := by decide +kernel
theorem dX10_drift_25 : decode cX10_drift 25 = .ok (.aload_n 0, 1) := by decide +kernel
theorem dX10_drift_26 : decode cX10_drift 26 = .ok (.getfield 7, 3) := by decide +kernel
theorem dX10_drift_29 : decode cX10_drift 29 = .ok (.iconst 0, 1) := by decide +kernel
theorem dX10_drift_30 : decode cX10_drift 30 = .ok (.iaload, 1) := by decide +kernel
theorem dX10_drift_31 : decode cX10_drift 31 = .ok (.sipush 9000, 3) := by decide +kernel
theorem dX10_drift_34 : decode cX10_drift 34 = .ok (.if_icmp .le 6, 3) := by decide +kernel
theorem dX10_drift_37 : decode cX10_drift 37 = .ok (.ldc 113, 2) := by decide +kernel
theorem dX10_drift_39 : decode cX10_drift 39 = .ok (.ireturn, 1) := by decide +kernel
theorem dX10_drift_40 : decode cX10_drift 40 = .ok (.aload_n 0, 1) := by decide +kernel
theorem dX10_drift_41 : decode cX10_drift 41 = .ok (.invokevirtual 252, 3) := by decide +kernel
theorem dX10_drift_44 : decode cX10_drift 44 = .ok (.iconst 0, 1) := by decide +kernel
theorem dX10_drift_45 : decode cX10_drift 45 = .ok (.istore_n 2, 1) := by decide +kernel
theorem dX10_drift_46 : decode cX10_drift 46 = .ok (.iload_n 2, 1) := by decide +kernel
theorem dX10_drift_47 : decode cX10_drift 47 = .ok (.iload_n 1, 1) := by decide +kernel
theorem dX10_drift_48 : decode cX10_drift 48 = .ok (.if_icmp .ge 111, 3) := by decide +kernel
theorem dX10_drift_51 : decode cX10_drift 51 = .ok (.aload_n 0, 1) := by decide +kernel
theorem dX10_drift_52 : decode cX10_drift 52 = .ok (.getfield 97, 3) := by decide +kernel
theorem dX10_drift_55 : decode cX10_drift 55 = .ok (.ifCond .le 14, 3) := by decide +kernel
theorem dX10_drift_58 : decode cX10_drift 58 = .ok (.aload_n 0, 1) := by decide +kernel
theorem dX10_drift_59 : decode cX10_drift 59 = .ok (.aload_n 0, 1) := by decide +kernel
theorem dX10_drift_60 : decode cX10_drift 60 = .ok (.getfield 97, 3) := by decide +kernel
theorem dX10_drift_63 : decode cX10_drift 63 = .ok (.invokevirtual 271, 3) := by decide +kernel
theorem dX10_drift_66 : decode cX10_drift 66 = .ok (.goto 4, 3) := by decide +kernel
theorem dX10_drift_69 : decode cX10_drift 69 = .ok (.iconst (-1), 1) := by decide +kernel
theorem dX10_drift_70 : decode cX10_drift 70 = .ok (.istore_n 3, 1) := by decide +kernel
theorem dX10_drift_71 : decode cX10_drift 71 = .ok (.iload_n 3, 1) := by decide +kernel
theorem dX10_drift_72 : decode cX10_drift 72 = .ok (.iconst (-1), 1) := by decide +kernel
theorem dX10_drift_73 : decode cX10_drift 73 = .ok (.if_icmp .eq 15, 3) := by decide +kernel
theorem dX10_drift_76 : decode cX10_drift 76 = .ok (.aload_n 0, 1) := by decide +kernel
theorem dX10_drift_77 : decode cX10_drift 77 = .ok (.getfield 7, 3) := by decide +kernel
theorem dX10_drift_80 : decode cX10_drift 80 = .ok (.bipush 6, 2) := by decide +kernel
theorem dX10_drift_82 : decode cX10_drift 82 = .ok (.iload_n 3, 1) := by decide +kernel
theorem dX10_drift_83 : decode cX10_drift 83 = .ok (.iadd, 1) := by decide +kernel
theorem dX10_drift_84 : decode cX10_drift 84 = .ok (.iaload, 1) := by decide +kernel
theorem dX10_drift_85 : decode cX10_drift 85 = .ok (.ifCond .le 7, 3) := by decide +kernel
theorem dX10_drift_88 : decode cX10_drift 88 = .ok (.iconst 0, 1) := by decide +kernel
theorem dX10_drift_89 : decode cX10_drift 89 = .ok (.goto 16, 3) := by decide +kernel
theorem dX10_drift_92 : decode cX10_drift 92 = .ok (.aload_n 0, 1) := by decide +kernel
theorem dX10_drift_93 : decode cX10_drift 93 = .ok (.getfield 17, 3) := by decide +kernel
theorem dX10_drift_96 : decode cX10_drift 96 = .ok (.aload_n 0, 1) := by decide +kernel
theorem dX10_drift_97 : decode cX10_drift 97 = .ok (.getfield 7, 3) := by decide +kernel
theorem dX10_drift_100 : decode cX10_drift 100 = .ok (.iconst 2, 1) := by decide +kernel
theorem dX10_drift_101 : decode cX10_drift 101 = .ok (.iload_n 3, 1) := by decide +kernel
theorem dX10_drift_102 : decode cX10_drift 102 = .ok (.iadd, 1) := by decide +kernel
theorem dX10_drift_103 : decode cX10_drift 103 = .ok (.iaload, 1) := by decide +kernel
theorem dX10_drift_104 : decode cX10_drift 104 = .ok (.iaload, 1) := by decide +kernel
theorem dX10_drift_105 : decode cX10_drift 105 = .ok (.istore 4, 2) := by decide +kernel
theorem dX10_drift_107 : decode cX10_drift 107 = .ok (.iload 4, 2) := by decide +kernel
theorem dX10_drift_109 : decode cX10_drift 109 = .ok (.ifCond .eq 39, 3) := by decide +kernel
theorem dX10_drift_112 : decode cX10_drift 112 = .ok (.aload_n 0, 1) := by decide +kernel
theorem dX10_drift_113 : decode cX10_drift 113 = .ok (.getfield 7, 3) := by decide +kernel
theorem dX10_drift_116 : decode cX10_drift 116 = .ok (.bipush 10, 2) := by decide +kernel
theorem dX10_drift_118 : decode cX10_drift 118 = .ok (.bipush 9, 2) := by decide +kernel
theorem dX10_drift_120 : decode cX10_drift 120 = .ok (.iload_n 3, 1) := by decide +kernel
theorem dX10_drift_121 : decode cX10_drift 121 = .ok (.imul, 1) := by decide +kernel
theorem dX10_drift_122 : decode cX10_drift 122 = .ok (.iadd, 1) := by decide +kernel
theorem dX10_drift_123 : decode cX10_drift 123 = .ok (.iload 4, 2) := by decide +kernel
theorem dX10_drift_125 : decode cX10_drift 125 = .ok (.aload_n 0, 1) := by decide +kernel
theorem dX10_drift_126 : decode cX10_drift 126 = .ok (.iload 4, 2) := by decide +kernel
theorem dX10_drift_128 : decode cX10_drift 128 = .ok (.invokestatic 274, 3) := by decide +kernel
theorem dX10_drift_131 : decode cX10_drift 131 = .ok (.invokevirtual 271, 3) := by decide +kernel
theorem dX10_drift_134 : decode cX10_drift 134 = .ok (.invokestatic 277, 3) := by decide +kernel
theorem dX10_drift_137 : decode cX10_drift 137 = .ok (.iastore, 1) := by decide +kernel
theorem dX10_drift_138 : decode cX10_drift 138 = .ok (.aload_n 0, 1) := by decide +kernel
theorem dX10_drift_139 : decode cX10_drift 139 = .ok (.getfield 7, 3) := by decide +kernel
theorem dX10_drift_142 : decode cX10_drift 142 = .ok (.bipush 6, 2) := by decide +kernel
theorem dX10_drift_144 : decode cX10_drift 144 = .ok (.iload_n 3, 1) := by decide +kernel
theorem dX10_drift_145 : decode cX10_drift 145 = .ok (.iadd, 1) := by decide +kernel
theorem dX10_drift_146 : decode cX10_drift 146 = .ok (.iconst 1, 1) := by decide +kernel
theorem dX10_drift_147 : decode cX10_drift 147 = .ok (.iastore, 1) := by decide +kernel
theorem dX10_drift_148 : decode cX10_drift 148 = .ok (.aload_n 0, 1) := by decide +kernel
theorem dX10_drift_149 : decode cX10_drift 149 = .ok (.iconst 0, 1) := by decide +kernel
theorem dX10_drift_150 : decode cX10_drift 150 = .ok (.invokevirtual 255, 3) := by decide +kernel
theorem dX10_drift_153 : decode cX10_drift 153 = .ok (.iinc 2 1, 3) := by decide +kernel
theorem dX10_drift_156 : decode cX10_drift 156 = .ok (.goto (-110), 3) := by decide +kernel
theorem dX10_drift_159 : decode cX10_drift 159 = .ok (.aload_n 0, 1) := by decide +kernel
theorem dX10_drift_160 : decode cX10_drift 160 = .ok (.getfield 7, 3) := by decide +kernel
theorem dX10_drift_163 : decode cX10_drift 163 = .ok (.iconst 1, 1) := by decide +kernel
theorem dX10_drift_164 : decode cX10_drift 164 = .ok (.iaload, 1) := by decide +kernel
theorem dX10_drift_165 : decode cX10_drift 165 = .ok (.ireturn, 1) := by decide +kernel
theorem dX10_tries_0 : decode cX10_tries 0 = .ok (.aload_n 0, 1) := by decide +kernel
theorem dX10_tries_1 : decode cX10_tries 1 = .ok (.iconst 0, 1) := by decide +kernel
theorem dX10_tries_2 : decode cX10_tries 2 = .ok (.bipush 59, 2) := by decide +kernel
theorem dX10_tries_4 : decode cX10_tries 4 = .ok (.invokevirtual 246, 3) := by decide +kernel
theorem dX10_tries_7 : decode cX10_tries 7 = .ok (.return_, 1) := by decide +kernel
theorem dX10_walksAll_0 : decode cX10_walksAll 0 = .ok (.iconst 0, 1) := by decide +kernel
theorem dX10_walksAll_1 : decode cX10_walksAll 1 = .ok (.istore_n 1, 1) := by decide +kernel
theorem dX10_walksAll_2 : decode cX10_walksAll 2 = .ok (.iload_n 1, 1) := by decide +kernel
theorem dX10_walksAll_3 : decode cX10_walksAll 3 = .ok (.aload_n 0, 1) := by decide +kernel
theorem dX10_walksAll_4 : decode cX10_walksAll 4 = .ok (.getfield 97, 3) := by decide +kernel
theorem dX10_walksAll_7 : decode cX10_walksAll 7 = .ok (.if_icmp .ge 16, 3) := by decide +kernel
theorem dX10_walksAll_10 : decode cX10_walksAll 10 = .ok (.aload_n 0, 1) := by decide +kernel
theorem dX10_walksAll_11 : decode cX10_walksAll 11 = .ok (.bipush 59, 2) := by decide +kernel
theorem dX10_walksAll_13 : decode cX10_walksAll 13 = .ok (.iload_n 1, 1) := by decide +kernel
theorem dX10_walksAll_14 : decode cX10_walksAll 14 = .ok (.invokevirtual 235, 3) := by decide +kernel
theorem dX10_walksAll_17 : decode cX10_walksAll 17 = .ok (.iinc 1 1, 3) := by decide +kernel
theorem dX10_walksAll_20 : decode cX10_walksAll 20 = .ok (.goto (-18), 3) := by decide +kernel
theorem dX10_walksAll_23 : decode cX10_walksAll 23 = .ok (.return_, 1) := by decide +kernel
theorem dX10_where_0 : decode cX10_where 0 = .ok (.aload_n 0, 1) := by decide +kernel
theorem dX10_where_1 : decode cX10_where 1 = .ok (.iload_n 1, 1) := by decide +kernel
theorem dX10_where_2 : decode cX10_where 2 = .ok (.invokevirtual 100, 3) := by decide +kernel
theorem dX10_where_5 : decode cX10_where 5 = .ok (.ifCond .ne 6, 3) := by decide +kernel
theorem dX10_where_8 : decode cX10_where 8 = .ok (.ldc 219, 2) := by decide +kernel
theorem dX10_where_10 : decode cX10_where 10 = .ok (.ireturn, 1) := by decide +kernel
theorem dX10_where_11 : decode cX10_where 11 = .ok (.iload_n 2, 1) := by decide +kernel
theorem dX10_where_12 : decode cX10_where 12 = .ok (.i2l, 1) := by decide +kernel
theorem dX10_where_13 : decode cX10_where 13 = .ok (.lconst 0, 1) := by decide +kernel
theorem dX10_where_14 : decode cX10_where 14 = .ok (.ldc2_w 280, 3) := by decide +kernel
theorem dX10_where_17 : decode cX10_where 17 = .ok (.invokestatic 93, 3) := by decide +kernel
theorem dX10_where_20 : decode cX10_where 20 = .ok (.ifCond .ne 6, 3) := by decide +kernel
theorem dX10_where_23 : decode cX10_where 23 = .ok (.ldc 109, 2) := by decide +kernel
theorem dX10_where_25 : decode cX10_where 25 = .ok (.ireturn, 1) := by decide +kernel
theorem dX10_where_26 : decode cX10_where 26 = .ok (.aload_n 0, 1) := by decide +kernel
theorem dX10_where_27 : decode cX10_where 27 = .ok (.invokevirtual 282, 3) := by decide +kernel
theorem dX10_where_30 : decode cX10_where 30 = .ok (.iconst 0, 1) := by decide +kernel
theorem dX10_where_31 : decode cX10_where 31 = .ok (.istore_n 3, 1) := by decide +kernel
theorem dX10_where_32 : decode cX10_where 32 = .ok (.iload_n 3, 1) := by decide +kernel
theorem dX10_where_33 : decode cX10_where 33 = .ok (.iload_n 2, 1) := by decide +kernel
theorem dX10_where_34 : decode cX10_where 34 = .ok (.if_icmp .ge 13, 3) := by decide +kernel
theorem dX10_where_37 : decode cX10_where 37 = .ok (.aload_n 0, 1) := by decide +kernel
theorem dX10_where_38 : decode cX10_where 38 = .ok (.invokevirtual 285, 3) := by decide +kernel
theorem dX10_where_41 : decode cX10_where 41 = .ok (.iinc 3 1, 3) := by decide +kernel
theorem dX10_where_44 : decode cX10_where 44 = .ok (.goto (-12), 3) := by decide +kernel
theorem dX10_where_47 : decode cX10_where 47 = .ok (.aload_n 0, 1) := by decide +kernel
theorem dX10_where_48 : decode cX10_where 48 = .ok (.getfield 7, 3) := by decide +kernel
theorem dX10_where_51 : decode cX10_where 51 = .ok (.bipush 61, 2) := by decide +kernel
theorem dX10_where_53 : decode cX10_where 53 = .ok (.iload_n 1, 1) := by decide +kernel
theorem dX10_where_54 : decode cX10_where 54 = .ok (.iadd, 1) := by decide +kernel
theorem dX10_where_55 : decode cX10_where 55 = .ok (.iaload, 1) := by decide +kernel
theorem dX10_where_56 : decode cX10_where 56 = .ok (.ireturn, 1) := by decide +kernel
theorem dX10_meets_0 : decode cX10_meets 0 = .ok (.aload_n 0, 1) := by decide +kernel
theorem dX10_meets_1 : decode cX10_meets 1 = .ok (.iload_n 1, 1) := by decide +kernel
theorem dX10_meets_2 : decode cX10_meets 2 = .ok (.iload_n 2, 1) := by decide +kernel
theorem dX10_meets_3 : decode cX10_meets 3 = .ok (.invokevirtual 261, 3) := by decide +kernel
theorem dX10_meets_6 : decode cX10_meets 6 = .ok (.ifCond .ne 6, 3) := by decide +kernel
theorem dX10_meets_9 : decode cX10_meets 9 = .ok (.ldc 219, 2) := by decide +kernel
theorem dX10_meets_11 : decode cX10_meets 11 = .ok (.ireturn, 1) := by decide +kernel
theorem dX10_meets_12 : decode cX10_meets 12 = .ok (.aload_n 0, 1) := by decide +kernel
theorem dX10_meets_13 : decode cX10_meets 13 = .ok (.invokevirtual 282, 3) := by decide +kernel
theorem dX10_meets_16 : decode cX10_meets 16 = .ok (.iconst 1, 1) := by decide +kernel
theorem dX10_meets_17 : decode cX10_meets 17 = .ok (.istore_n 3, 1) := by decide +kernel
theorem dX10_meets_18 : decode cX10_meets 18 = .ok (.iload_n 3, 1) := by decide +kernel
theorem dX10_meets_19 : decode cX10_meets 19 = .ok (.bipush 20, 2) := by decide +kernel
theorem dX10_meets_21 : decode cX10_meets 21 = .ok (.if_icmp .gt 26, 3) := by decide +kernel
theorem dX10_meets_24 : decode cX10_meets 24 = .ok (.aload_n 0, 1) := by decide +kernel
theorem dX10_meets_25 : decode cX10_meets 25 = .ok (.invokevirtual 285, 3) := by decide +kernel
theorem dX10_meets_28 : decode cX10_meets 28 = .ok (.aload_n 0, 1) := by decide +kernel
theorem dX10_meets_29 : decode cX10_meets 29 = .ok (.bipush 59, 2) := by decide +kernel
theorem dX10_meets_31 : decode cX10_meets 31 = .ok (.iload_n 1, 1) := by decide +kernel
theorem dX10_meets_32 : decode cX10_meets 32 = .ok (.iload_n 2, 1) := by decide +kernel
theorem dX10_meets_33 : decode cX10_meets 33 = .ok (.invokevirtual 239, 3) := by decide +kernel
theorem dX10_meets_36 : decode cX10_meets 36 = .ok (.ifCond .eq 5, 3) := by decide +kernel
theorem dX10_meets_39 : decode cX10_meets 39 = .ok (.iload_n 3, 1) := by decide +kernel
theorem dX10_meets_40 : decode cX10_meets 40 = .ok (.ireturn, 1) := by decide +kernel
theorem dX10_meets_41 : decode cX10_meets 41 = .ok (.iinc 3 1, 3) := by decide +kernel
theorem dX10_meets_44 : decode cX10_meets 44 = .ok (.goto (-26), 3) := by decide +kernel
theorem dX10_meets_47 : decode cX10_meets 47 = .ok (.iconst (-1), 1) := by decide +kernel
theorem dX10_meets_48 : decode cX10_meets 48 = .ok (.ireturn, 1) := by decide +kernel
theorem dX10_wayOf_0 : decode cX10_wayOf 0 = .ok (.iconst 1, 1) := by decide +kernel
theorem dX10_wayOf_1 : decode cX10_wayOf 1 = .ok (.iload_n 1, 1) := by decide +kernel
theorem dX10_wayOf_2 : decode cX10_wayOf 2 = .ok (.ishl, 1) := by decide +kernel
theorem dX10_wayOf_3 : decode cX10_wayOf 3 = .ok (.istore_n 3, 1) := by decide +kernel
theorem dX10_wayOf_4 : decode cX10_wayOf 4 = .ok (.iconst 0, 1) := by decide +kernel
theorem dX10_wayOf_5 : decode cX10_wayOf 5 = .ok (.istore 4, 2) := by decide +kernel
theorem dX10_wayOf_7 : decode cX10_wayOf 7 = .ok (.iload 4, 2) := by decide +kernel
theorem dX10_wayOf_9 : decode cX10_wayOf 9 = .ok (.bipush 8, 2) := by decide +kernel
theorem dX10_wayOf_11 : decode cX10_wayOf 11 = .ok (.if_icmp .ge 69, 3) := by decide +kernel
theorem dX10_wayOf_14 : decode cX10_wayOf 14 = .ok (.iload_n 3, 1) := by decide +kernel
theorem dX10_wayOf_15 : decode cX10_wayOf 15 = .ok (.iload_n 2, 1) := by decide +kernel
theorem dX10_wayOf_16 : decode cX10_wayOf 16 = .ok (.invokestatic 151, 3) := by decide +kernel
theorem dX10_wayOf_19 : decode cX10_wayOf 19 = .ok (.ifCond .eq 6, 3) := by decide +kernel
theorem dX10_wayOf_22 : decode cX10_wayOf 22 = .ok (.iload 4, 2) := by decide +kernel
theorem dX10_wayOf_24 : decode cX10_wayOf 24 = .ok (.ireturn, 1) := by decide +kernel
theorem dX10_wayOf_25 : decode cX10_wayOf 25 = .ok (.iload_n 3, 1) := by decide +kernel
theorem dX10_wayOf_26 : decode cX10_wayOf 26 = .ok (.istore 5, 2) := by decide +kernel
theorem dX10_wayOf_28 : decode cX10_wayOf 28 = .ok (.iconst 0, 1) := by decide +kernel
theorem dX10_wayOf_29 : decode cX10_wayOf 29 = .ok (.istore 6, 2) := by decide +kernel
theorem dX10_wayOf_31 : decode cX10_wayOf 31 = .ok (.iload 6, 2) := by decide +kernel
theorem dX10_wayOf_33 : decode cX10_wayOf 33 = .ok (.aload_n 0, 1) := by decide +kernel
theorem dX10_wayOf_34 : decode cX10_wayOf 34 = .ok (.getfield 90, 3) := by decide +kernel
theorem dX10_wayOf_37 : decode cX10_wayOf 37 = .ok (.if_icmp .ge 34, 3) := by decide +kernel
theorem dX10_wayOf_40 : decode cX10_wayOf 40 = .ok (.iload 5, 2) := by decide +kernel
theorem dX10_wayOf_42 : decode cX10_wayOf 42 = .ok (.iload_n 3, 1) := by decide +kernel
theorem dX10_wayOf_43 : decode cX10_wayOf 43 = .ok (.iload 6, 2) := by decide +kernel
theorem dX10_wayOf_45 : decode cX10_wayOf 45 = .ok (.invokestatic 151, 3) := by decide +kernel
theorem dX10_wayOf_48 : decode cX10_wayOf 48 = .ok (.ifCond .eq 13, 3) := by decide +kernel
theorem dX10_wayOf_51 : decode cX10_wayOf 51 = .ok (.aload_n 0, 1) := by decide +kernel
theorem dX10_wayOf_52 : decode cX10_wayOf 52 = .ok (.getfield 17, 3) := by decide +kernel
theorem dX10_wayOf_55 : decode cX10_wayOf 55 = .ok (.iload 6, 2) := by decide +kernel
theorem dX10_wayOf_57 : decode cX10_wayOf 57 = .ok (.iaload, 1) := by decide +kernel
theorem dX10_wayOf_58 : decode cX10_wayOf 58 = .ok (.goto 4, 3) := by decide +kernel
theorem dX10_wayOf_61 : decode cX10_wayOf 61 = .ok (.iconst 0, 1) := by decide +kernel
theorem dX10_wayOf_62 : decode cX10_wayOf 62 = .ok (.ior, 1) := by decide +kernel
theorem dX10_wayOf_63 : decode cX10_wayOf 63 = .ok (.istore 5, 2) := by decide +kernel
theorem dX10_wayOf_65 : decode cX10_wayOf 65 = .ok (.iinc 6 1, 3) := by decide +kernel
theorem dX10_wayOf_68 : decode cX10_wayOf 68 = .ok (.goto (-37), 3) := by decide +kernel
theorem dX10_wayOf_71 : decode cX10_wayOf 71 = .ok (.iload 5, 2) := by decide +kernel
theorem dX10_wayOf_73 : decode cX10_wayOf 73 = .ok (.istore_n 3, 1) := by decide +kernel
theorem dX10_wayOf_74 : decode cX10_wayOf 74 = .ok (.iinc 4 1, 3) := by decide +kernel
theorem dX10_wayOf_77 : decode cX10_wayOf 77 = .ok (.goto (-70), 3) := by decide +kernel
theorem dX10_wayOf_80 : decode cX10_wayOf 80 = .ok (.ldc_w 288, 3) := by decide +kernel
theorem dX10_wayOf_83 : decode cX10_wayOf 83 = .ok (.ireturn, 1) := by decide +kernel
theorem dX10_nextOf_0 : decode cX10_nextOf 0 = .ok (.aload_n 0, 1) := by decide +kernel
theorem dX10_nextOf_1 : decode cX10_nextOf 1 = .ok (.iload_n 1, 1) := by decide +kernel
theorem dX10_nextOf_2 : decode cX10_nextOf 2 = .ok (.iload_n 2, 1) := by decide +kernel
theorem dX10_nextOf_3 : decode cX10_nextOf 3 = .ok (.invokevirtual 289, 3) := by decide +kernel
theorem dX10_nextOf_6 : decode cX10_nextOf 6 = .ok (.istore_n 3, 1) := by decide +kernel
theorem dX10_nextOf_7 : decode cX10_nextOf 7 = .ok (.iconst 0, 1) := by decide +kernel
theorem dX10_nextOf_8 : decode cX10_nextOf 8 = .ok (.istore 4, 2) := by decide +kernel
theorem dX10_nextOf_10 : decode cX10_nextOf 10 = .ok (.iload 4, 2) := by decide +kernel
theorem dX10_nextOf_12 : decode cX10_nextOf 12 = .ok (.aload_n 0, 1) := by decide +kernel
theorem dX10_nextOf_13 : decode cX10_nextOf 13 = .ok (.getfield 90, 3) := by decide +kernel
theorem dX10_nextOf_16 : decode cX10_nextOf 16 = .ok (.if_icmp .ge 43, 3) := by decide +kernel
theorem dX10_nextOf_19 : decode cX10_nextOf 19 = .ok (.iload_n 3, 1) := by decide +kernel
theorem dX10_nextOf_20 : decode cX10_nextOf 20 = .ok (.ifCond .le 39, 3) := by decide +kernel
theorem dX10_nextOf_23 : decode cX10_nextOf 23 = .ok (.aload_n 0, 1) := by decide +kernel
theorem dX10_nextOf_24 : decode cX10_nextOf 24 = .ok (.getfield 17, 3) := by decide +kernel
theorem dX10_nextOf_27 : decode cX10_nextOf 27 = .ok (.iload_n 1, 1) := by decide +kernel
theorem dX10_nextOf_28 : decode cX10_nextOf 28 = .ok (.iaload, 1) := by decide +kernel
theorem dX10_nextOf_29 : decode cX10_nextOf 29 = .ok (.iload 4, 2) := by decide +kernel
theorem dX10_nextOf_31 : decode cX10_nextOf 31 = .ok (.invokestatic 151, 3) := by decide +kernel
theorem dX10_nextOf_34 : decode cX10_nextOf 34 = .ok (.ifCond .eq 19, 3) := by decide +kernel
theorem dX10_nextOf_37 : decode cX10_nextOf 37 = .ok (.aload_n 0, 1) := by decide +kernel
theorem dX10_nextOf_38 : decode cX10_nextOf 38 = .ok (.iload 4, 2) := by decide +kernel
theorem dX10_nextOf_40 : decode cX10_nextOf 40 = .ok (.iload_n 2, 1) := by decide +kernel
theorem dX10_nextOf_41 : decode cX10_nextOf 41 = .ok (.invokevirtual 289, 3) := by decide +kernel
theorem dX10_nextOf_44 : decode cX10_nextOf 44 = .ok (.iload_n 3, 1) := by decide +kernel
theorem dX10_nextOf_45 : decode cX10_nextOf 45 = .ok (.iconst 1, 1) := by decide +kernel
theorem dX10_nextOf_46 : decode cX10_nextOf 46 = .ok (.isub, 1) := by decide +kernel
theorem dX10_nextOf_47 : decode cX10_nextOf 47 = .ok (.if_icmp .ne 6, 3) := by decide +kernel
theorem dX10_nextOf_50 : decode cX10_nextOf 50 = .ok (.iload 4, 2) := by decide +kernel
theorem dX10_nextOf_52 : decode cX10_nextOf 52 = .ok (.ireturn, 1) := by decide +kernel
theorem dX10_nextOf_53 : decode cX10_nextOf 53 = .ok (.iinc 4 1, 3) := by decide +kernel
theorem dX10_nextOf_56 : decode cX10_nextOf 56 = .ok (.goto (-46), 3) := by decide +kernel
theorem dX10_nextOf_59 : decode cX10_nextOf 59 = .ok (.iconst (-1), 1) := by decide +kernel
theorem dX10_nextOf_60 : decode cX10_nextOf 60 = .ok (.ireturn, 1) := by decide +kernel
theorem dX10_way_0 : decode cX10_way 0 = .ok (.aload_n 0, 1) := by decide +kernel
theorem dX10_way_1 : decode cX10_way 1 = .ok (.iload_n 1, 1) := by decide +kernel
theorem dX10_way_2 : decode cX10_way 2 = .ok (.invokevirtual 216, 3) := by decide +kernel
theorem dX10_way_5 : decode cX10_way 5 = .ok (.ifCond .eq 11, 3) := by decide +kernel
theorem dX10_way_8 : decode cX10_way 8 = .ok (.aload_n 0, 1) := by decide +kernel
theorem dX10_way_9 : decode cX10_way 9 = .ok (.iload_n 2, 1) := by decide +kernel
theorem dX10_way_10 : decode cX10_way 10 = .ok (.invokevirtual 216, 3) := by decide +kernel
theorem dX10_way_13 : decode cX10_way 13 = .ok (.ifCond .ne 6, 3) := by decide +kernel
theorem dX10_way_16 : decode cX10_way 16 = .ok (.ldc 219, 2) := by decide +kernel
theorem dX10_way_18 : decode cX10_way 18 = .ok (.ireturn, 1) := by decide +kernel
theorem dX10_way_19 : decode cX10_way 19 = .ok (.iload_n 3, 1) := by decide +kernel
theorem dX10_way_20 : decode cX10_way 20 = .ok (.i2l, 1) := by decide +kernel
theorem dX10_way_21 : decode cX10_way 21 = .ok (.lconst 0, 1) := by decide +kernel
theorem dX10_way_22 : decode cX10_way 22 = .ok (.lconst 1, 1) := by decide +kernel
theorem dX10_way_23 : decode cX10_way 23 = .ok (.invokestatic 93, 3) := by decide +kernel
theorem dX10_way_26 : decode cX10_way 26 = .ok (.ifCond .ne 6, 3) := by decide +kernel
theorem dX10_way_29 : decode cX10_way 29 = .ok (.ldc 109, 2) := by decide +kernel
theorem dX10_way_31 : decode cX10_way 31 = .ok (.ireturn, 1) := by decide +kernel
theorem dX10_way_32 : decode cX10_way 32 = .ok (.aload_n 0, 1) := by decide +kernel
theorem dX10_way_33 : decode cX10_way 33 = .ok (.iload_n 1, 1) := by decide +kernel
theorem dX10_way_34 : decode cX10_way 34 = .ok (.iload_n 2, 1) := by decide +kernel
theorem dX10_way_35 : decode cX10_way 35 = .ok (.invokevirtual 289, 3) := by decide +kernel
theorem dX10_way_38 : decode cX10_way 38 = .ok (.ldc_w 288, 3) := by decide +kernel
theorem dX10_way_41 : decode cX10_way 41 = .ok (.if_icmp .ne 5, 3) := by decide +kernel
theorem dX10_way_44 : decode cX10_way 44 = .ok (.iconst (-1), 1) := by decide +kernel
theorem dX10_way_45 : decode cX10_way 45 = .ok (.ireturn, 1) := by decide +kernel
theorem dX10_way_46 : decode cX10_way 46 = .ok (.iload_n 3, 1) := by decide +kernel
theorem dX10_way_47 : decode cX10_way 47 = .ok (.ifCond .ne 12, 3) := by decide +kernel
theorem dX10_way_50 : decode cX10_way 50 = .ok (.aload_n 0, 1) := by decide +kernel
theorem dX10_way_51 : decode cX10_way 51 = .ok (.iload_n 1, 1) := by decide +kernel
theorem dX10_way_52 : decode cX10_way 52 = .ok (.iload_n 2, 1) := by decide +kernel
theorem dX10_way_53 : decode cX10_way 53 = .ok (.invokevirtual 289, 3) := by decide +kernel
theorem dX10_way_56 : decode cX10_way 56 = .ok (.goto 9, 3) := by decide +kernel
theorem dX10_way_59 : decode cX10_way 59 = .ok (.aload_n 0, 1) := by decide +kernel
theorem dX10_way_60 : decode cX10_way 60 = .ok (.iload_n 1, 1) := by decide +kernel
theorem dX10_way_61 : decode cX10_way 61 = .ok (.iload_n 2, 1) := by decide +kernel
theorem dX10_way_62 : decode cX10_way 62 = .ok (.invokevirtual 292, 3) := by decide +kernel
theorem dX10_way_65 : decode cX10_way 65 = .ok (.ireturn, 1) := by decide +kernel
theorem dX10_isApart_0 : decode cX10_isApart 0 = .ok (.aload_n 0, 1) := by decide +kernel
theorem dX10_isApart_1 : decode cX10_isApart 1 = .ok (.invokevirtual 282, 3) := by decide +kernel
theorem dX10_isApart_4 : decode cX10_isApart 4 = .ok (.iconst 1, 1) := by decide +kernel
theorem dX10_isApart_5 : decode cX10_isApart 5 = .ok (.istore_n 1, 1) := by decide +kernel
theorem dX10_isApart_6 : decode cX10_isApart 6 = .ok (.iload_n 1, 1) := by decide +kernel
theorem dX10_isApart_7 : decode cX10_isApart 7 = .ok (.bipush 20, 2) := by decide +kernel
theorem dX10_isApart_9 : decode cX10_isApart 9 = .ok (.if_icmp .gt 111, 3) := by decide +kernel
theorem dX10_isApart_12 : decode cX10_isApart 12 = .ok (.iconst 0, 1) := by decide +kernel
theorem dX10_isApart_13 : decode cX10_isApart 13 = .ok (.istore_n 2, 1) := by decide +kernel
theorem dX10_isApart_14 : decode cX10_isApart 14 = .ok (.iload_n 2, 1) := by decide +kernel
theorem dX10_isApart_15 : decode cX10_isApart 15 = .ok (.aload_n 0, 1) := by decide +kernel
theorem dX10_isApart_16 : decode cX10_isApart 16 = .ok (.getfield 97, 3) := by decide +kernel
theorem dX10_isApart_19 : decode cX10_isApart 19 = .ok (.if_icmp .ge 48, 3) := by decide +kernel
theorem dX10_isApart_22 : decode cX10_isApart 22 = .ok (.aload_n 0, 1) := by decide +kernel
theorem dX10_isApart_23 : decode cX10_isApart 23 = .ok (.getfield 54, 3) := by decide +kernel
theorem dX10_isApart_26 : decode cX10_isApart 26 = .ok (.iload_n 2, 1) := by decide +kernel
theorem dX10_isApart_27 : decode cX10_isApart 27 = .ok (.aload_n 0, 1) := by decide +kernel
theorem dX10_isApart_28 : decode cX10_isApart 28 = .ok (.getfield 7, 3) := by decide +kernel
theorem dX10_isApart_31 : decode cX10_isApart 31 = .ok (.bipush 61, 2) := by decide +kernel
theorem dX10_isApart_33 : decode cX10_isApart 33 = .ok (.iload_n 2, 1) := by decide +kernel
theorem dX10_isApart_34 : decode cX10_isApart 34 = .ok (.iadd, 1) := by decide +kernel
theorem dX10_isApart_35 : decode cX10_isApart 35 = .ok (.iaload, 1) := by decide +kernel
theorem dX10_isApart_36 : decode cX10_isApart 36 = .ok (.iastore, 1) := by decide +kernel
theorem dX10_isApart_37 : decode cX10_isApart 37 = .ok (.aload_n 0, 1) := by decide +kernel
theorem dX10_isApart_38 : decode cX10_isApart 38 = .ok (.getfield 57, 3) := by decide +kernel
theorem dX10_isApart_41 : decode cX10_isApart 41 = .ok (.iload_n 2, 1) := by decide +kernel
theorem dX10_isApart_42 : decode cX10_isApart 42 = .ok (.iconst 0, 1) := by decide +kernel
theorem dX10_isApart_43 : decode cX10_isApart 43 = .ok (.bastore, 1) := by decide +kernel
theorem dX10_isApart_44 : decode cX10_isApart 44 = .ok (.iload_n 1, 1) := by decide +kernel
theorem dX10_isApart_45 : decode cX10_isApart 45 = .ok (.aload_n 0, 1) := by decide +kernel
theorem dX10_isApart_46 : decode cX10_isApart 46 = .ok (.getfield 63, 3) := by decide +kernel
theorem dX10_isApart_49 : decode cX10_isApart 49 = .ok (.iload_n 2, 1) := by decide +kernel
theorem dX10_isApart_50 : decode cX10_isApart 50 = .ok (.iaload, 1) := by decide +kernel
theorem dX10_isApart_51 : decode cX10_isApart 51 = .ok (.if_icmp .le 10, 3) := by decide +kernel
theorem dX10_isApart_54 : decode cX10_isApart 54 = .ok (.aload_n 0, 1) := by decide +kernel
theorem dX10_isApart_55 : decode cX10_isApart 55 = .ok (.bipush 59, 2) := by decide +kernel
theorem dX10_isApart_57 : decode cX10_isApart 57 = .ok (.iload_n 2, 1) := by decide +kernel
theorem dX10_isApart_58 : decode cX10_isApart 58 = .ok (.invokevirtual 235, 3) := by decide +kernel
theorem dX10_isApart_61 : decode cX10_isApart 61 = .ok (.iinc 2 1, 3) := by decide +kernel
theorem dX10_isApart_64 : decode cX10_isApart 64 = .ok (.goto (-50), 3) := by decide +kernel
theorem dX10_isApart_67 : decode cX10_isApart 67 = .ok (.iconst 0, 1) := by decide +kernel
theorem dX10_isApart_68 : decode cX10_isApart 68 = .ok (.istore_n 2, 1) := by decide +kernel
theorem dX10_isApart_69 : decode cX10_isApart 69 = .ok (.iload_n 2, 1) := by decide +kernel
theorem dX10_isApart_70 : decode cX10_isApart 70 = .ok (.aload_n 0, 1) := by decide +kernel
theorem dX10_isApart_71 : decode cX10_isApart 71 = .ok (.getfield 97, 3) := by decide +kernel
theorem dX10_isApart_74 : decode cX10_isApart 74 = .ok (.if_icmp .ge 40, 3) := by decide +kernel
theorem dX10_isApart_77 : decode cX10_isApart 77 = .ok (.iload_n 2, 1) := by decide +kernel
theorem dX10_isApart_78 : decode cX10_isApart 78 = .ok (.iconst 1, 1) := by decide +kernel
theorem dX10_isApart_79 : decode cX10_isApart 79 = .ok (.iadd, 1) := by decide +kernel
theorem dX10_isApart_80 : decode cX10_isApart 80 = .ok (.istore_n 3, 1) := by decide +kernel
theorem dX10_isApart_81 : decode cX10_isApart 81 = .ok (.iload_n 3, 1) := by decide +kernel
theorem dX10_isApart_82 : decode cX10_isApart 82 = .ok (.aload_n 0, 1) := by decide +kernel
theorem dX10_isApart_83 : decode cX10_isApart 83 = .ok (.getfield 97, 3) := by decide +kernel
theorem dX10_isApart_86 : decode cX10_isApart 86 = .ok (.if_icmp .ge 22, 3) := by decide +kernel
theorem dX10_isApart_89 : decode cX10_isApart 89 = .ok (.aload_n 0, 1) := by decide +kernel
theorem dX10_isApart_90 : decode cX10_isApart 90 = .ok (.bipush 59, 2) := by decide +kernel
theorem dX10_isApart_92 : decode cX10_isApart 92 = .ok (.iload_n 2, 1) := by decide +kernel
theorem dX10_isApart_93 : decode cX10_isApart 93 = .ok (.iload_n 3, 1) := by decide +kernel
theorem dX10_isApart_94 : decode cX10_isApart 94 = .ok (.invokevirtual 239, 3) := by decide +kernel
theorem dX10_isApart_97 : decode cX10_isApart 97 = .ok (.ifCond .eq 5, 3) := by decide +kernel
theorem dX10_isApart_100 : decode cX10_isApart 100 = .ok (.iconst 0, 1) := by decide +kernel
theorem dX10_isApart_101 : decode cX10_isApart 101 = .ok (.ireturn, 1) := by decide +kernel
theorem dX10_isApart_102 : decode cX10_isApart 102 = .ok (.iinc 3 1, 3) := by decide +kernel
theorem dX10_isApart_105 : decode cX10_isApart 105 = .ok (.goto (-24), 3) := by decide +kernel
theorem dX10_isApart_108 : decode cX10_isApart 108 = .ok (.iinc 2 1, 3) := by decide +kernel
theorem dX10_isApart_111 : decode cX10_isApart 111 = .ok (.goto (-42), 3) := by decide +kernel
theorem dX10_isApart_114 : decode cX10_isApart 114 = .ok (.iinc 1 1, 3) := by decide +kernel
theorem dX10_isApart_117 : decode cX10_isApart 117 = .ok (.goto (-111), 3) := by decide +kernel
theorem dX10_isApart_120 : decode cX10_isApart 120 = .ok (.iconst 1, 1) := by decide +kernel
theorem dX10_isApart_121 : decode cX10_isApart 121 = .ok (.ireturn, 1) := by decide +kernel
theorem dX10_delays_0 : decode cX10_delays 0 = .ok (.iload_n 1, 1) := by decide +kernel
theorem dX10_delays_1 : decode cX10_delays 1 = .ok (.iconst (-1), 1) := by decide +kernel
theorem dX10_delays_2 : decode cX10_delays 2 = .ok (.if_icmp .eq 14, 3) := by decide +kernel
theorem dX10_delays_5 : decode cX10_delays 5 = .ok (.aload_n 0, 1) := by decide +kernel
theorem dX10_delays_6 : decode cX10_delays 6 = .ok (.iload_n 1, 1) := by decide +kernel
theorem dX10_delays_7 : decode cX10_delays 7 = .ok (.invokevirtual 100, 3) := by decide +kernel
theorem dX10_delays_10 : decode cX10_delays 10 = .ok (.ifCond .ne 6, 3) := by decide +kernel
theorem dX10_delays_13 : decode cX10_delays 13 = .ok (.ldc 219, 2) := by decide +kernel
theorem dX10_delays_15 : decode cX10_delays 15 = .ok (.ireturn, 1) := by decide +kernel
theorem dX10_delays_16 : decode cX10_delays 16 = .ok (.iconst 1, 1) := by decide +kernel
theorem dX10_delays_17 : decode cX10_delays 17 = .ok (.istore_n 2, 1) := by decide +kernel
theorem dX10_delays_18 : decode cX10_delays 18 = .ok (.iconst 0, 1) := by decide +kernel
theorem dX10_delays_19 : decode cX10_delays 19 = .ok (.istore_n 3, 1) := by decide +kernel
theorem dX10_delays_20 : decode cX10_delays 20 = .ok (.iload_n 3, 1) := by decide +kernel
theorem dX10_delays_21 : decode cX10_delays 21 = .ok (.aload_n 0, 1) := by decide +kernel
theorem dX10_delays_22 : decode cX10_delays 22 = .ok (.getfield 97, 3) := by decide +kernel
theorem dX10_delays_25 : decode cX10_delays 25 = .ok (.if_icmp .ge 13, 3) := by decide +kernel
theorem dX10_delays_28 : decode cX10_delays 28 = .ok (.iload_n 2, 1) := by decide +kernel
theorem dX10_delays_29 : decode cX10_delays 29 = .ok (.iconst 5, 1) := by decide +kernel
theorem dX10_delays_30 : decode cX10_delays 30 = .ok (.imul, 1) := by decide +kernel
theorem dX10_delays_31 : decode cX10_delays 31 = .ok (.istore_n 2, 1) := by decide +kernel
theorem dX10_delays_32 : decode cX10_delays 32 = .ok (.iinc 3 1, 3) := by decide +kernel
theorem dX10_delays_35 : decode cX10_delays 35 = .ok (.goto (-15), 3) := by decide +kernel
theorem dX10_delays_38 : decode cX10_delays 38 = .ok (.ldc_w 288, 3) := by decide +kernel
theorem dX10_delays_41 : decode cX10_delays 41 = .ok (.istore_n 3, 1) := by decide +kernel
theorem dX10_delays_42 : decode cX10_delays 42 = .ok (.iconst 0, 1) := by decide +kernel
theorem dX10_delays_43 : decode cX10_delays 43 = .ok (.istore 4, 2) := by decide +kernel
theorem dX10_delays_45 : decode cX10_delays 45 = .ok (.iload 4, 2) := by decide +kernel
theorem dX10_delays_47 : decode cX10_delays 47 = .ok (.iload_n 2, 1) := by decide +kernel
theorem dX10_delays_48 : decode cX10_delays 48 = .ok (.if_icmp .ge 153, 3) := by decide +kernel
theorem dX10_delays_51 : decode cX10_delays 51 = .ok (.iload 4, 2) := by decide +kernel
theorem dX10_delays_53 : decode cX10_delays 53 = .ok (.istore 5, 2) := by decide +kernel
theorem dX10_delays_55 : decode cX10_delays 55 = .ok (.iconst 0, 1) := by decide +kernel
theorem dX10_delays_56 : decode cX10_delays 56 = .ok (.istore 6, 2) := by decide +kernel
theorem dX10_delays_58 : decode cX10_delays 58 = .ok (.aload_n 0, 1) := by decide +kernel
theorem dX10_delays_59 : decode cX10_delays 59 = .ok (.getfield 97, 3) := by decide +kernel
theorem dX10_delays_62 : decode cX10_delays 62 = .ok (.iconst 1, 1) := by decide +kernel
theorem dX10_delays_63 : decode cX10_delays 63 = .ok (.isub, 1) := by decide +kernel
theorem dX10_delays_64 : decode cX10_delays 64 = .ok (.istore 7, 2) := by decide +kernel
theorem dX10_delays_66 : decode cX10_delays 66 = .ok (.iload 7, 2) := by decide +kernel
theorem dX10_delays_68 : decode cX10_delays 68 = .ok (.ifCond .lt 79, 3) := by decide +kernel
theorem dX10_delays_71 : decode cX10_delays 71 = .ok (.aload_n 0, 1) := by decide +kernel
theorem dX10_delays_72 : decode cX10_delays 72 = .ok (.getfield 63, 3) := by decide +kernel
theorem dX10_delays_75 : decode cX10_delays 75 = .ok (.iload 7, 2) := by decide +kernel
theorem dX10_delays_77 : decode cX10_delays 77 = .ok (.iload 5, 2) := by decide +kernel
theorem dX10_delays_79 : decode cX10_delays 79 = .ok (.iconst 5, 1) := by decide +kernel
theorem dX10_delays_80 : decode cX10_delays 80 = .ok (.irem, 1) := by decide +kernel
theorem dX10_delays_81 : decode cX10_delays 81 = .ok (.iastore, 1) := by decide +kernel
theorem dX10_delays_82 : decode cX10_delays 82 = .ok (.iload 5, 2) := by decide +kernel
theorem dX10_delays_84 : decode cX10_delays 84 = .ok (.iconst 5, 1) := by decide +kernel
theorem dX10_delays_85 : decode cX10_delays 85 = .ok (.idiv, 1) := by decide +kernel
theorem dX10_delays_86 : decode cX10_delays 86 = .ok (.istore 5, 2) := by decide +kernel
theorem dX10_delays_88 : decode cX10_delays 88 = .ok (.aload_n 0, 1) := by decide +kernel
theorem dX10_delays_89 : decode cX10_delays 89 = .ok (.getfield 7, 3) := by decide +kernel
theorem dX10_delays_92 : decode cX10_delays 92 = .ok (.bipush 6, 2) := by decide +kernel
theorem dX10_delays_94 : decode cX10_delays 94 = .ok (.iload 7, 2) := by decide +kernel
theorem dX10_delays_96 : decode cX10_delays 96 = .ok (.iadd, 1) := by decide +kernel
theorem dX10_delays_97 : decode cX10_delays 97 = .ok (.iaload, 1) := by decide +kernel
theorem dX10_delays_98 : decode cX10_delays 98 = .ok (.ifCond .le 24, 3) := by decide +kernel
theorem dX10_delays_101 : decode cX10_delays 101 = .ok (.aload_n 0, 1) := by decide +kernel
theorem dX10_delays_102 : decode cX10_delays 102 = .ok (.getfield 63, 3) := by decide +kernel
theorem dX10_delays_105 : decode cX10_delays 105 = .ok (.iload 7, 2) := by decide +kernel
theorem dX10_delays_107 : decode cX10_delays 107 = .ok (.iaload, 1) := by decide +kernel
theorem dX10_delays_108 : decode cX10_delays 108 = .ok (.aload_n 0, 1) := by decide +kernel
theorem dX10_delays_109 : decode cX10_delays 109 = .ok (.getfield 7, 3) := by decide +kernel
theorem dX10_delays_112 : decode cX10_delays 112 = .ok (.bipush 6, 2) := by decide +kernel
theorem dX10_delays_114 : decode cX10_delays 114 = .ok (.iload 7, 2) := by decide +kernel
theorem dX10_delays_116 : decode cX10_delays 116 = .ok (.iadd, 1) := by decide +kernel
theorem dX10_delays_117 : decode cX10_delays 117 = .ok (.iaload, 1) := by decide +kernel
theorem dX10_delays_118 : decode cX10_delays 118 = .ok (.iadd, 1) := by decide +kernel
theorem dX10_delays_119 : decode cX10_delays 119 = .ok (.goto 4, 3) := by decide +kernel
theorem dX10_delays_122 : decode cX10_delays 122 = .ok (.iconst 0, 1) := by decide +kernel
theorem dX10_delays_123 : decode cX10_delays 123 = .ok (.istore 8, 2) := by decide +kernel
theorem dX10_delays_125 : decode cX10_delays 125 = .ok (.iload 8, 2) := by decide +kernel
theorem dX10_delays_127 : decode cX10_delays 127 = .ok (.iload 6, 2) := by decide +kernel
theorem dX10_delays_129 : decode cX10_delays 129 = .ok (.if_icmp .le 8, 3) := by decide +kernel
theorem dX10_delays_132 : decode cX10_delays 132 = .ok (.iload 8, 2) := by decide +kernel
theorem dX10_delays_134 : decode cX10_delays 134 = .ok (.goto 5, 3) := by decide +kernel
theorem dX10_delays_137 : decode cX10_delays 137 = .ok (.iload 6, 2) := by decide +kernel
theorem dX10_delays_139 : decode cX10_delays 139 = .ok (.istore 6, 2) := by decide +kernel
theorem dX10_delays_141 : decode cX10_delays 141 = .ok (.iinc 7 (-1), 3) := by decide +kernel
theorem dX10_delays_144 : decode cX10_delays 144 = .ok (.goto (-78), 3) := by decide +kernel
theorem dX10_delays_147 : decode cX10_delays 147 = .ok (.iload 6, 2) := by decide +kernel
theorem dX10_delays_149 : decode cX10_delays 149 = .ok (.iload_n 3, 1) := by decide +kernel
theorem dX10_delays_150 : decode cX10_delays 150 = .ok (.if_icmp .ge 45, 3) := by decide +kernel
theorem dX10_delays_153 : decode cX10_delays 153 = .ok (.aload_n 0, 1) := by decide +kernel
theorem dX10_delays_154 : decode cX10_delays 154 = .ok (.invokevirtual 295, 3) := by decide +kernel
theorem dX10_delays_157 : decode cX10_delays 157 = .ok (.ifCond .eq 38, 3) := by decide +kernel
theorem dX10_delays_160 : decode cX10_delays 160 = .ok (.iload 6, 2) := by decide +kernel
theorem dX10_delays_162 : decode cX10_delays 162 = .ok (.istore_n 3, 1) := by decide +kernel
theorem dX10_delays_163 : decode cX10_delays 163 = .ok (.iconst 0, 1) := by decide +kernel
theorem dX10_delays_164 : decode cX10_delays 164 = .ok (.istore 7, 2) := by decide +kernel
theorem dX10_delays_166 : decode cX10_delays 166 = .ok (.iload 7, 2) := by decide +kernel
theorem dX10_delays_168 : decode cX10_delays 168 = .ok (.aload_n 0, 1) := by decide +kernel
theorem dX10_delays_169 : decode cX10_delays 169 = .ok (.getfield 97, 3) := by decide +kernel
theorem dX10_delays_172 : decode cX10_delays 172 = .ok (.if_icmp .ge 23, 3) := by decide +kernel
theorem dX10_delays_175 : decode cX10_delays 175 = .ok (.aload_n 0, 1) := by decide +kernel
theorem dX10_delays_176 : decode cX10_delays 176 = .ok (.getfield 66, 3) := by decide +kernel
theorem dX10_delays_179 : decode cX10_delays 179 = .ok (.iload 7, 2) := by decide +kernel
theorem dX10_delays_181 : decode cX10_delays 181 = .ok (.aload_n 0, 1) := by decide +kernel
theorem dX10_delays_182 : decode cX10_delays 182 = .ok (.getfield 63, 3) := by decide +kernel
theorem dX10_delays_185 : decode cX10_delays 185 = .ok (.iload 7, 2) := by decide +kernel
theorem dX10_delays_187 : decode cX10_delays 187 = .ok (.iaload, 1) := by decide +kernel
theorem dX10_delays_188 : decode cX10_delays 188 = .ok (.iastore, 1) := by decide +kernel
theorem dX10_delays_189 : decode cX10_delays 189 = .ok (.iinc 7 1, 3) := by decide +kernel
theorem dX10_delays_192 : decode cX10_delays 192 = .ok (.goto (-26), 3) := by decide +kernel
theorem dX10_delays_195 : decode cX10_delays 195 = .ok (.iinc 4 1, 3) := by decide +kernel
theorem dX10_delays_198 : decode cX10_delays 198 = .ok (.goto (-153), 3) := by decide +kernel
theorem dX10_delays_201 : decode cX10_delays 201 = .ok (.iload_n 3, 1) := by decide +kernel
theorem dX10_delays_202 : decode cX10_delays 202 = .ok (.ldc_w 288, 3) := by decide +kernel
theorem dX10_delays_205 : decode cX10_delays 205 = .ok (.if_icmp .ne 7, 3) := by decide +kernel
theorem dX10_delays_208 : decode cX10_delays 208 = .ok (.iconst (-1), 1) := by decide +kernel
theorem dX10_delays_209 : decode cX10_delays 209 = .ok (.goto 18, 3) := by decide +kernel
theorem dX10_delays_212 : decode cX10_delays 212 = .ok (.iload_n 1, 1) := by decide +kernel
theorem dX10_delays_213 : decode cX10_delays 213 = .ok (.iconst (-1), 1) := by decide +kernel
theorem dX10_delays_214 : decode cX10_delays 214 = .ok (.if_icmp .ne 7, 3) := by decide +kernel
theorem dX10_delays_217 : decode cX10_delays 217 = .ok (.iload_n 3, 1) := by decide +kernel
theorem dX10_delays_218 : decode cX10_delays 218 = .ok (.goto 9, 3) := by decide +kernel
theorem dX10_delays_221 : decode cX10_delays 221 = .ok (.aload_n 0, 1) := by decide +kernel
theorem dX10_delays_222 : decode cX10_delays 222 = .ok (.getfield 66, 3) := by decide +kernel
theorem dX10_delays_225 : decode cX10_delays 225 = .ok (.iload_n 1, 1) := by decide +kernel
theorem dX10_delays_226 : decode cX10_delays 226 = .ok (.iaload, 1) := by decide +kernel
theorem dX10_delays_227 : decode cX10_delays 227 = .ok (.ireturn, 1) := by decide +kernel
theorem dX10_servedBy_0 : decode cX10_servedBy 0 = .ok (.iload_n 1, 1) := by decide +kernel
theorem dX10_servedBy_1 : decode cX10_servedBy 1 = .ok (.istore_n 2, 1) := by decide +kernel
theorem dX10_servedBy_2 : decode cX10_servedBy 2 = .ok (.aload_n 0, 1) := by decide +kernel
theorem dX10_servedBy_3 : decode cX10_servedBy 3 = .ok (.getfield 197, 3) := by decide +kernel
theorem dX10_servedBy_6 : decode cX10_servedBy 6 = .ok (.iconst 1, 1) := by decide +kernel
theorem dX10_servedBy_7 : decode cX10_servedBy 7 = .ok (.isub, 1) := by decide +kernel
theorem dX10_servedBy_8 : decode cX10_servedBy 8 = .ok (.istore_n 3, 1) := by decide +kernel
theorem dX10_servedBy_9 : decode cX10_servedBy 9 = .ok (.iload_n 3, 1) := by decide +kernel
theorem dX10_servedBy_10 : decode cX10_servedBy 10 = .ok (.ifCond .lt 32, 3) := by decide +kernel
theorem dX10_servedBy_13 : decode cX10_servedBy 13 = .ok (.aload_n 0, 1) := by decide +kernel
theorem dX10_servedBy_14 : decode cX10_servedBy 14 = .ok (.getfield 69, 3) := by decide +kernel
theorem dX10_servedBy_17 : decode cX10_servedBy 17 = .ok (.iload_n 3, 1) := by decide +kernel
theorem dX10_servedBy_18 : decode cX10_servedBy 18 = .ok (.iload_n 2, 1) := by decide +kernel
theorem dX10_servedBy_19 : decode cX10_servedBy 19 = .ok (.aload_n 0, 1) := by decide +kernel
theorem dX10_servedBy_20 : decode cX10_servedBy 20 = .ok (.getfield 97, 3) := by decide +kernel
theorem dX10_servedBy_23 : decode cX10_servedBy 23 = .ok (.iconst 1, 1) := by decide +kernel
theorem dX10_servedBy_24 : decode cX10_servedBy 24 = .ok (.iadd, 1) := by decide +kernel
theorem dX10_servedBy_25 : decode cX10_servedBy 25 = .ok (.irem, 1) := by decide +kernel
theorem dX10_servedBy_26 : decode cX10_servedBy 26 = .ok (.iastore, 1) := by decide +kernel
theorem dX10_servedBy_27 : decode cX10_servedBy 27 = .ok (.iload_n 2, 1) := by decide +kernel
theorem dX10_servedBy_28 : decode cX10_servedBy 28 = .ok (.aload_n 0, 1) := by decide +kernel
theorem dX10_servedBy_29 : decode cX10_servedBy 29 = .ok (.getfield 97, 3) := by decide +kernel
theorem dX10_servedBy_32 : decode cX10_servedBy 32 = .ok (.iconst 1, 1) := by decide +kernel
theorem dX10_servedBy_33 : decode cX10_servedBy 33 = .ok (.iadd, 1) := by decide +kernel
theorem dX10_servedBy_34 : decode cX10_servedBy 34 = .ok (.idiv, 1) := by decide +kernel
theorem dX10_servedBy_35 : decode cX10_servedBy 35 = .ok (.istore_n 2, 1) := by decide +kernel
theorem dX10_servedBy_36 : decode cX10_servedBy 36 = .ok (.iinc 3 (-1), 3) := by decide +kernel
theorem dX10_servedBy_39 : decode cX10_servedBy 39 = .ok (.goto (-30), 3) := by decide +kernel
theorem dX10_servedBy_42 : decode cX10_servedBy 42 = .ok (.iconst 0, 1) := by decide +kernel
theorem dX10_servedBy_43 : decode cX10_servedBy 43 = .ok (.istore_n 3, 1) := by decide +kernel
theorem dX10_servedBy_44 : decode cX10_servedBy 44 = .ok (.iconst 0, 1) := by decide +kernel
theorem dX10_servedBy_45 : decode cX10_servedBy 45 = .ok (.istore 4, 2) := by decide +kernel
theorem dX10_servedBy_47 : decode cX10_servedBy 47 = .ok (.iconst 0, 1) := by decide +kernel
theorem dX10_servedBy_48 : decode cX10_servedBy 48 = .ok (.istore 5, 2) := by decide +kernel
theorem dX10_servedBy_50 : decode cX10_servedBy 50 = .ok (.iload 5, 2) := by decide +kernel
theorem dX10_servedBy_52 : decode cX10_servedBy 52 = .ok (.aload_n 0, 1) := by decide +kernel
theorem dX10_servedBy_53 : decode cX10_servedBy 53 = .ok (.getfield 197, 3) := by decide +kernel
theorem dX10_servedBy_56 : decode cX10_servedBy 56 = .ok (.if_icmp .ge 88, 3) := by decide +kernel
theorem dX10_servedBy_59 : decode cX10_servedBy 59 = .ok (.aload_n 0, 1) := by decide +kernel
theorem dX10_servedBy_60 : decode cX10_servedBy 60 = .ok (.getfield 69, 3) := by decide +kernel
theorem dX10_servedBy_63 : decode cX10_servedBy 63 = .ok (.iload 5, 2) := by decide +kernel
theorem dX10_servedBy_65 : decode cX10_servedBy 65 = .ok (.iaload, 1) := by decide +kernel
theorem dX10_servedBy_66 : decode cX10_servedBy 66 = .ok (.istore 6, 2) := by decide +kernel
theorem dX10_servedBy_68 : decode cX10_servedBy 68 = .ok (.iload 6, 2) := by decide +kernel
theorem dX10_servedBy_70 : decode cX10_servedBy 70 = .ok (.aload_n 0, 1) := by decide +kernel
theorem dX10_servedBy_71 : decode cX10_servedBy 71 = .ok (.getfield 97, 3) := by decide +kernel
theorem dX10_servedBy_74 : decode cX10_servedBy 74 = .ok (.if_icmp .ge 64, 3) := by decide +kernel
theorem dX10_servedBy_77 : decode cX10_servedBy 77 = .ok (.iload 4, 2) := by decide +kernel
theorem dX10_servedBy_79 : decode cX10_servedBy 79 = .ok (.iload 6, 2) := by decide +kernel
theorem dX10_servedBy_81 : decode cX10_servedBy 81 = .ok (.invokestatic 151, 3) := by decide +kernel
theorem dX10_servedBy_84 : decode cX10_servedBy 84 = .ok (.ifCond .ne 40, 3) := by decide +kernel
theorem dX10_servedBy_87 : decode cX10_servedBy 87 = .ok (.aload_n 0, 1) := by decide +kernel
theorem dX10_servedBy_88 : decode cX10_servedBy 88 = .ok (.getfield 7, 3) := by decide +kernel
theorem dX10_servedBy_91 : decode cX10_servedBy 91 = .ok (.iconst 0, 1) := by decide +kernel
theorem dX10_servedBy_92 : decode cX10_servedBy 92 = .ok (.iaload, 1) := by decide +kernel
theorem dX10_servedBy_93 : decode cX10_servedBy 93 = .ok (.aload_n 0, 1) := by decide +kernel
theorem dX10_servedBy_94 : decode cX10_servedBy 94 = .ok (.aload_n 0, 1) := by decide +kernel
theorem dX10_servedBy_95 : decode cX10_servedBy 95 = .ok (.getfield 7, 3) := by decide +kernel
theorem dX10_servedBy_98 : decode cX10_servedBy 98 = .ok (.iconst 2, 1) := by decide +kernel
theorem dX10_servedBy_99 : decode cX10_servedBy 99 = .ok (.iload 6, 2) := by decide +kernel
theorem dX10_servedBy_101 : decode cX10_servedBy 101 = .ok (.iadd, 1) := by decide +kernel
theorem dX10_servedBy_102 : decode cX10_servedBy 102 = .ok (.iaload, 1) := by decide +kernel
theorem dX10_servedBy_103 : decode cX10_servedBy 103 = .ok (.aload_n 0, 1) := by decide +kernel
theorem dX10_servedBy_104 : decode cX10_servedBy 104 = .ok (.getfield 29, 3) := by decide +kernel
theorem dX10_servedBy_107 : decode cX10_servedBy 107 = .ok (.iload 5, 2) := by decide +kernel
theorem dX10_servedBy_109 : decode cX10_servedBy 109 = .ok (.iaload, 1) := by decide +kernel
theorem dX10_servedBy_110 : decode cX10_servedBy 110 = .ok (.invokevirtual 289, 3) := by decide +kernel
theorem dX10_servedBy_113 : decode cX10_servedBy 113 = .ok (.iadd, 1) := by decide +kernel
theorem dX10_servedBy_114 : decode cX10_servedBy 114 = .ok (.aload_n 0, 1) := by decide +kernel
theorem dX10_servedBy_115 : decode cX10_servedBy 115 = .ok (.getfield 32, 3) := by decide +kernel
theorem dX10_servedBy_118 : decode cX10_servedBy 118 = .ok (.iload 5, 2) := by decide +kernel
theorem dX10_servedBy_120 : decode cX10_servedBy 120 = .ok (.iaload, 1) := by decide +kernel
theorem dX10_servedBy_121 : decode cX10_servedBy 121 = .ok (.if_icmp .le 5, 3) := by decide +kernel
theorem dX10_servedBy_124 : decode cX10_servedBy 124 = .ok (.iconst (-1), 1) := by decide +kernel
theorem dX10_servedBy_125 : decode cX10_servedBy 125 = .ok (.ireturn, 1) := by decide +kernel
theorem dX10_servedBy_126 : decode cX10_servedBy 126 = .ok (.iload 4, 2) := by decide +kernel
theorem dX10_servedBy_128 : decode cX10_servedBy 128 = .ok (.iconst 1, 1) := by decide +kernel
theorem dX10_servedBy_129 : decode cX10_servedBy 129 = .ok (.iload 6, 2) := by decide +kernel
theorem dX10_servedBy_131 : decode cX10_servedBy 131 = .ok (.ishl, 1) := by decide +kernel
theorem dX10_servedBy_132 : decode cX10_servedBy 132 = .ok (.ior, 1) := by decide +kernel
theorem dX10_servedBy_133 : decode cX10_servedBy 133 = .ok (.istore 4, 2) := by decide +kernel
theorem dX10_servedBy_135 : decode cX10_servedBy 135 = .ok (.iinc 3 1, 3) := by decide +kernel
theorem dX10_servedBy_138 : decode cX10_servedBy 138 = .ok (.iinc 5 1, 3) := by decide +kernel
theorem dX10_servedBy_141 : decode cX10_servedBy 141 = .ok (.goto (-91), 3) := by decide +kernel
theorem dX10_servedBy_144 : decode cX10_servedBy 144 = .ok (.iload_n 3, 1) := by decide +kernel
theorem dX10_servedBy_145 : decode cX10_servedBy 145 = .ok (.ireturn, 1) := by decide +kernel
theorem dX10_served_0 : decode cX10_served 0 = .ok (.iload_n 1, 1) := by decide +kernel
theorem dX10_served_1 : decode cX10_served 1 = .ok (.iconst (-1), 1) := by decide +kernel
theorem dX10_served_2 : decode cX10_served 2 = .ok (.if_icmp .eq 22, 3) := by decide +kernel
theorem dX10_served_5 : decode cX10_served 5 = .ok (.iload_n 1, 1) := by decide +kernel
theorem dX10_served_6 : decode cX10_served 6 = .ok (.i2l, 1) := by decide +kernel
theorem dX10_served_7 : decode cX10_served 7 = .ok (.lconst 0, 1) := by decide +kernel
theorem dX10_served_8 : decode cX10_served 8 = .ok (.aload_n 0, 1) := by decide +kernel
theorem dX10_served_9 : decode cX10_served 9 = .ok (.getfield 197, 3) := by decide +kernel
theorem dX10_served_12 : decode cX10_served 12 = .ok (.iconst 1, 1) := by decide +kernel
theorem dX10_served_13 : decode cX10_served 13 = .ok (.isub, 1) := by decide +kernel
theorem dX10_served_14 : decode cX10_served 14 = .ok (.i2l, 1) := by decide +kernel
theorem dX10_served_15 : decode cX10_served 15 = .ok (.invokestatic 93, 3) := by decide +kernel
theorem dX10_served_18 : decode cX10_served 18 = .ok (.ifCond .ne 6, 3) := by decide +kernel
theorem dX10_served_21 : decode cX10_served 21 = .ok (.ldc 219, 2) := by decide +kernel
theorem dX10_served_23 : decode cX10_served 23 = .ok (.ireturn, 1) := by decide +kernel
theorem dX10_served_24 : decode cX10_served 24 = .ok (.iconst 1, 1) := by decide +kernel
theorem dX10_served_25 : decode cX10_served 25 = .ok (.istore_n 2, 1) := by decide +kernel
theorem dX10_served_26 : decode cX10_served 26 = .ok (.iconst 0, 1) := by decide +kernel
theorem dX10_served_27 : decode cX10_served 27 = .ok (.istore_n 3, 1) := by decide +kernel
theorem dX10_served_28 : decode cX10_served 28 = .ok (.iload_n 3, 1) := by decide +kernel
theorem dX10_served_29 : decode cX10_served 29 = .ok (.aload_n 0, 1) := by decide +kernel
theorem dX10_served_30 : decode cX10_served 30 = .ok (.getfield 197, 3) := by decide +kernel
theorem dX10_served_33 : decode cX10_served 33 = .ok (.if_icmp .ge 18, 3) := by decide +kernel
theorem dX10_served_36 : decode cX10_served 36 = .ok (.iload_n 2, 1) := by decide +kernel
theorem dX10_served_37 : decode cX10_served 37 = .ok (.aload_n 0, 1) := by decide +kernel
theorem dX10_served_38 : decode cX10_served 38 = .ok (.getfield 97, 3) := by decide +kernel
theorem dX10_served_41 : decode cX10_served 41 = .ok (.iconst 1, 1) := by decide +kernel
theorem dX10_served_42 : decode cX10_served 42 = .ok (.iadd, 1) := by decide +kernel
theorem dX10_served_43 : decode cX10_served 43 = .ok (.imul, 1) := by decide +kernel
theorem dX10_served_44 : decode cX10_served 44 = .ok (.istore_n 2, 1) := by decide +kernel
theorem dX10_served_45 : decode cX10_served 45 = .ok (.iinc 3 1, 3) := by decide +kernel
theorem dX10_served_48 : decode cX10_served 48 = .ok (.goto (-20), 3) := by decide +kernel
theorem dX10_served_51 : decode cX10_served 51 = .ok (.iconst (-1), 1) := by decide +kernel
theorem dX10_served_52 : decode cX10_served 52 = .ok (.istore_n 3, 1) := by decide +kernel
theorem dX10_served_53 : decode cX10_served 53 = .ok (.iconst 0, 1) := by decide +kernel
theorem dX10_served_54 : decode cX10_served 54 = .ok (.istore 4, 2) := by decide +kernel
theorem dX10_served_56 : decode cX10_served 56 = .ok (.iload 4, 2) := by decide +kernel
theorem dX10_served_58 : decode cX10_served 58 = .ok (.iload_n 2, 1) := by decide +kernel
theorem dX10_served_59 : decode cX10_served 59 = .ok (.if_icmp .ge 58, 3) := by decide +kernel
theorem dX10_served_62 : decode cX10_served 62 = .ok (.aload_n 0, 1) := by decide +kernel
theorem dX10_served_63 : decode cX10_served 63 = .ok (.iload 4, 2) := by decide +kernel
theorem dX10_served_65 : decode cX10_served 65 = .ok (.invokevirtual 298, 3) := by decide +kernel
theorem dX10_served_68 : decode cX10_served 68 = .ok (.istore 5, 2) := by decide +kernel
theorem dX10_served_70 : decode cX10_served 70 = .ok (.iload 5, 2) := by decide +kernel
theorem dX10_served_72 : decode cX10_served 72 = .ok (.iload_n 3, 1) := by decide +kernel
theorem dX10_served_73 : decode cX10_served 73 = .ok (.if_icmp .le 38, 3) := by decide +kernel
theorem dX10_served_76 : decode cX10_served 76 = .ok (.iload 5, 2) := by decide +kernel
theorem dX10_served_78 : decode cX10_served 78 = .ok (.istore_n 3, 1) := by decide +kernel
theorem dX10_served_79 : decode cX10_served 79 = .ok (.iconst 0, 1) := by decide +kernel
theorem dX10_served_80 : decode cX10_served 80 = .ok (.istore 6, 2) := by decide +kernel
theorem dX10_served_82 : decode cX10_served 82 = .ok (.iload 6, 2) := by decide +kernel
theorem dX10_served_84 : decode cX10_served 84 = .ok (.aload_n 0, 1) := by decide +kernel
theorem dX10_served_85 : decode cX10_served 85 = .ok (.getfield 197, 3) := by decide +kernel
theorem dX10_served_88 : decode cX10_served 88 = .ok (.if_icmp .ge 23, 3) := by decide +kernel
theorem dX10_served_91 : decode cX10_served 91 = .ok (.aload_n 0, 1) := by decide +kernel
theorem dX10_served_92 : decode cX10_served 92 = .ok (.getfield 72, 3) := by decide +kernel
theorem dX10_served_95 : decode cX10_served 95 = .ok (.iload 6, 2) := by decide +kernel
theorem dX10_served_97 : decode cX10_served 97 = .ok (.aload_n 0, 1) := by decide +kernel
theorem dX10_served_98 : decode cX10_served 98 = .ok (.getfield 69, 3) := by decide +kernel
theorem dX10_served_101 : decode cX10_served 101 = .ok (.iload 6, 2) := by decide +kernel
theorem dX10_served_103 : decode cX10_served 103 = .ok (.iaload, 1) := by decide +kernel
theorem dX10_served_104 : decode cX10_served 104 = .ok (.iastore, 1) := by decide +kernel
theorem dX10_served_105 : decode cX10_served 105 = .ok (.iinc 6 1, 3) := by decide +kernel
theorem dX10_served_108 : decode cX10_served 108 = .ok (.goto (-26), 3) := by decide +kernel
theorem dX10_served_111 : decode cX10_served 111 = .ok (.iinc 4 1, 3) := by decide +kernel
theorem dX10_served_114 : decode cX10_served 114 = .ok (.goto (-58), 3) := by decide +kernel
theorem dX10_served_117 : decode cX10_served 117 = .ok (.iload_n 1, 1) := by decide +kernel
theorem dX10_served_118 : decode cX10_served 118 = .ok (.iconst (-1), 1) := by decide +kernel
theorem dX10_served_119 : decode cX10_served 119 = .ok (.if_icmp .ne 7, 3) := by decide +kernel
theorem dX10_served_122 : decode cX10_served 122 = .ok (.iload_n 3, 1) := by decide +kernel
theorem dX10_served_123 : decode cX10_served 123 = .ok (.goto 26, 3) := by decide +kernel
theorem dX10_served_126 : decode cX10_served 126 = .ok (.aload_n 0, 1) := by decide +kernel
theorem dX10_served_127 : decode cX10_served 127 = .ok (.getfield 72, 3) := by decide +kernel
theorem dX10_served_130 : decode cX10_served 130 = .ok (.iload_n 1, 1) := by decide +kernel
theorem dX10_served_131 : decode cX10_served 131 = .ok (.iaload, 1) := by decide +kernel
theorem dX10_served_132 : decode cX10_served 132 = .ok (.aload_n 0, 1) := by decide +kernel
theorem dX10_served_133 : decode cX10_served 133 = .ok (.getfield 97, 3) := by decide +kernel
theorem dX10_served_136 : decode cX10_served 136 = .ok (.if_icmp .ne 7, 3) := by decide +kernel
theorem dX10_served_139 : decode cX10_served 139 = .ok (.iconst (-1), 1) := by decide +kernel
theorem dX10_served_140 : decode cX10_served 140 = .ok (.goto 9, 3) := by decide +kernel
theorem dX10_served_143 : decode cX10_served 143 = .ok (.aload_n 0, 1) := by decide +kernel
theorem dX10_served_144 : decode cX10_served 144 = .ok (.getfield 72, 3) := by decide +kernel
theorem dX10_served_147 : decode cX10_served 147 = .ok (.iload_n 1, 1) := by decide +kernel
theorem dX10_served_148 : decode cX10_served 148 = .ok (.iaload, 1) := by decide +kernel
theorem dX10_served_149 : decode cX10_served 149 = .ok (.ireturn, 1) := by decide +kernel
theorem dX10_evened_0 : decode cX10_evened 0 = .ok (.aload_n 0, 1) := by decide +kernel
theorem dX10_evened_1 : decode cX10_evened 1 = .ok (.iload_n 1, 1) := by decide +kernel
theorem dX10_evened_2 : decode cX10_evened 2 = .ok (.invokevirtual 100, 3) := by decide +kernel
theorem dX10_evened_5 : decode cX10_evened 5 = .ok (.ifCond .ne 6, 3) := by decide +kernel
theorem dX10_evened_8 : decode cX10_evened 8 = .ok (.ldc 219, 2) := by decide +kernel
theorem dX10_evened_10 : decode cX10_evened 10 = .ok (.ireturn, 1) := by decide +kernel
theorem dX10_evened_11 : decode cX10_evened 11 = .ok (.iload_n 2, 1) := by decide +kernel
theorem dX10_evened_12 : decode cX10_evened 12 = .ok (.i2l, 1) := by decide +kernel
theorem dX10_evened_13 : decode cX10_evened 13 = .ok (.lconst 0, 1) := by decide +kernel
theorem dX10_evened_14 : decode cX10_evened 14 = .ok (.lconst 1, 1) := by decide +kernel
theorem dX10_evened_15 : decode cX10_evened 15 = .ok (.invokestatic 93, 3) := by decide +kernel
theorem dX10_evened_18 : decode cX10_evened 18 = .ok (.ifCond .ne 6, 3) := by decide +kernel
theorem dX10_evened_21 : decode cX10_evened 21 = .ok (.ldc 109, 2) := by decide +kernel
theorem dX10_evened_23 : decode cX10_evened 23 = .ok (.ireturn, 1) := by decide +kernel
theorem dX10_evened_24 : decode cX10_evened 24 = .ok (.aload_n 0, 1) := by decide +kernel
theorem dX10_evened_25 : decode cX10_evened 25 = .ok (.iconst 0, 1) := by decide +kernel
theorem dX10_evened_26 : decode cX10_evened 26 = .ok (.iload_n 1, 1) := by decide +kernel
theorem dX10_evened_27 : decode cX10_evened 27 = .ok (.invokevirtual 223, 3) := by decide +kernel
theorem dX10_evened_30 : decode cX10_evened 30 = .ok (.istore_n 3, 1) := by decide +kernel
theorem dX10_evened_31 : decode cX10_evened 31 = .ok (.iconst 0, 1) := by decide +kernel
theorem dX10_evened_32 : decode cX10_evened 32 = .ok (.istore 4, 2) := by decide +kernel
theorem dX10_evened_34 : decode cX10_evened 34 = .ok (.ldc_w 288, 3) := by decide +kernel
theorem dX10_evened_37 : decode cX10_evened 37 = .ok (.istore 5, 2) := by decide +kernel
theorem dX10_evened_39 : decode cX10_evened 39 = .ok (.iconst 0, 1) := by decide +kernel
theorem dX10_evened_40 : decode cX10_evened 40 = .ok (.istore 6, 2) := by decide +kernel
theorem dX10_evened_42 : decode cX10_evened 42 = .ok (.iload 6, 2) := by decide +kernel
theorem dX10_evened_44 : decode cX10_evened 44 = .ok (.sipush 256, 3) := by decide +kernel
theorem dX10_evened_47 : decode cX10_evened 47 = .ok (.if_icmp .ge 84, 3) := by decide +kernel
theorem dX10_evened_50 : decode cX10_evened 50 = .ok (.iload 6, 2) := by decide +kernel
theorem dX10_evened_52 : decode cX10_evened 52 = .ok (.iload_n 3, 1) := by decide +kernel
theorem dX10_evened_53 : decode cX10_evened 53 = .ok (.iconst (-1), 1) := by decide +kernel
theorem dX10_evened_54 : decode cX10_evened 54 = .ok (.ixor, 1) := by decide +kernel
theorem dX10_evened_55 : decode cX10_evened 55 = .ok (.iand, 1) := by decide +kernel
theorem dX10_evened_56 : decode cX10_evened 56 = .ok (.ifCond .ne 69, 3) := by decide +kernel
theorem dX10_evened_59 : decode cX10_evened 59 = .ok (.aload_n 0, 1) := by decide +kernel
theorem dX10_evened_60 : decode cX10_evened 60 = .ok (.iload 6, 2) := by decide +kernel
theorem dX10_evened_62 : decode cX10_evened 62 = .ok (.invokevirtual 220, 3) := by decide +kernel
theorem dX10_evened_65 : decode cX10_evened 65 = .ok (.aload_n 0, 1) := by decide +kernel
theorem dX10_evened_66 : decode cX10_evened 66 = .ok (.iload_n 3, 1) := by decide +kernel
theorem dX10_evened_67 : decode cX10_evened 67 = .ok (.iload 6, 2) := by decide +kernel
theorem dX10_evened_69 : decode cX10_evened 69 = .ok (.iconst (-1), 1) := by decide +kernel
theorem dX10_evened_70 : decode cX10_evened 70 = .ok (.ixor, 1) := by decide +kernel
theorem dX10_evened_71 : decode cX10_evened 71 = .ok (.iand, 1) := by decide +kernel
theorem dX10_evened_72 : decode cX10_evened 72 = .ok (.invokevirtual 220, 3) := by decide +kernel
theorem dX10_evened_75 : decode cX10_evened 75 = .ok (.isub, 1) := by decide +kernel
theorem dX10_evened_76 : decode cX10_evened 76 = .ok (.istore 7, 2) := by decide +kernel
theorem dX10_evened_78 : decode cX10_evened 78 = .ok (.iload 7, 2) := by decide +kernel
theorem dX10_evened_80 : decode cX10_evened 80 = .ok (.ifCond .ge 9, 3) := by decide +kernel
theorem dX10_evened_83 : decode cX10_evened 83 = .ok (.iload 7, 2) := by decide +kernel
theorem dX10_evened_85 : decode cX10_evened 85 = .ok (.ineg, 1) := by decide +kernel
theorem dX10_evened_86 : decode cX10_evened 86 = .ok (.goto 5, 3) := by decide +kernel
theorem dX10_evened_89 : decode cX10_evened 89 = .ok (.iload 7, 2) := by decide +kernel
theorem dX10_evened_91 : decode cX10_evened 91 = .ok (.istore 7, 2) := by decide +kernel
theorem dX10_evened_93 : decode cX10_evened 93 = .ok (.iload 7, 2) := by decide +kernel
theorem dX10_evened_95 : decode cX10_evened 95 = .ok (.iload 5, 2) := by decide +kernel
theorem dX10_evened_97 : decode cX10_evened 97 = .ok (.if_icmp .ge 8, 3) := by decide +kernel
theorem dX10_evened_100 : decode cX10_evened 100 = .ok (.iload 6, 2) := by decide +kernel
theorem dX10_evened_102 : decode cX10_evened 102 = .ok (.goto 5, 3) := by decide +kernel
theorem dX10_evened_105 : decode cX10_evened 105 = .ok (.iload 4, 2) := by decide +kernel
theorem dX10_evened_107 : decode cX10_evened 107 = .ok (.istore 4, 2) := by decide +kernel
theorem dX10_evened_109 : decode cX10_evened 109 = .ok (.iload 7, 2) := by decide +kernel
theorem dX10_evened_111 : decode cX10_evened 111 = .ok (.iload 5, 2) := by decide +kernel
theorem dX10_evened_113 : decode cX10_evened 113 = .ok (.if_icmp .ge 8, 3) := by decide +kernel
theorem dX10_evened_116 : decode cX10_evened 116 = .ok (.iload 7, 2) := by decide +kernel
theorem dX10_evened_118 : decode cX10_evened 118 = .ok (.goto 5, 3) := by decide +kernel
theorem dX10_evened_121 : decode cX10_evened 121 = .ok (.iload 5, 2) := by decide +kernel
theorem dX10_evened_123 : decode cX10_evened 123 = .ok (.istore 5, 2) := by decide +kernel
theorem dX10_evened_125 : decode cX10_evened 125 = .ok (.iinc 6 1, 3) := by decide +kernel
theorem dX10_evened_128 : decode cX10_evened 128 = .ok (.goto (-86), 3) := by decide +kernel
theorem dX10_evened_131 : decode cX10_evened 131 = .ok (.iload_n 2, 1) := by decide +kernel
theorem dX10_evened_132 : decode cX10_evened 132 = .ok (.ifCond .ne 8, 3) := by decide +kernel
theorem dX10_evened_135 : decode cX10_evened 135 = .ok (.iload 4, 2) := by decide +kernel
theorem dX10_evened_137 : decode cX10_evened 137 = .ok (.goto 5, 3) := by decide +kernel
theorem dX10_evened_140 : decode cX10_evened 140 = .ok (.iload 5, 2) := by decide +kernel
theorem dX10_evened_142 : decode cX10_evened 142 = .ok (.ireturn, 1) := by decide +kernel
theorem dX10_packed_0 : decode cX10_packed 0 = .ok (.aload_n 0, 1) := by decide +kernel
theorem dX10_packed_1 : decode cX10_packed 1 = .ok (.iload_n 1, 1) := by decide +kernel
theorem dX10_packed_2 : decode cX10_packed 2 = .ok (.invokevirtual 100, 3) := by decide +kernel
theorem dX10_packed_5 : decode cX10_packed 5 = .ok (.ifCond .ne 6, 3) := by decide +kernel
theorem dX10_packed_8 : decode cX10_packed 8 = .ok (.ldc 219, 2) := by decide +kernel
theorem dX10_packed_10 : decode cX10_packed 10 = .ok (.ireturn, 1) := by decide +kernel
theorem dX10_packed_11 : decode cX10_packed 11 = .ok (.iload_n 2, 1) := by decide +kernel
theorem dX10_packed_12 : decode cX10_packed 12 = .ok (.i2l, 1) := by decide +kernel
theorem dX10_packed_13 : decode cX10_packed 13 = .ok (.lconst 0, 1) := by decide +kernel
theorem dX10_packed_14 : decode cX10_packed 14 = .ok (.lconst 1, 1) := by decide +kernel
theorem dX10_packed_15 : decode cX10_packed 15 = .ok (.invokestatic 93, 3) := by decide +kernel
theorem dX10_packed_18 : decode cX10_packed 18 = .ok (.ifCond .ne 6, 3) := by decide +kernel
theorem dX10_packed_21 : decode cX10_packed 21 = .ok (.ldc 109, 2) := by decide +kernel
theorem dX10_packed_23 : decode cX10_packed 23 = .ok (.ireturn, 1) := by decide +kernel
theorem dX10_packed_24 : decode cX10_packed 24 = .ok (.aload_n 0, 1) := by decide +kernel
theorem dX10_packed_25 : decode cX10_packed 25 = .ok (.iconst 0, 1) := by decide +kernel
theorem dX10_packed_26 : decode cX10_packed 26 = .ok (.iconst (-1), 1) := by decide +kernel
theorem dX10_packed_27 : decode cX10_packed 27 = .ok (.invokevirtual 209, 3) := by decide +kernel
theorem dX10_packed_30 : decode cX10_packed 30 = .ok (.istore_n 3, 1) := by decide +kernel
theorem dX10_packed_31 : decode cX10_packed 31 = .ok (.aload_n 0, 1) := by decide +kernel
theorem dX10_packed_32 : decode cX10_packed 32 = .ok (.getfield 20, 3) := by decide +kernel
theorem dX10_packed_35 : decode cX10_packed 35 = .ok (.iload_n 1, 1) := by decide +kernel
theorem dX10_packed_36 : decode cX10_packed 36 = .ok (.iaload, 1) := by decide +kernel
theorem dX10_packed_37 : decode cX10_packed 37 = .ok (.aload_n 0, 1) := by decide +kernel
theorem dX10_packed_38 : decode cX10_packed 38 = .ok (.aload_n 0, 1) := by decide +kernel
theorem dX10_packed_39 : decode cX10_packed 39 = .ok (.iconst 0, 1) := by decide +kernel
theorem dX10_packed_40 : decode cX10_packed 40 = .ok (.iload_n 1, 1) := by decide +kernel
theorem dX10_packed_41 : decode cX10_packed 41 = .ok (.invokevirtual 223, 3) := by decide +kernel
theorem dX10_packed_44 : decode cX10_packed 44 = .ok (.invokevirtual 220, 3) := by decide +kernel
theorem dX10_packed_47 : decode cX10_packed 47 = .ok (.isub, 1) := by decide +kernel
theorem dX10_packed_48 : decode cX10_packed 48 = .ok (.istore 4, 2) := by decide +kernel
theorem dX10_packed_50 : decode cX10_packed 50 = .ok (.iconst 0, 1) := by decide +kernel
theorem dX10_packed_51 : decode cX10_packed 51 = .ok (.istore 5, 2) := by decide +kernel
theorem dX10_packed_53 : decode cX10_packed 53 = .ok (.iconst 0, 1) := by decide +kernel
theorem dX10_packed_54 : decode cX10_packed 54 = .ok (.istore 6, 2) := by decide +kernel
theorem dX10_packed_56 : decode cX10_packed 56 = .ok (.iload 6, 2) := by decide +kernel
theorem dX10_packed_58 : decode cX10_packed 58 = .ok (.sipush 256, 3) := by decide +kernel
theorem dX10_packed_61 : decode cX10_packed 61 = .ok (.if_icmp .ge 65, 3) := by decide +kernel
theorem dX10_packed_64 : decode cX10_packed 64 = .ok (.iload 6, 2) := by decide +kernel
theorem dX10_packed_66 : decode cX10_packed 66 = .ok (.iload_n 3, 1) := by decide +kernel
theorem dX10_packed_67 : decode cX10_packed 67 = .ok (.iconst (-1), 1) := by decide +kernel
theorem dX10_packed_68 : decode cX10_packed 68 = .ok (.ixor, 1) := by decide +kernel
theorem dX10_packed_69 : decode cX10_packed 69 = .ok (.iand, 1) := by decide +kernel
theorem dX10_packed_70 : decode cX10_packed 70 = .ok (.ifCond .ne 18, 3) := by decide +kernel
theorem dX10_packed_73 : decode cX10_packed 73 = .ok (.aload_n 0, 1) := by decide +kernel
theorem dX10_packed_74 : decode cX10_packed 74 = .ok (.iload 6, 2) := by decide +kernel
theorem dX10_packed_76 : decode cX10_packed 76 = .ok (.invokevirtual 220, 3) := by decide +kernel
theorem dX10_packed_79 : decode cX10_packed 79 = .ok (.iload 4, 2) := by decide +kernel
theorem dX10_packed_81 : decode cX10_packed 81 = .ok (.if_icmp .gt 7, 3) := by decide +kernel
theorem dX10_packed_84 : decode cX10_packed 84 = .ok (.iconst 1, 1) := by decide +kernel
theorem dX10_packed_85 : decode cX10_packed 85 = .ok (.goto 4, 3) := by decide +kernel
theorem dX10_packed_88 : decode cX10_packed 88 = .ok (.iconst 0, 1) := by decide +kernel
theorem dX10_packed_89 : decode cX10_packed 89 = .ok (.istore 7, 2) := by decide +kernel
theorem dX10_packed_91 : decode cX10_packed 91 = .ok (.iload 7, 2) := by decide +kernel
theorem dX10_packed_93 : decode cX10_packed 93 = .ok (.ifCond .eq 23, 3) := by decide +kernel
theorem dX10_packed_96 : decode cX10_packed 96 = .ok (.aload_n 0, 1) := by decide +kernel
theorem dX10_packed_97 : decode cX10_packed 97 = .ok (.iload 6, 2) := by decide +kernel
theorem dX10_packed_99 : decode cX10_packed 99 = .ok (.invokevirtual 213, 3) := by decide +kernel
theorem dX10_packed_102 : decode cX10_packed 102 = .ok (.aload_n 0, 1) := by decide +kernel
theorem dX10_packed_103 : decode cX10_packed 103 = .ok (.iload 5, 2) := by decide +kernel
theorem dX10_packed_105 : decode cX10_packed 105 = .ok (.invokevirtual 213, 3) := by decide +kernel
theorem dX10_packed_108 : decode cX10_packed 108 = .ok (.if_icmp .le 8, 3) := by decide +kernel
theorem dX10_packed_111 : decode cX10_packed 111 = .ok (.iload 6, 2) := by decide +kernel
theorem dX10_packed_113 : decode cX10_packed 113 = .ok (.goto 5, 3) := by decide +kernel
theorem dX10_packed_116 : decode cX10_packed 116 = .ok (.iload 5, 2) := by decide +kernel
theorem dX10_packed_118 : decode cX10_packed 118 = .ok (.istore 5, 2) := by decide +kernel
theorem dX10_packed_120 : decode cX10_packed 120 = .ok (.iinc 6 1, 3) := by decide +kernel
theorem dX10_packed_123 : decode cX10_packed 123 = .ok (.goto (-67), 3) := by decide +kernel
theorem dX10_packed_126 : decode cX10_packed 126 = .ok (.iload_n 2, 1) := by decide +kernel
theorem dX10_packed_127 : decode cX10_packed 127 = .ok (.ifCond .ne 8, 3) := by decide +kernel
theorem dX10_packed_130 : decode cX10_packed 130 = .ok (.iload 5, 2) := by decide +kernel
theorem dX10_packed_132 : decode cX10_packed 132 = .ok (.goto 9, 3) := by decide +kernel
theorem dX10_packed_135 : decode cX10_packed 135 = .ok (.aload_n 0, 1) := by decide +kernel
theorem dX10_packed_136 : decode cX10_packed 136 = .ok (.iload 5, 2) := by decide +kernel
theorem dX10_packed_138 : decode cX10_packed 138 = .ok (.invokevirtual 213, 3) := by decide +kernel
theorem dX10_packed_141 : decode cX10_packed 141 = .ok (.ireturn, 1) := by decide +kernel
theorem dX10_covered_0 : decode cX10_covered 0 = .ok (.aload_n 0, 1) := by decide +kernel
theorem dX10_covered_1 : decode cX10_covered 1 = .ok (.iload_n 1, 1) := by decide +kernel
theorem dX10_covered_2 : decode cX10_covered 2 = .ok (.invokevirtual 216, 3) := by decide +kernel
theorem dX10_covered_5 : decode cX10_covered 5 = .ok (.ifCond .ne 6, 3) := by decide +kernel
theorem dX10_covered_8 : decode cX10_covered 8 = .ok (.ldc 219, 2) := by decide +kernel
theorem dX10_covered_10 : decode cX10_covered 10 = .ok (.ireturn, 1) := by decide +kernel
theorem dX10_covered_11 : decode cX10_covered 11 = .ok (.iload_n 2, 1) := by decide +kernel
theorem dX10_covered_12 : decode cX10_covered 12 = .ok (.i2l, 1) := by decide +kernel
theorem dX10_covered_13 : decode cX10_covered 13 = .ok (.lconst 0, 1) := by decide +kernel
theorem dX10_covered_14 : decode cX10_covered 14 = .ok (.ldc2_w 280, 3) := by decide +kernel
theorem dX10_covered_17 : decode cX10_covered 17 = .ok (.invokestatic 93, 3) := by decide +kernel
theorem dX10_covered_20 : decode cX10_covered 20 = .ok (.ifCond .ne 6, 3) := by decide +kernel
theorem dX10_covered_23 : decode cX10_covered 23 = .ok (.ldc 109, 2) := by decide +kernel
theorem dX10_covered_25 : decode cX10_covered 25 = .ok (.ireturn, 1) := by decide +kernel
theorem dX10_covered_26 : decode cX10_covered 26 = .ok (.iconst 1, 1) := by decide +kernel
theorem dX10_covered_27 : decode cX10_covered 27 = .ok (.iload_n 1, 1) := by decide +kernel
theorem dX10_covered_28 : decode cX10_covered 28 = .ok (.ishl, 1) := by decide +kernel
theorem dX10_covered_29 : decode cX10_covered 29 = .ok (.istore_n 3, 1) := by decide +kernel
theorem dX10_covered_30 : decode cX10_covered 30 = .ok (.iconst 0, 1) := by decide +kernel
theorem dX10_covered_31 : decode cX10_covered 31 = .ok (.istore 4, 2) := by decide +kernel
theorem dX10_covered_33 : decode cX10_covered 33 = .ok (.iload 4, 2) := by decide +kernel
theorem dX10_covered_35 : decode cX10_covered 35 = .ok (.iload_n 2, 1) := by decide +kernel
theorem dX10_covered_36 : decode cX10_covered 36 = .ok (.if_icmp .ge 58, 3) := by decide +kernel
theorem dX10_covered_39 : decode cX10_covered 39 = .ok (.iconst 0, 1) := by decide +kernel
theorem dX10_covered_40 : decode cX10_covered 40 = .ok (.istore 5, 2) := by decide +kernel
theorem dX10_covered_42 : decode cX10_covered 42 = .ok (.iconst 0, 1) := by decide +kernel
theorem dX10_covered_43 : decode cX10_covered 43 = .ok (.istore 6, 2) := by decide +kernel
theorem dX10_covered_45 : decode cX10_covered 45 = .ok (.iload 6, 2) := by decide +kernel
theorem dX10_covered_47 : decode cX10_covered 47 = .ok (.aload_n 0, 1) := by decide +kernel
theorem dX10_covered_48 : decode cX10_covered 48 = .ok (.getfield 90, 3) := by decide +kernel
theorem dX10_covered_51 : decode cX10_covered 51 = .ok (.if_icmp .ge 34, 3) := by decide +kernel
theorem dX10_covered_54 : decode cX10_covered 54 = .ok (.iload 5, 2) := by decide +kernel
theorem dX10_covered_56 : decode cX10_covered 56 = .ok (.iload_n 3, 1) := by decide +kernel
theorem dX10_covered_57 : decode cX10_covered 57 = .ok (.iload 6, 2) := by decide +kernel
theorem dX10_covered_59 : decode cX10_covered 59 = .ok (.invokestatic 151, 3) := by decide +kernel
theorem dX10_covered_62 : decode cX10_covered 62 = .ok (.ifCond .eq 13, 3) := by decide +kernel
theorem dX10_covered_65 : decode cX10_covered 65 = .ok (.aload_n 0, 1) := by decide +kernel
theorem dX10_covered_66 : decode cX10_covered 66 = .ok (.getfield 17, 3) := by decide +kernel
theorem dX10_covered_69 : decode cX10_covered 69 = .ok (.iload 6, 2) := by decide +kernel
theorem dX10_covered_71 : decode cX10_covered 71 = .ok (.iaload, 1) := by decide +kernel
theorem dX10_covered_72 : decode cX10_covered 72 = .ok (.goto 4, 3) := by decide +kernel
theorem dX10_covered_75 : decode cX10_covered 75 = .ok (.iconst 0, 1) := by decide +kernel
theorem dX10_covered_76 : decode cX10_covered 76 = .ok (.ior, 1) := by decide +kernel
theorem dX10_covered_77 : decode cX10_covered 77 = .ok (.istore 5, 2) := by decide +kernel
theorem dX10_covered_79 : decode cX10_covered 79 = .ok (.iinc 6 1, 3) := by decide +kernel
theorem dX10_covered_82 : decode cX10_covered 82 = .ok (.goto (-37), 3) := by decide +kernel
theorem dX10_covered_85 : decode cX10_covered 85 = .ok (.iload 5, 2) := by decide +kernel
theorem dX10_covered_87 : decode cX10_covered 87 = .ok (.istore_n 3, 1) := by decide +kernel
theorem dX10_covered_88 : decode cX10_covered 88 = .ok (.iinc 4 1, 3) := by decide +kernel
theorem dX10_covered_91 : decode cX10_covered 91 = .ok (.goto (-58), 3) := by decide +kernel
theorem dX10_covered_94 : decode cX10_covered 94 = .ok (.iload_n 3, 1) := by decide +kernel
theorem dX10_covered_95 : decode cX10_covered 95 = .ok (.ireturn, 1) := by decide +kernel
theorem dX10_calm_0 : decode cX10_calm 0 = .ok (.iload_n 1, 1) := by decide +kernel
theorem dX10_calm_1 : decode cX10_calm 1 = .ok (.i2l, 1) := by decide +kernel
theorem dX10_calm_2 : decode cX10_calm 2 = .ok (.lconst 0, 1) := by decide +kernel
theorem dX10_calm_3 : decode cX10_calm 3 = .ok (.ldc2_w 250, 3) := by decide +kernel
theorem dX10_calm_6 : decode cX10_calm 6 = .ok (.invokestatic 93, 3) := by decide +kernel
theorem dX10_calm_9 : decode cX10_calm 9 = .ok (.ifCond .eq 15, 3) := by decide +kernel
theorem dX10_calm_12 : decode cX10_calm 12 = .ok (.iload_n 2, 1) := by decide +kernel
theorem dX10_calm_13 : decode cX10_calm 13 = .ok (.i2l, 1) := by decide +kernel
theorem dX10_calm_14 : decode cX10_calm 14 = .ok (.lconst 0, 1) := by decide +kernel
theorem dX10_calm_15 : decode cX10_calm 15 = .ok (.ldc2_w 301, 3) := by decide +kernel
theorem dX10_calm_18 : decode cX10_calm 18 = .ok (.invokestatic 93, 3) := by decide +kernel
theorem dX10_calm_21 : decode cX10_calm 21 = .ok (.ifCond .ne 6, 3) := by decide +kernel
theorem dX10_calm_24 : decode cX10_calm 24 = .ok (.ldc 109, 2) := by decide +kernel
theorem dX10_calm_26 : decode cX10_calm 26 = .ok (.ireturn, 1) := by decide +kernel
theorem dX10_calm_27 : decode cX10_calm 27 = .ok (.ldc2_w 303, 3) := by decide +kernel
theorem dX10_calm_30 : decode cX10_calm 30 = .ok (.lstore_n 3, 1) := by decide +kernel
theorem dX10_calm_31 : decode cX10_calm 31 = .ok (.iconst 0, 1) := by decide +kernel
theorem dX10_calm_32 : decode cX10_calm 32 = .ok (.istore 5, 2) := by decide +kernel
theorem dX10_calm_34 : decode cX10_calm 34 = .ok (.iload 5, 2) := by decide +kernel
theorem dX10_calm_36 : decode cX10_calm 36 = .ok (.iload_n 1, 1) := by decide +kernel
theorem dX10_calm_37 : decode cX10_calm 37 = .ok (.if_icmp .ge 21, 3) := by decide +kernel
theorem dX10_calm_40 : decode cX10_calm 40 = .ok (.lload_n 3, 1) := by decide +kernel
theorem dX10_calm_41 : decode cX10_calm 41 = .ok (.bipush 100, 2) := by decide +kernel
theorem dX10_calm_43 : decode cX10_calm 43 = .ok (.iload_n 2, 1) := by decide +kernel
theorem dX10_calm_44 : decode cX10_calm 44 = .ok (.isub, 1) := by decide +kernel
theorem dX10_calm_45 : decode cX10_calm 45 = .ok (.i2l, 1) := by decide +kernel
theorem dX10_calm_46 : decode cX10_calm 46 = .ok (.lmul, 1) := by decide +kernel
theorem dX10_calm_47 : decode cX10_calm 47 = .ok (.ldc2_w 301, 3) := by decide +kernel
theorem dX10_calm_50 : decode cX10_calm 50 = .ok (.ldiv, 1) := by decide +kernel
theorem dX10_calm_51 : decode cX10_calm 51 = .ok (.lstore_n 3, 1) := by decide +kernel
theorem dX10_calm_52 : decode cX10_calm 52 = .ok (.iinc 5 1, 3) := by decide +kernel
theorem dX10_calm_55 : decode cX10_calm 55 = .ok (.goto (-21), 3) := by decide +kernel
theorem dX10_calm_58 : decode cX10_calm 58 = .ok (.lload_n 3, 1) := by decide +kernel
theorem dX10_calm_59 : decode cX10_calm 59 = .ok (.l2i, 1) := by decide +kernel
theorem dX10_calm_60 : decode cX10_calm 60 = .ok (.ireturn, 1) := by decide +kernel
theorem dX10_see_0 : decode cX10_see 0 = .ok (.aload_n 0, 1) := by decide +kernel
theorem dX10_see_1 : decode cX10_see 1 = .ok (.iload_n 1, 1) := by decide +kernel
theorem dX10_see_2 : decode cX10_see 2 = .ok (.invokevirtual 216, 3) := by decide +kernel
theorem dX10_see_5 : decode cX10_see 5 = .ok (.ifCond .ne 6, 3) := by decide +kernel
theorem dX10_see_8 : decode cX10_see 8 = .ok (.ldc 219, 2) := by decide +kernel
theorem dX10_see_10 : decode cX10_see 10 = .ok (.ireturn, 1) := by decide +kernel
theorem dX10_see_11 : decode cX10_see 11 = .ok (.iload_n 2, 1) := by decide +kernel
theorem dX10_see_12 : decode cX10_see 12 = .ok (.i2l, 1) := by decide +kernel
theorem dX10_see_13 : decode cX10_see 13 = .ok (.lconst 1, 1) := by decide +kernel
theorem dX10_see_14 : decode cX10_see 14 = .ok (.ldc2_w 280, 3) := by decide +kernel
theorem dX10_see_17 : decode cX10_see 17 = .ok (.invokestatic 93, 3) := by decide +kernel
theorem dX10_see_20 : decode cX10_see 20 = .ok (.ifCond .ne 6, 3) := by decide +kernel
theorem dX10_see_23 : decode cX10_see 23 = .ok (.ldc 109, 2) := by decide +kernel
theorem dX10_see_25 : decode cX10_see 25 = .ok (.ireturn, 1) := by decide +kernel
theorem dX10_see_26 : decode cX10_see 26 = .ok (.aload_n 0, 1) := by decide +kernel
theorem dX10_see_27 : decode cX10_see 27 = .ok (.getfield 200, 3) := by decide +kernel
theorem dX10_see_30 : decode cX10_see 30 = .ok (.bipush 6, 2) := by decide +kernel
theorem dX10_see_32 : decode cX10_see 32 = .ok (.if_icmp .ne 6, 3) := by decide +kernel
theorem dX10_see_35 : decode cX10_see 35 = .ok (.ldc 113, 2) := by decide +kernel
theorem dX10_see_37 : decode cX10_see 37 = .ok (.ireturn, 1) := by decide +kernel
theorem dX10_see_38 : decode cX10_see 38 = .ok (.aload_n 0, 1) := by decide +kernel
theorem dX10_see_39 : decode cX10_see 39 = .ok (.getfield 75, 3) := by decide +kernel
theorem dX10_see_42 : decode cX10_see 42 = .ok (.aload_n 0, 1) := by decide +kernel
theorem dX10_see_43 : decode cX10_see 43 = .ok (.getfield 200, 3) := by decide +kernel
theorem dX10_see_46 : decode cX10_see 46 = .ok (.iload_n 1, 1) := by decide +kernel
theorem dX10_see_47 : decode cX10_see 47 = .ok (.iastore, 1) := by decide +kernel
theorem dX10_see_48 : decode cX10_see 48 = .ok (.aload_n 0, 1) := by decide +kernel
theorem dX10_see_49 : decode cX10_see 49 = .ok (.getfield 78, 3) := by decide +kernel
theorem dX10_see_52 : decode cX10_see 52 = .ok (.aload_n 0, 1) := by decide +kernel
theorem dX10_see_53 : decode cX10_see 53 = .ok (.getfield 200, 3) := by decide +kernel
theorem dX10_see_56 : decode cX10_see 56 = .ok (.iload_n 2, 1) := by decide +kernel
theorem dX10_see_57 : decode cX10_see 57 = .ok (.iastore, 1) := by decide +kernel
theorem dX10_see_58 : decode cX10_see 58 = .ok (.aload_n 0, 1) := by decide +kernel
theorem dX10_see_59 : decode cX10_see 59 = .ok (.getfield 81, 3) := by decide +kernel
theorem dX10_see_62 : decode cX10_see 62 = .ok (.aload_n 0, 1) := by decide +kernel
theorem dX10_see_63 : decode cX10_see 63 = .ok (.getfield 200, 3) := by decide +kernel
theorem dX10_see_66 : decode cX10_see 66 = .ok (.iload_n 3, 1) := by decide +kernel
theorem dX10_see_67 : decode cX10_see 67 = .ok (.bastore, 1) := by decide +kernel
theorem dX10_see_68 : decode cX10_see 68 = .ok (.aload_n 0, 1) := by decide +kernel
theorem dX10_see_69 : decode cX10_see 69 = .ok (.dup, 1) := by decide +kernel
theorem dX10_see_70 : decode cX10_see 70 = .ok (.getfield 200, 3) := by decide +kernel
theorem dX10_see_73 : decode cX10_see 73 = .ok (.iconst 1, 1) := by decide +kernel
theorem dX10_see_74 : decode cX10_see 74 = .ok (.iadd, 1) := by decide +kernel
theorem dX10_see_75 : decode cX10_see 75 = .ok (.putfield 200, 3) := by decide +kernel
theorem dX10_see_78 : decode cX10_see 78 = .ok (.aload_n 0, 1) := by decide +kernel
theorem dX10_see_79 : decode cX10_see 79 = .ok (.getfield 200, 3) := by decide +kernel
theorem dX10_see_82 : decode cX10_see 82 = .ok (.ireturn, 1) := by decide +kernel
theorem dX10_comesTo_0 : decode cX10_comesTo 0 = .ok (.iconst 0, 1) := by decide +kernel
theorem dX10_comesTo_1 : decode cX10_comesTo 1 = .ok (.istore_n 3, 1) := by decide +kernel
theorem dX10_comesTo_2 : decode cX10_comesTo 2 = .ok (.iconst 0, 1) := by decide +kernel
theorem dX10_comesTo_3 : decode cX10_comesTo 3 = .ok (.istore 4, 2) := by decide +kernel
theorem dX10_comesTo_5 : decode cX10_comesTo 5 = .ok (.iload 4, 2) := by decide +kernel
theorem dX10_comesTo_7 : decode cX10_comesTo 7 = .ok (.iload_n 2, 1) := by decide +kernel
theorem dX10_comesTo_8 : decode cX10_comesTo 8 = .ok (.if_icmp .ge 43, 3) := by decide +kernel
theorem dX10_comesTo_11 : decode cX10_comesTo 11 = .ok (.iload 4, 2) := by decide +kernel
theorem dX10_comesTo_13 : decode cX10_comesTo 13 = .ok (.aload_n 0, 1) := by decide +kernel
theorem dX10_comesTo_14 : decode cX10_comesTo 14 = .ok (.getfield 7, 3) := by decide +kernel
theorem dX10_comesTo_17 : decode cX10_comesTo 17 = .ok (.bipush 6, 2) := by decide +kernel
theorem dX10_comesTo_19 : decode cX10_comesTo 19 = .ok (.iload_n 1, 1) := by decide +kernel
theorem dX10_comesTo_20 : decode cX10_comesTo 20 = .ok (.iadd, 1) := by decide +kernel
theorem dX10_comesTo_21 : decode cX10_comesTo 21 = .ok (.iaload, 1) := by decide +kernel
theorem dX10_comesTo_22 : decode cX10_comesTo 22 = .ok (.if_icmp .ge 29, 3) := by decide +kernel
theorem dX10_comesTo_25 : decode cX10_comesTo 25 = .ok (.iload_n 3, 1) := by decide +kernel
theorem dX10_comesTo_26 : decode cX10_comesTo 26 = .ok (.iconst 1, 1) := by decide +kernel
theorem dX10_comesTo_27 : decode cX10_comesTo 27 = .ok (.aload_n 0, 1) := by decide +kernel
theorem dX10_comesTo_28 : decode cX10_comesTo 28 = .ok (.getfield 7, 3) := by decide +kernel
theorem dX10_comesTo_31 : decode cX10_comesTo 31 = .ok (.bipush 10, 2) := by decide +kernel
theorem dX10_comesTo_33 : decode cX10_comesTo 33 = .ok (.bipush 9, 2) := by decide +kernel
theorem dX10_comesTo_35 : decode cX10_comesTo 35 = .ok (.iload_n 1, 1) := by decide +kernel
theorem dX10_comesTo_36 : decode cX10_comesTo 36 = .ok (.imul, 1) := by decide +kernel
theorem dX10_comesTo_37 : decode cX10_comesTo 37 = .ok (.iadd, 1) := by decide +kernel
theorem dX10_comesTo_38 : decode cX10_comesTo 38 = .ok (.iload 4, 2) := by decide +kernel
theorem dX10_comesTo_40 : decode cX10_comesTo 40 = .ok (.iadd, 1) := by decide +kernel
theorem dX10_comesTo_41 : decode cX10_comesTo 41 = .ok (.iaload, 1) := by decide +kernel
theorem dX10_comesTo_42 : decode cX10_comesTo 42 = .ok (.ishl, 1) := by decide +kernel
theorem dX10_comesTo_43 : decode cX10_comesTo 43 = .ok (.ior, 1) := by decide +kernel
theorem dX10_comesTo_44 : decode cX10_comesTo 44 = .ok (.istore_n 3, 1) := by decide +kernel
theorem dX10_comesTo_45 : decode cX10_comesTo 45 = .ok (.iinc 4 1, 3) := by decide +kernel
theorem dX10_comesTo_48 : decode cX10_comesTo 48 = .ok (.goto (-43), 3) := by decide +kernel
theorem dX10_comesTo_51 : decode cX10_comesTo 51 = .ok (.iload_n 3, 1) := by decide +kernel
theorem dX10_comesTo_52 : decode cX10_comesTo 52 = .ok (.ireturn, 1) := by decide +kernel
theorem dX10_spillers_0 : decode cX10_spillers 0 = .ok (.iconst 0, 1) := by decide +kernel
theorem dX10_spillers_1 : decode cX10_spillers 1 = .ok (.istore_n 1, 1) := by decide +kernel
theorem dX10_spillers_2 : decode cX10_spillers 2 = .ok (.iconst 0, 1) := by decide +kernel
theorem dX10_spillers_3 : decode cX10_spillers 3 = .ok (.istore_n 2, 1) := by decide +kernel
theorem dX10_spillers_4 : decode cX10_spillers 4 = .ok (.iload_n 2, 1) := by decide +kernel
theorem dX10_spillers_5 : decode cX10_spillers 5 = .ok (.aload_n 0, 1) := by decide +kernel
theorem dX10_spillers_6 : decode cX10_spillers 6 = .ok (.getfield 97, 3) := by decide +kernel
theorem dX10_spillers_9 : decode cX10_spillers 9 = .ok (.if_icmp .ge 85, 3) := by decide +kernel
theorem dX10_spillers_12 : decode cX10_spillers 12 = .ok (.iconst 1, 1) := by decide +kernel
theorem dX10_spillers_13 : decode cX10_spillers 13 = .ok (.istore_n 3, 1) := by decide +kernel
theorem dX10_spillers_14 : decode cX10_spillers 14 = .ok (.iconst 0, 1) := by decide +kernel
theorem dX10_spillers_15 : decode cX10_spillers 15 = .ok (.istore 4, 2) := by decide +kernel
theorem dX10_spillers_17 : decode cX10_spillers 17 = .ok (.iload 4, 2) := by decide +kernel
theorem dX10_spillers_19 : decode cX10_spillers 19 = .ok (.aload_n 0, 1) := by decide +kernel
theorem dX10_spillers_20 : decode cX10_spillers 20 = .ok (.getfield 200, 3) := by decide +kernel
theorem dX10_spillers_23 : decode cX10_spillers 23 = .ok (.if_icmp .ge 51, 3) := by decide +kernel
theorem dX10_spillers_26 : decode cX10_spillers 26 = .ok (.iload_n 3, 1) := by decide +kernel
theorem dX10_spillers_27 : decode cX10_spillers 27 = .ok (.ifCond .eq 39, 3) := by decide +kernel
theorem dX10_spillers_30 : decode cX10_spillers 30 = .ok (.aload_n 0, 1) := by decide +kernel
theorem dX10_spillers_31 : decode cX10_spillers 31 = .ok (.iload_n 2, 1) := by decide +kernel
theorem dX10_spillers_32 : decode cX10_spillers 32 = .ok (.aload_n 0, 1) := by decide +kernel
theorem dX10_spillers_33 : decode cX10_spillers 33 = .ok (.getfield 78, 3) := by decide +kernel
theorem dX10_spillers_36 : decode cX10_spillers 36 = .ok (.iload 4, 2) := by decide +kernel
theorem dX10_spillers_38 : decode cX10_spillers 38 = .ok (.iaload, 1) := by decide +kernel
theorem dX10_spillers_39 : decode cX10_spillers 39 = .ok (.invokevirtual 305, 3) := by decide +kernel
theorem dX10_spillers_42 : decode cX10_spillers 42 = .ok (.aload_n 0, 1) := by decide +kernel
theorem dX10_spillers_43 : decode cX10_spillers 43 = .ok (.getfield 75, 3) := by decide +kernel
theorem dX10_spillers_46 : decode cX10_spillers 46 = .ok (.iload 4, 2) := by decide +kernel
theorem dX10_spillers_48 : decode cX10_spillers 48 = .ok (.iaload, 1) := by decide +kernel
theorem dX10_spillers_49 : decode cX10_spillers 49 = .ok (.invokestatic 151, 3) := by decide +kernel
theorem dX10_spillers_52 : decode cX10_spillers 52 = .ok (.aload_n 0, 1) := by decide +kernel
theorem dX10_spillers_53 : decode cX10_spillers 53 = .ok (.getfield 81, 3) := by decide +kernel
theorem dX10_spillers_56 : decode cX10_spillers 56 = .ok (.iload 4, 2) := by decide +kernel
theorem dX10_spillers_58 : decode cX10_spillers 58 = .ok (.baload, 1) := by decide +kernel
theorem dX10_spillers_59 : decode cX10_spillers 59 = .ok (.if_icmp .ne 7, 3) := by decide +kernel
theorem dX10_spillers_62 : decode cX10_spillers 62 = .ok (.iconst 1, 1) := by decide +kernel
theorem dX10_spillers_63 : decode cX10_spillers 63 = .ok (.goto 4, 3) := by decide +kernel
theorem dX10_spillers_66 : decode cX10_spillers 66 = .ok (.iconst 0, 1) := by decide +kernel
theorem dX10_spillers_67 : decode cX10_spillers 67 = .ok (.istore_n 3, 1) := by decide +kernel
theorem dX10_spillers_68 : decode cX10_spillers 68 = .ok (.iinc 4 1, 3) := by decide +kernel
theorem dX10_spillers_71 : decode cX10_spillers 71 = .ok (.goto (-54), 3) := by decide +kernel
theorem dX10_spillers_74 : decode cX10_spillers 74 = .ok (.iload_n 1, 1) := by decide +kernel
theorem dX10_spillers_75 : decode cX10_spillers 75 = .ok (.iload_n 3, 1) := by decide +kernel
theorem dX10_spillers_76 : decode cX10_spillers 76 = .ok (.ifCond .eq 9, 3) := by decide +kernel
theorem dX10_spillers_79 : decode cX10_spillers 79 = .ok (.iconst 1, 1) := by decide +kernel
theorem dX10_spillers_80 : decode cX10_spillers 80 = .ok (.iload_n 2, 1) := by decide +kernel
theorem dX10_spillers_81 : decode cX10_spillers 81 = .ok (.ishl, 1) := by decide +kernel
theorem dX10_spillers_82 : decode cX10_spillers 82 = .ok (.goto 4, 3) := by decide +kernel
theorem dX10_spillers_85 : decode cX10_spillers 85 = .ok (.iconst 0, 1) := by decide +kernel
theorem dX10_spillers_86 : decode cX10_spillers 86 = .ok (.ior, 1) := by decide +kernel
theorem dX10_spillers_87 : decode cX10_spillers 87 = .ok (.istore_n 1, 1) := by decide +kernel
theorem dX10_spillers_88 : decode cX10_spillers 88 = .ok (.iinc 2 1, 3) := by decide +kernel
theorem dX10_spillers_91 : decode cX10_spillers 91 = .ok (.goto (-87), 3) := by decide +kernel
theorem dX10_spillers_94 : decode cX10_spillers 94 = .ok (.iload_n 1, 1) := by decide +kernel
theorem dX10_spillers_95 : decode cX10_spillers 95 = .ok (.ireturn, 1) := by decide +kernel
theorem dX10_spiller_0 : decode cX10_spiller 0 = .ok (.aload_n 0, 1) := by decide +kernel
theorem dX10_spiller_1 : decode cX10_spiller 1 = .ok (.invokevirtual 308, 3) := by decide +kernel
theorem dX10_spiller_4 : decode cX10_spiller 4 = .ok (.ireturn, 1) := by decide +kernel
theorem dX10_look_0 : decode cX10_look 0 = .ok (.aload_n 0, 1) := by decide +kernel
theorem dX10_look_1 : decode cX10_look 1 = .ok (.invokevirtual 308, 3) := by decide +kernel
theorem dX10_look_4 : decode cX10_look 4 = .ok (.istore_n 1, 1) := by decide +kernel
theorem dX10_look_5 : decode cX10_look 5 = .ok (.iconst (-1), 1) := by decide +kernel
theorem dX10_look_6 : decode cX10_look 6 = .ok (.istore_n 2, 1) := by decide +kernel
theorem dX10_look_7 : decode cX10_look 7 = .ok (.iload_n 1, 1) := by decide +kernel
theorem dX10_look_8 : decode cX10_look 8 = .ok (.invokestatic 274, 3) := by decide +kernel
theorem dX10_look_11 : decode cX10_look 11 = .ok (.istore_n 3, 1) := by decide +kernel
theorem dX10_look_12 : decode cX10_look 12 = .ok (.iconst 0, 1) := by decide +kernel
theorem dX10_look_13 : decode cX10_look 13 = .ok (.istore 4, 2) := by decide +kernel
theorem dX10_look_15 : decode cX10_look 15 = .ok (.iload 4, 2) := by decide +kernel
theorem dX10_look_17 : decode cX10_look 17 = .ok (.aload_n 0, 1) := by decide +kernel
theorem dX10_look_18 : decode cX10_look 18 = .ok (.getfield 90, 3) := by decide +kernel
theorem dX10_look_21 : decode cX10_look 21 = .ok (.if_icmp .ge 117, 3) := by decide +kernel
theorem dX10_look_24 : decode cX10_look 24 = .ok (.iconst 0, 1) := by decide +kernel
theorem dX10_look_25 : decode cX10_look 25 = .ok (.istore 5, 2) := by decide +kernel
theorem dX10_look_27 : decode cX10_look 27 = .ok (.iconst 0, 1) := by decide +kernel
theorem dX10_look_28 : decode cX10_look 28 = .ok (.istore 6, 2) := by decide +kernel
theorem dX10_look_30 : decode cX10_look 30 = .ok (.iload 6, 2) := by decide +kernel
theorem dX10_look_32 : decode cX10_look 32 = .ok (.aload_n 0, 1) := by decide +kernel
theorem dX10_look_33 : decode cX10_look 33 = .ok (.getfield 97, 3) := by decide +kernel
theorem dX10_look_36 : decode cX10_look 36 = .ok (.if_icmp .ge 44, 3) := by decide +kernel
theorem dX10_look_39 : decode cX10_look 39 = .ok (.iload 5, 2) := by decide +kernel
theorem dX10_look_41 : decode cX10_look 41 = .ok (.iload_n 1, 1) := by decide +kernel
theorem dX10_look_42 : decode cX10_look 42 = .ok (.iload 6, 2) := by decide +kernel
theorem dX10_look_44 : decode cX10_look 44 = .ok (.invokestatic 151, 3) := by decide +kernel
theorem dX10_look_47 : decode cX10_look 47 = .ok (.ifCond .eq 23, 3) := by decide +kernel
theorem dX10_look_50 : decode cX10_look 50 = .ok (.aload_n 0, 1) := by decide +kernel
theorem dX10_look_51 : decode cX10_look 51 = .ok (.iload 6, 2) := by decide +kernel
theorem dX10_look_53 : decode cX10_look 53 = .ok (.bipush 20, 2) := by decide +kernel
theorem dX10_look_55 : decode cX10_look 55 = .ok (.invokevirtual 305, 3) := by decide +kernel
theorem dX10_look_58 : decode cX10_look 58 = .ok (.iload 4, 2) := by decide +kernel
theorem dX10_look_60 : decode cX10_look 60 = .ok (.invokestatic 151, 3) := by decide +kernel
theorem dX10_look_63 : decode cX10_look 63 = .ok (.ifCond .eq 7, 3) := by decide +kernel
theorem dX10_look_66 : decode cX10_look 66 = .ok (.iconst 1, 1) := by decide +kernel
theorem dX10_look_67 : decode cX10_look 67 = .ok (.goto 4, 3) := by decide +kernel
theorem dX10_look_70 : decode cX10_look 70 = .ok (.iconst 0, 1) := by decide +kernel
theorem dX10_look_71 : decode cX10_look 71 = .ok (.iadd, 1) := by decide +kernel
theorem dX10_look_72 : decode cX10_look 72 = .ok (.istore 5, 2) := by decide +kernel
theorem dX10_look_74 : decode cX10_look 74 = .ok (.iinc 6 1, 3) := by decide +kernel
theorem dX10_look_77 : decode cX10_look 77 = .ok (.goto (-47), 3) := by decide +kernel
theorem dX10_look_80 : decode cX10_look 80 = .ok (.iload 5, 2) := by decide +kernel
theorem dX10_look_82 : decode cX10_look 82 = .ok (.iload_n 1, 1) := by decide +kernel
theorem dX10_look_83 : decode cX10_look 83 = .ok (.invokestatic 274, 3) := by decide +kernel
theorem dX10_look_86 : decode cX10_look 86 = .ok (.iload 5, 2) := by decide +kernel
theorem dX10_look_88 : decode cX10_look 88 = .ok (.isub, 1) := by decide +kernel
theorem dX10_look_89 : decode cX10_look 89 = .ok (.if_icmp .le 8, 3) := by decide +kernel
theorem dX10_look_92 : decode cX10_look 92 = .ok (.iload 5, 2) := by decide +kernel
theorem dX10_look_94 : decode cX10_look 94 = .ok (.goto 10, 3) := by decide +kernel
theorem dX10_look_97 : decode cX10_look 97 = .ok (.iload_n 1, 1) := by decide +kernel
theorem dX10_look_98 : decode cX10_look 98 = .ok (.invokestatic 274, 3) := by decide +kernel
theorem dX10_look_101 : decode cX10_look 101 = .ok (.iload 5, 2) := by decide +kernel
theorem dX10_look_103 : decode cX10_look 103 = .ok (.isub, 1) := by decide +kernel
theorem dX10_look_104 : decode cX10_look 104 = .ok (.istore 6, 2) := by decide +kernel
theorem dX10_look_106 : decode cX10_look 106 = .ok (.iload 6, 2) := by decide +kernel
theorem dX10_look_108 : decode cX10_look 108 = .ok (.iload_n 3, 1) := by decide +kernel
theorem dX10_look_109 : decode cX10_look 109 = .ok (.if_icmp .ge 8, 3) := by decide +kernel
theorem dX10_look_112 : decode cX10_look 112 = .ok (.iload 4, 2) := by decide +kernel
theorem dX10_look_114 : decode cX10_look 114 = .ok (.goto 4, 3) := by decide +kernel
theorem dX10_look_117 : decode cX10_look 117 = .ok (.iload_n 2, 1) := by decide +kernel
theorem dX10_look_118 : decode cX10_look 118 = .ok (.istore_n 2, 1) := by decide +kernel
theorem dX10_look_119 : decode cX10_look 119 = .ok (.iload 6, 2) := by decide +kernel
theorem dX10_look_121 : decode cX10_look 121 = .ok (.iload_n 3, 1) := by decide +kernel
theorem dX10_look_122 : decode cX10_look 122 = .ok (.if_icmp .ge 8, 3) := by decide +kernel
theorem dX10_look_125 : decode cX10_look 125 = .ok (.iload 6, 2) := by decide +kernel
theorem dX10_look_127 : decode cX10_look 127 = .ok (.goto 4, 3) := by decide +kernel
theorem dX10_look_130 : decode cX10_look 130 = .ok (.iload_n 3, 1) := by decide +kernel
theorem dX10_look_131 : decode cX10_look 131 = .ok (.istore_n 3, 1) := by decide +kernel
theorem dX10_look_132 : decode cX10_look 132 = .ok (.iinc 4 1, 3) := by decide +kernel
theorem dX10_look_135 : decode cX10_look 135 = .ok (.goto (-120), 3) := by decide +kernel
theorem dX10_look_138 : decode cX10_look 138 = .ok (.iload_n 2, 1) := by decide +kernel
theorem dX10_look_139 : decode cX10_look 139 = .ok (.ireturn, 1) := by decide +kernel
theorem dX10_write_0 : decode cX10_write 0 = .ok (.aload_n 0, 1) := by decide +kernel
theorem dX10_write_1 : decode cX10_write 1 = .ok (.iload_n 1, 1) := by decide +kernel
theorem dX10_write_2 : decode cX10_write 2 = .ok (.invokevirtual 100, 3) := by decide +kernel
theorem dX10_write_5 : decode cX10_write 5 = .ok (.ifCond .eq 11, 3) := by decide +kernel
theorem dX10_write_8 : decode cX10_write 8 = .ok (.aload_n 0, 1) := by decide +kernel
theorem dX10_write_9 : decode cX10_write 9 = .ok (.iload_n 2, 1) := by decide +kernel
theorem dX10_write_10 : decode cX10_write 10 = .ok (.invokevirtual 216, 3) := by decide +kernel
theorem dX10_write_13 : decode cX10_write 13 = .ok (.ifCond .ne 6, 3) := by decide +kernel
theorem dX10_write_16 : decode cX10_write 16 = .ok (.ldc 219, 2) := by decide +kernel
theorem dX10_write_18 : decode cX10_write 18 = .ok (.ireturn, 1) := by decide +kernel
theorem dX10_write_19 : decode cX10_write 19 = .ok (.aload_n 0, 1) := by decide +kernel
theorem dX10_write_20 : decode cX10_write 20 = .ok (.getfield 203, 3) := by decide +kernel
theorem dX10_write_23 : decode cX10_write 23 = .ok (.bipush 15, 2) := by decide +kernel
theorem dX10_write_25 : decode cX10_write 25 = .ok (.if_icmp .ne 6, 3) := by decide +kernel
theorem dX10_write_28 : decode cX10_write 28 = .ok (.ldc 113, 2) := by decide +kernel
theorem dX10_write_30 : decode cX10_write 30 = .ok (.ireturn, 1) := by decide +kernel
theorem dX10_write_31 : decode cX10_write 31 = .ok (.aload_n 0, 1) := by decide +kernel
theorem dX10_write_32 : decode cX10_write 32 = .ok (.getfield 84, 3) := by decide +kernel
theorem dX10_write_35 : decode cX10_write 35 = .ok (.aload_n 0, 1) := by decide +kernel
theorem dX10_write_36 : decode cX10_write 36 = .ok (.getfield 203, 3) := by decide +kernel
theorem dX10_write_39 : decode cX10_write 39 = .ok (.iload_n 1, 1) := by decide +kernel
theorem dX10_write_40 : decode cX10_write 40 = .ok (.iastore, 1) := by decide +kernel
theorem dX10_write_41 : decode cX10_write 41 = .ok (.aload_n 0, 1) := by decide +kernel
theorem dX10_write_42 : decode cX10_write 42 = .ok (.getfield 87, 3) := by decide +kernel
theorem dX10_write_45 : decode cX10_write 45 = .ok (.aload_n 0, 1) := by decide +kernel
theorem dX10_write_46 : decode cX10_write 46 = .ok (.getfield 203, 3) := by decide +kernel
theorem dX10_write_49 : decode cX10_write 49 = .ok (.iload_n 2, 1) := by decide +kernel
theorem dX10_write_50 : decode cX10_write 50 = .ok (.iastore, 1) := by decide +kernel
theorem dX10_write_51 : decode cX10_write 51 = .ok (.aload_n 0, 1) := by decide +kernel
theorem dX10_write_52 : decode cX10_write 52 = .ok (.dup, 1) := by decide +kernel
theorem dX10_write_53 : decode cX10_write 53 = .ok (.getfield 203, 3) := by decide +kernel
theorem dX10_write_56 : decode cX10_write 56 = .ok (.iconst 1, 1) := by decide +kernel
theorem dX10_write_57 : decode cX10_write 57 = .ok (.iadd, 1) := by decide +kernel
theorem dX10_write_58 : decode cX10_write 58 = .ok (.putfield 203, 3) := by decide +kernel
theorem dX10_write_61 : decode cX10_write 61 = .ok (.aload_n 0, 1) := by decide +kernel
theorem dX10_write_62 : decode cX10_write 62 = .ok (.getfield 203, 3) := by decide +kernel
theorem dX10_write_65 : decode cX10_write 65 = .ok (.ireturn, 1) := by decide +kernel
theorem dX10_tear_0 : decode cX10_tear 0 = .ok (.aload_n 0, 1) := by decide +kernel
theorem dX10_tear_1 : decode cX10_tear 1 = .ok (.getfield 200, 3) := by decide +kernel
theorem dX10_tear_4 : decode cX10_tear 4 = .ok (.aload_n 0, 1) := by decide +kernel
theorem dX10_tear_5 : decode cX10_tear 5 = .ok (.getfield 203, 3) := by decide +kernel
theorem dX10_tear_8 : decode cX10_tear 8 = .ok (.iadd, 1) := by decide +kernel
theorem dX10_tear_9 : decode cX10_tear 9 = .ok (.istore_n 1, 1) := by decide +kernel
theorem dX10_tear_10 : decode cX10_tear 10 = .ok (.aload_n 0, 1) := by decide +kernel
theorem dX10_tear_11 : decode cX10_tear 11 = .ok (.iconst 0, 1) := by decide +kernel
theorem dX10_tear_12 : decode cX10_tear 12 = .ok (.putfield 200, 3) := by decide +kernel
theorem dX10_tear_15 : decode cX10_tear 15 = .ok (.aload_n 0, 1) := by decide +kernel
theorem dX10_tear_16 : decode cX10_tear 16 = .ok (.iconst 0, 1) := by decide +kernel
theorem dX10_tear_17 : decode cX10_tear 17 = .ok (.putfield 203, 3) := by decide +kernel
theorem dX10_tear_20 : decode cX10_tear 20 = .ok (.iload_n 1, 1) := by decide +kernel
theorem dX10_tear_21 : decode cX10_tear 21 = .ok (.ireturn, 1) := by decide +kernel
theorem dX10_judge_0 : decode cX10_judge 0 = .ok (.iconst 0, 1) := by decide +kernel
theorem dX10_judge_1 : decode cX10_judge 1 = .ok (.istore_n 1, 1) := by decide +kernel
theorem dX10_judge_2 : decode cX10_judge 2 = .ok (.iload_n 1, 1) := by decide +kernel
theorem dX10_judge_3 : decode cX10_judge 3 = .ok (.aload_n 0, 1) := by decide +kernel
theorem dX10_judge_4 : decode cX10_judge 4 = .ok (.getfield 203, 3) := by decide +kernel
theorem dX10_judge_7 : decode cX10_judge 7 = .ok (.if_icmp .ge 33, 3) := by decide +kernel
theorem dX10_judge_10 : decode cX10_judge 10 = .ok (.aload_n 0, 1) := by decide +kernel
theorem dX10_judge_11 : decode cX10_judge 11 = .ok (.getfield 7, 3) := by decide +kernel
theorem dX10_judge_14 : decode cX10_judge 14 = .ok (.iconst 2, 1) := by decide +kernel
theorem dX10_judge_15 : decode cX10_judge 15 = .ok (.aload_n 0, 1) := by decide +kernel
theorem dX10_judge_16 : decode cX10_judge 16 = .ok (.getfield 84, 3) := by decide +kernel
theorem dX10_judge_19 : decode cX10_judge 19 = .ok (.iload_n 1, 1) := by decide +kernel
theorem dX10_judge_20 : decode cX10_judge 20 = .ok (.iaload, 1) := by decide +kernel
theorem dX10_judge_21 : decode cX10_judge 21 = .ok (.iadd, 1) := by decide +kernel
theorem dX10_judge_22 : decode cX10_judge 22 = .ok (.iaload, 1) := by decide +kernel
theorem dX10_judge_23 : decode cX10_judge 23 = .ok (.aload_n 0, 1) := by decide +kernel
theorem dX10_judge_24 : decode cX10_judge 24 = .ok (.getfield 87, 3) := by decide +kernel
theorem dX10_judge_27 : decode cX10_judge 27 = .ok (.iload_n 1, 1) := by decide +kernel
theorem dX10_judge_28 : decode cX10_judge 28 = .ok (.iaload, 1) := by decide +kernel
theorem dX10_judge_29 : decode cX10_judge 29 = .ok (.if_icmp .eq 5, 3) := by decide +kernel
theorem dX10_judge_32 : decode cX10_judge 32 = .ok (.iload_n 1, 1) := by decide +kernel
theorem dX10_judge_33 : decode cX10_judge 33 = .ok (.ireturn, 1) := by decide +kernel
theorem dX10_judge_34 : decode cX10_judge 34 = .ok (.iinc 1 1, 3) := by decide +kernel
theorem dX10_judge_37 : decode cX10_judge 37 = .ok (.goto (-35), 3) := by decide +kernel
theorem dX10_judge_40 : decode cX10_judge 40 = .ok (.iconst (-1), 1) := by decide +kernel
theorem dX10_judge_41 : decode cX10_judge 41 = .ok (.ireturn, 1) := by decide +kernel
theorem dX10_seed_0 : decode cX10_seed 0 = .ok (.iload_n 1, 1) := by decide +kernel
theorem dX10_seed_1 : decode cX10_seed 1 = .ok (.ifCond .ge 6, 3) := by decide +kernel
theorem dX10_seed_4 : decode cX10_seed 4 = .ok (.ldc 109, 2) := by decide +kernel
theorem dX10_seed_6 : decode cX10_seed 6 = .ok (.ireturn, 1) := by decide +kernel
theorem dX10_seed_7 : decode cX10_seed 7 = .ok (.aload_n 0, 1) := by decide +kernel
theorem dX10_seed_8 : decode cX10_seed 8 = .ok (.getfield 7, 3) := by decide +kernel
theorem dX10_seed_11 : decode cX10_seed 11 = .ok (.bipush 58, 2) := by decide +kernel
theorem dX10_seed_13 : decode cX10_seed 13 = .ok (.iaload, 1) := by decide +kernel
theorem dX10_seed_14 : decode cX10_seed 14 = .ok (.istore_n 2, 1) := by decide +kernel
theorem dX10_seed_15 : decode cX10_seed 15 = .ok (.aload_n 0, 1) := by decide +kernel
theorem dX10_seed_16 : decode cX10_seed 16 = .ok (.getfield 7, 3) := by decide +kernel
theorem dX10_seed_19 : decode cX10_seed 19 = .ok (.bipush 58, 2) := by decide +kernel
theorem dX10_seed_21 : decode cX10_seed 21 = .ok (.iload_n 1, 1) := by decide +kernel
theorem dX10_seed_22 : decode cX10_seed 22 = .ok (.iastore, 1) := by decide +kernel
theorem dX10_seed_23 : decode cX10_seed 23 = .ok (.iload_n 2, 1) := by decide +kernel
theorem dX10_seed_24 : decode cX10_seed 24 = .ok (.ireturn, 1) := by decide +kernel
theorem dX10_keep_0 : decode cX10_keep 0 = .ok (.iload_n 1, 1) := by decide +kernel
theorem dX10_keep_1 : decode cX10_keep 1 = .ok (.i2l, 1) := by decide +kernel
theorem dX10_keep_2 : decode cX10_keep 2 = .ok (.lconst 0, 1) := by decide +kernel
theorem dX10_keep_3 : decode cX10_keep 3 = .ok (.lconst 1, 1) := by decide +kernel
theorem dX10_keep_4 : decode cX10_keep 4 = .ok (.invokestatic 93, 3) := by decide +kernel
theorem dX10_keep_7 : decode cX10_keep 7 = .ok (.ifCond .ne 6, 3) := by decide +kernel
theorem dX10_keep_10 : decode cX10_keep 10 = .ok (.ldc 219, 2) := by decide +kernel
theorem dX10_keep_12 : decode cX10_keep 12 = .ok (.ireturn, 1) := by decide +kernel
theorem dX10_keep_13 : decode cX10_keep 13 = .ok (.aload_n 0, 1) := by decide +kernel
theorem dX10_keep_14 : decode cX10_keep 14 = .ok (.iconst 0, 1) := by decide +kernel
theorem dX10_keep_15 : decode cX10_keep 15 = .ok (.bipush 118, 2) := by decide +kernel
theorem dX10_keep_17 : decode cX10_keep 17 = .ok (.bipush 59, 2) := by decide +kernel
theorem dX10_keep_19 : decode cX10_keep 19 = .ok (.iload_n 1, 1) := by decide +kernel
theorem dX10_keep_20 : decode cX10_keep 20 = .ok (.imul, 1) := by decide +kernel
theorem dX10_keep_21 : decode cX10_keep 21 = .ok (.iadd, 1) := by decide +kernel
theorem dX10_keep_22 : decode cX10_keep 22 = .ok (.invokevirtual 246, 3) := by decide +kernel
theorem dX10_keep_25 : decode cX10_keep 25 = .ok (.aload_n 0, 1) := by decide +kernel
theorem dX10_keep_26 : decode cX10_keep 26 = .ok (.getfield 13, 3) := by decide +kernel
theorem dX10_keep_29 : decode cX10_keep 29 = .ok (.iload_n 1, 1) := by decide +kernel
theorem dX10_keep_30 : decode cX10_keep 30 = .ok (.iconst 1, 1) := by decide +kernel
theorem dX10_keep_31 : decode cX10_keep 31 = .ok (.bastore, 1) := by decide +kernel
theorem dX10_keep_32 : decode cX10_keep 32 = .ok (.aload_n 0, 1) := by decide +kernel
theorem dX10_keep_33 : decode cX10_keep 33 = .ok (.iconst 0, 1) := by decide +kernel
theorem dX10_keep_34 : decode cX10_keep 34 = .ok (.putfield 206, 3) := by decide +kernel
theorem dX10_keep_37 : decode cX10_keep 37 = .ok (.iconst 1, 1) := by decide +kernel
theorem dX10_keep_38 : decode cX10_keep 38 = .ok (.ireturn, 1) := by decide +kernel
theorem dX10_goBack_0 : decode cX10_goBack 0 = .ok (.iload_n 1, 1) := by decide +kernel
theorem dX10_goBack_1 : decode cX10_goBack 1 = .ok (.i2l, 1) := by decide +kernel
theorem dX10_goBack_2 : decode cX10_goBack 2 = .ok (.lconst 0, 1) := by decide +kernel
theorem dX10_goBack_3 : decode cX10_goBack 3 = .ok (.lconst 1, 1) := by decide +kernel
theorem dX10_goBack_4 : decode cX10_goBack 4 = .ok (.invokestatic 93, 3) := by decide +kernel
theorem dX10_goBack_7 : decode cX10_goBack 7 = .ok (.ifCond .ne 6, 3) := by decide +kernel
theorem dX10_goBack_10 : decode cX10_goBack 10 = .ok (.ldc 219, 2) := by decide +kernel
theorem dX10_goBack_12 : decode cX10_goBack 12 = .ok (.ireturn, 1) := by decide +kernel
theorem dX10_goBack_13 : decode cX10_goBack 13 = .ok (.aload_n 0, 1) := by decide +kernel
theorem dX10_goBack_14 : decode cX10_goBack 14 = .ok (.getfield 13, 3) := by decide +kernel
theorem dX10_goBack_17 : decode cX10_goBack 17 = .ok (.iload_n 1, 1) := by decide +kernel
theorem dX10_goBack_18 : decode cX10_goBack 18 = .ok (.baload, 1) := by decide +kernel
theorem dX10_goBack_19 : decode cX10_goBack 19 = .ok (.ifCond .ne 6, 3) := by decide +kernel
theorem dX10_goBack_22 : decode cX10_goBack 22 = .ok (.ldc 249, 2) := by decide +kernel
theorem dX10_goBack_24 : decode cX10_goBack 24 = .ok (.ireturn, 1) := by decide +kernel
theorem dX10_goBack_25 : decode cX10_goBack 25 = .ok (.aload_n 0, 1) := by decide +kernel
theorem dX10_goBack_26 : decode cX10_goBack 26 = .ok (.bipush 118, 2) := by decide +kernel
theorem dX10_goBack_28 : decode cX10_goBack 28 = .ok (.bipush 59, 2) := by decide +kernel
theorem dX10_goBack_30 : decode cX10_goBack 30 = .ok (.iload_n 1, 1) := by decide +kernel
theorem dX10_goBack_31 : decode cX10_goBack 31 = .ok (.imul, 1) := by decide +kernel
theorem dX10_goBack_32 : decode cX10_goBack 32 = .ok (.iadd, 1) := by decide +kernel
theorem dX10_goBack_33 : decode cX10_goBack 33 = .ok (.iconst 0, 1) := by decide +kernel
theorem dX10_goBack_34 : decode cX10_goBack 34 = .ok (.invokevirtual 246, 3) := by decide +kernel
theorem dX10_goBack_37 : decode cX10_goBack 37 = .ok (.aload_n 0, 1) := by decide +kernel
theorem dX10_goBack_38 : decode cX10_goBack 38 = .ok (.iconst 0, 1) := by decide +kernel
theorem dX10_goBack_39 : decode cX10_goBack 39 = .ok (.putfield 206, 3) := by decide +kernel
theorem dX10_goBack_42 : decode cX10_goBack 42 = .ok (.iconst 1, 1) := by decide +kernel
theorem dX10_goBack_43 : decode cX10_goBack 43 = .ok (.ireturn, 1) := by decide +kernel
end
section
theorem dL_law_0 : decode cL_law 0 = .ok (.new 7, 3) := by decide +kernel
theorem dL_law_3 : decode cL_law 3 = .ok (.dup, 1) := by decide +kernel
theorem dL_law_4 : decode cL_law 4 = .ok (.invokespecial 9, 3) := by decide +kernel
theorem dL_law_7 : decode cL_law 7 = .ok (.astore_n 1, 1) := by decide +kernel
theorem dL_law_8 : decode cL_law 8 = .ok (.new 10, 3) := by decide +kernel
theorem dL_law_11 : decode cL_law 11 = .ok (.dup, 1) := by decide +kernel
theorem dL_law_12 : decode cL_law 12 = .ok (.invokespecial 12, 3) := by decide +kernel
theorem dL_law_15 : decode cL_law 15 = .ok (.astore_n 2, 1) := by decide +kernel
theorem dL_law_16 : decode cL_law 16 = .ok (.iconst 0, 1) := by decide +kernel
theorem dL_law_17 : decode cL_law 17 = .ok (.istore_n 3, 1) := by decide +kernel
theorem dL_law_18 : decode cL_law 18 = .ok (.iload_n 3, 1) := by decide +kernel
theorem dL_law_19 : decode cL_law 19 = .ok (.aload_n 0, 1) := by decide +kernel
theorem dL_law_20 : decode cL_law 20 = .ok (.arraylength, 1) := by decide +kernel
theorem dL_law_21 : decode cL_law 21 = .ok (.iconst 4, 1) := by decide +kernel
theorem dL_law_22 : decode cL_law 22 = .ok (.isub, 1) := by decide +kernel
theorem dL_law_23 : decode cL_law 23 = .ok (.if_icmp .gt 1037, 3) := by decide +kernel
theorem dL_law_26 : decode cL_law 26 = .ok (.aload_n 0, 1) := by decide +kernel
theorem dL_law_27 : decode cL_law 27 = .ok (.iload_n 3, 1) := by decide +kernel
theorem dL_law_28 : decode cL_law 28 = .ok (.iaload, 1) := by decide +kernel
theorem dL_law_29 : decode cL_law 29 = .ok (.bipush 31, 2) := by decide +kernel
theorem dL_law_31 : decode cL_law 31 = .ok (.iand, 1) := by decide +kernel
theorem dL_law_32 : decode cL_law 32 = .ok (.tableswitch 1022 0 31 #[144, 167, 180, 193, 216, 239, 272, 305, 328, 361, 404, 427, 486, 509, 522, 555, 588, 631, 654, 677, 710, 743, 776, 809, 868, 881, 894, 927, 940, 953, 976, 999], 144) := by decide +kernel
theorem dL_law_176 : decode cL_law 176 = .ok (.aload_n 1, 1) := by decide +kernel
theorem dL_law_177 : decode cL_law 177 = .ok (.aload_n 0, 1) := by decide +kernel
theorem dL_law_178 : decode cL_law 178 = .ok (.iload_n 3, 1) := by decide +kernel
theorem dL_law_179 : decode cL_law 179 = .ok (.iconst 1, 1) := by decide +kernel
theorem dL_law_180 : decode cL_law 180 = .ok (.iadd, 1) := by decide +kernel
theorem dL_law_181 : decode cL_law 181 = .ok (.iaload, 1) := by decide +kernel
theorem dL_law_182 : decode cL_law 182 = .ok (.invokevirtual 13, 3) := by decide +kernel
theorem dL_law_185 : decode cL_law 185 = .ok (.aload_n 2, 1) := by decide +kernel
theorem dL_law_186 : decode cL_law 186 = .ok (.aload_n 0, 1) := by decide +kernel
theorem dL_law_187 : decode cL_law 187 = .ok (.iload_n 3, 1) := by decide +kernel
theorem dL_law_188 : decode cL_law 188 = .ok (.iconst 1, 1) := by decide +kernel
theorem dL_law_189 : decode cL_law 189 = .ok (.iadd, 1) := by decide +kernel
theorem dL_law_190 : decode cL_law 190 = .ok (.iaload, 1) := by decide +kernel
theorem dL_law_191 : decode cL_law 191 = .ok (.invokevirtual 17, 3) := by decide +kernel
theorem dL_law_194 : decode cL_law 194 = .ok (.if_icmp .eq 860, 3) := by decide +kernel
theorem dL_law_197 : decode cL_law 197 = .ok (.iconst 0, 1) := by decide +kernel
theorem dL_law_198 : decode cL_law 198 = .ok (.ireturn, 1) := by decide +kernel
theorem dL_law_199 : decode cL_law 199 = .ok (.aload_n 1, 1) := by decide +kernel
theorem dL_law_200 : decode cL_law 200 = .ok (.invokevirtual 18, 3) := by decide +kernel
theorem dL_law_203 : decode cL_law 203 = .ok (.aload_n 2, 1) := by decide +kernel
theorem dL_law_204 : decode cL_law 204 = .ok (.invokevirtual 22, 3) := by decide +kernel
theorem dL_law_207 : decode cL_law 207 = .ok (.if_icmp .eq 847, 3) := by decide +kernel
theorem dL_law_210 : decode cL_law 210 = .ok (.iconst 0, 1) := by decide +kernel
theorem dL_law_211 : decode cL_law 211 = .ok (.ireturn, 1) := by decide +kernel
theorem dL_law_212 : decode cL_law 212 = .ok (.aload_n 1, 1) := by decide +kernel
theorem dL_law_213 : decode cL_law 213 = .ok (.invokevirtual 23, 3) := by decide +kernel
theorem dL_law_216 : decode cL_law 216 = .ok (.aload_n 2, 1) := by decide +kernel
theorem dL_law_217 : decode cL_law 217 = .ok (.invokevirtual 26, 3) := by decide +kernel
theorem dL_law_220 : decode cL_law 220 = .ok (.if_icmp .eq 834, 3) := by decide +kernel
theorem dL_law_223 : decode cL_law 223 = .ok (.iconst 0, 1) := by decide +kernel
theorem dL_law_224 : decode cL_law 224 = .ok (.ireturn, 1) := by decide +kernel
theorem dL_law_225 : decode cL_law 225 = .ok (.aload_n 1, 1) := by decide +kernel
theorem dL_law_226 : decode cL_law 226 = .ok (.aload_n 0, 1) := by decide +kernel
theorem dL_law_227 : decode cL_law 227 = .ok (.iload_n 3, 1) := by decide +kernel
theorem dL_law_228 : decode cL_law 228 = .ok (.iconst 1, 1) := by decide +kernel
theorem dL_law_229 : decode cL_law 229 = .ok (.iadd, 1) := by decide +kernel
theorem dL_law_230 : decode cL_law 230 = .ok (.iaload, 1) := by decide +kernel
theorem dL_law_231 : decode cL_law 231 = .ok (.invokevirtual 27, 3) := by decide +kernel
theorem dL_law_234 : decode cL_law 234 = .ok (.aload_n 2, 1) := by decide +kernel
theorem dL_law_235 : decode cL_law 235 = .ok (.aload_n 0, 1) := by decide +kernel
theorem dL_law_236 : decode cL_law 236 = .ok (.iload_n 3, 1) := by decide +kernel
theorem dL_law_237 : decode cL_law 237 = .ok (.iconst 1, 1) := by decide +kernel
theorem dL_law_238 : decode cL_law 238 = .ok (.iadd, 1) := by decide +kernel
theorem dL_law_239 : decode cL_law 239 = .ok (.iaload, 1) := by decide +kernel
theorem dL_law_240 : decode cL_law 240 = .ok (.invokevirtual 30, 3) := by decide +kernel
theorem dL_law_243 : decode cL_law 243 = .ok (.if_icmp .eq 811, 3) := by decide +kernel
theorem dL_law_246 : decode cL_law 246 = .ok (.iconst 0, 1) := by decide +kernel
theorem dL_law_247 : decode cL_law 247 = .ok (.ireturn, 1) := by decide +kernel
theorem dL_law_248 : decode cL_law 248 = .ok (.aload_n 1, 1) := by decide +kernel
theorem dL_law_249 : decode cL_law 249 = .ok (.aload_n 0, 1) := by decide +kernel
theorem dL_law_250 : decode cL_law 250 = .ok (.iload_n 3, 1) := by decide +kernel
theorem dL_law_251 : decode cL_law 251 = .ok (.iconst 1, 1) := by decide +kernel
theorem dL_law_252 : decode cL_law 252 = .ok (.iadd, 1) := by decide +kernel
theorem dL_law_253 : decode cL_law 253 = .ok (.iaload, 1) := by decide +kernel
theorem dL_law_254 : decode cL_law 254 = .ok (.invokevirtual 31, 3) := by decide +kernel
theorem dL_law_257 : decode cL_law 257 = .ok (.aload_n 2, 1) := by decide +kernel
theorem dL_law_258 : decode cL_law 258 = .ok (.aload_n 0, 1) := by decide +kernel
theorem dL_law_259 : decode cL_law 259 = .ok (.iload_n 3, 1) := by decide +kernel
theorem dL_law_260 : decode cL_law 260 = .ok (.iconst 1, 1) := by decide +kernel
theorem dL_law_261 : decode cL_law 261 = .ok (.iadd, 1) := by decide +kernel
theorem dL_law_262 : decode cL_law 262 = .ok (.iaload, 1) := by decide +kernel
theorem dL_law_263 : decode cL_law 263 = .ok (.invokevirtual 34, 3) := by decide +kernel
theorem dL_law_266 : decode cL_law 266 = .ok (.if_icmp .eq 788, 3) := by decide +kernel
theorem dL_law_269 : decode cL_law 269 = .ok (.iconst 0, 1) := by decide +kernel
theorem dL_law_270 : decode cL_law 270 = .ok (.ireturn, 1) := by decide +kernel
theorem dL_law_271 : decode cL_law 271 = .ok (.aload_n 1, 1) := by decide +kernel
theorem dL_law_272 : decode cL_law 272 = .ok (.aload_n 0, 1) := by decide +kernel
theorem dL_law_273 : decode cL_law 273 = .ok (.iload_n 3, 1) := by decide +kernel
theorem dL_law_274 : decode cL_law 274 = .ok (.iconst 1, 1) := by decide +kernel
theorem dL_law_275 : decode cL_law 275 = .ok (.iadd, 1) := by decide +kernel
theorem dL_law_276 : decode cL_law 276 = .ok (.iaload, 1) := by decide +kernel
theorem dL_law_277 : decode cL_law 277 = .ok (.aload_n 0, 1) := by decide +kernel
theorem dL_law_278 : decode cL_law 278 = .ok (.iload_n 3, 1) := by decide +kernel
theorem dL_law_279 : decode cL_law 279 = .ok (.iconst 2, 1) := by decide +kernel
theorem dL_law_280 : decode cL_law 280 = .ok (.iadd, 1) := by decide +kernel
theorem dL_law_281 : decode cL_law 281 = .ok (.iaload, 1) := by decide +kernel
theorem dL_law_282 : decode cL_law 282 = .ok (.invokevirtual 35, 3) := by decide +kernel
theorem dL_law_285 : decode cL_law 285 = .ok (.aload_n 2, 1) := by decide +kernel
theorem dL_law_286 : decode cL_law 286 = .ok (.aload_n 0, 1) := by decide +kernel
theorem dL_law_287 : decode cL_law 287 = .ok (.iload_n 3, 1) := by decide +kernel
theorem dL_law_288 : decode cL_law 288 = .ok (.iconst 1, 1) := by decide +kernel
theorem dL_law_289 : decode cL_law 289 = .ok (.iadd, 1) := by decide +kernel
theorem dL_law_290 : decode cL_law 290 = .ok (.iaload, 1) := by decide +kernel
theorem dL_law_291 : decode cL_law 291 = .ok (.aload_n 0, 1) := by decide +kernel
theorem dL_law_292 : decode cL_law 292 = .ok (.iload_n 3, 1) := by decide +kernel
theorem dL_law_293 : decode cL_law 293 = .ok (.iconst 2, 1) := by decide +kernel
theorem dL_law_294 : decode cL_law 294 = .ok (.iadd, 1) := by decide +kernel
theorem dL_law_295 : decode cL_law 295 = .ok (.iaload, 1) := by decide +kernel
theorem dL_law_296 : decode cL_law 296 = .ok (.invokevirtual 39, 3) := by decide +kernel
theorem dL_law_299 : decode cL_law 299 = .ok (.if_icmp .eq 755, 3) := by decide +kernel
theorem dL_law_302 : decode cL_law 302 = .ok (.iconst 0, 1) := by decide +kernel
theorem dL_law_303 : decode cL_law 303 = .ok (.ireturn, 1) := by decide +kernel
theorem dL_law_304 : decode cL_law 304 = .ok (.aload_n 1, 1) := by decide +kernel
theorem dL_law_305 : decode cL_law 305 = .ok (.aload_n 0, 1) := by decide +kernel
theorem dL_law_306 : decode cL_law 306 = .ok (.iload_n 3, 1) := by decide +kernel
theorem dL_law_307 : decode cL_law 307 = .ok (.iconst 1, 1) := by decide +kernel
theorem dL_law_308 : decode cL_law 308 = .ok (.iadd, 1) := by decide +kernel
theorem dL_law_309 : decode cL_law 309 = .ok (.iaload, 1) := by decide +kernel
theorem dL_law_310 : decode cL_law 310 = .ok (.aload_n 0, 1) := by decide +kernel
theorem dL_law_311 : decode cL_law 311 = .ok (.iload_n 3, 1) := by decide +kernel
theorem dL_law_312 : decode cL_law 312 = .ok (.iconst 2, 1) := by decide +kernel
theorem dL_law_313 : decode cL_law 313 = .ok (.iadd, 1) := by decide +kernel
theorem dL_law_314 : decode cL_law 314 = .ok (.iaload, 1) := by decide +kernel
theorem dL_law_315 : decode cL_law 315 = .ok (.invokevirtual 40, 3) := by decide +kernel
theorem dL_law_318 : decode cL_law 318 = .ok (.aload_n 2, 1) := by decide +kernel
theorem dL_law_319 : decode cL_law 319 = .ok (.aload_n 0, 1) := by decide +kernel
theorem dL_law_320 : decode cL_law 320 = .ok (.iload_n 3, 1) := by decide +kernel
theorem dL_law_321 : decode cL_law 321 = .ok (.iconst 1, 1) := by decide +kernel
theorem dL_law_322 : decode cL_law 322 = .ok (.iadd, 1) := by decide +kernel
theorem dL_law_323 : decode cL_law 323 = .ok (.iaload, 1) := by decide +kernel
theorem dL_law_324 : decode cL_law 324 = .ok (.aload_n 0, 1) := by decide +kernel
theorem dL_law_325 : decode cL_law 325 = .ok (.iload_n 3, 1) := by decide +kernel
theorem dL_law_326 : decode cL_law 326 = .ok (.iconst 2, 1) := by decide +kernel
theorem dL_law_327 : decode cL_law 327 = .ok (.iadd, 1) := by decide +kernel
theorem dL_law_328 : decode cL_law 328 = .ok (.iaload, 1) := by decide +kernel
theorem dL_law_329 : decode cL_law 329 = .ok (.invokevirtual 43, 3) := by decide +kernel
theorem dL_law_332 : decode cL_law 332 = .ok (.if_icmp .eq 722, 3) := by decide +kernel
theorem dL_law_335 : decode cL_law 335 = .ok (.iconst 0, 1) := by decide +kernel
theorem dL_law_336 : decode cL_law 336 = .ok (.ireturn, 1) := by decide +kernel
theorem dL_law_337 : decode cL_law 337 = .ok (.aload_n 1, 1) := by decide +kernel
theorem dL_law_338 : decode cL_law 338 = .ok (.aload_n 0, 1) := by decide +kernel
theorem dL_law_339 : decode cL_law 339 = .ok (.iload_n 3, 1) := by decide +kernel
theorem dL_law_340 : decode cL_law 340 = .ok (.iconst 1, 1) := by decide +kernel
theorem dL_law_341 : decode cL_law 341 = .ok (.iadd, 1) := by decide +kernel
theorem dL_law_342 : decode cL_law 342 = .ok (.iaload, 1) := by decide +kernel
theorem dL_law_343 : decode cL_law 343 = .ok (.invokevirtual 44, 3) := by decide +kernel
theorem dL_law_346 : decode cL_law 346 = .ok (.aload_n 2, 1) := by decide +kernel
theorem dL_law_347 : decode cL_law 347 = .ok (.aload_n 0, 1) := by decide +kernel
theorem dL_law_348 : decode cL_law 348 = .ok (.iload_n 3, 1) := by decide +kernel
theorem dL_law_349 : decode cL_law 349 = .ok (.iconst 1, 1) := by decide +kernel
theorem dL_law_350 : decode cL_law 350 = .ok (.iadd, 1) := by decide +kernel
theorem dL_law_351 : decode cL_law 351 = .ok (.iaload, 1) := by decide +kernel
theorem dL_law_352 : decode cL_law 352 = .ok (.invokevirtual 47, 3) := by decide +kernel
theorem dL_law_355 : decode cL_law 355 = .ok (.if_icmp .eq 699, 3) := by decide +kernel
theorem dL_law_358 : decode cL_law 358 = .ok (.iconst 0, 1) := by decide +kernel
theorem dL_law_359 : decode cL_law 359 = .ok (.ireturn, 1) := by decide +kernel
theorem dL_law_360 : decode cL_law 360 = .ok (.aload_n 1, 1) := by decide +kernel
theorem dL_law_361 : decode cL_law 361 = .ok (.aload_n 0, 1) := by decide +kernel
theorem dL_law_362 : decode cL_law 362 = .ok (.iload_n 3, 1) := by decide +kernel
theorem dL_law_363 : decode cL_law 363 = .ok (.iconst 1, 1) := by decide +kernel
theorem dL_law_364 : decode cL_law 364 = .ok (.iadd, 1) := by decide +kernel
theorem dL_law_365 : decode cL_law 365 = .ok (.iaload, 1) := by decide +kernel
theorem dL_law_366 : decode cL_law 366 = .ok (.aload_n 0, 1) := by decide +kernel
theorem dL_law_367 : decode cL_law 367 = .ok (.iload_n 3, 1) := by decide +kernel
theorem dL_law_368 : decode cL_law 368 = .ok (.iconst 2, 1) := by decide +kernel
theorem dL_law_369 : decode cL_law 369 = .ok (.iadd, 1) := by decide +kernel
theorem dL_law_370 : decode cL_law 370 = .ok (.iaload, 1) := by decide +kernel
theorem dL_law_371 : decode cL_law 371 = .ok (.invokevirtual 48, 3) := by decide +kernel
theorem dL_law_374 : decode cL_law 374 = .ok (.aload_n 2, 1) := by decide +kernel
theorem dL_law_375 : decode cL_law 375 = .ok (.aload_n 0, 1) := by decide +kernel
theorem dL_law_376 : decode cL_law 376 = .ok (.iload_n 3, 1) := by decide +kernel
theorem dL_law_377 : decode cL_law 377 = .ok (.iconst 1, 1) := by decide +kernel
theorem dL_law_378 : decode cL_law 378 = .ok (.iadd, 1) := by decide +kernel
theorem dL_law_379 : decode cL_law 379 = .ok (.iaload, 1) := by decide +kernel
theorem dL_law_380 : decode cL_law 380 = .ok (.aload_n 0, 1) := by decide +kernel
theorem dL_law_381 : decode cL_law 381 = .ok (.iload_n 3, 1) := by decide +kernel
theorem dL_law_382 : decode cL_law 382 = .ok (.iconst 2, 1) := by decide +kernel
theorem dL_law_383 : decode cL_law 383 = .ok (.iadd, 1) := by decide +kernel
theorem dL_law_384 : decode cL_law 384 = .ok (.iaload, 1) := by decide +kernel
theorem dL_law_385 : decode cL_law 385 = .ok (.invokevirtual 51, 3) := by decide +kernel
theorem dL_law_388 : decode cL_law 388 = .ok (.if_icmp .eq 666, 3) := by decide +kernel
theorem dL_law_391 : decode cL_law 391 = .ok (.iconst 0, 1) := by decide +kernel
theorem dL_law_392 : decode cL_law 392 = .ok (.ireturn, 1) := by decide +kernel
theorem dL_law_393 : decode cL_law 393 = .ok (.aload_n 1, 1) := by decide +kernel
theorem dL_law_394 : decode cL_law 394 = .ok (.aload_n 0, 1) := by decide +kernel
theorem dL_law_395 : decode cL_law 395 = .ok (.iload_n 3, 1) := by decide +kernel
theorem dL_law_396 : decode cL_law 396 = .ok (.iconst 1, 1) := by decide +kernel
theorem dL_law_397 : decode cL_law 397 = .ok (.iadd, 1) := by decide +kernel
theorem dL_law_398 : decode cL_law 398 = .ok (.iaload, 1) := by decide +kernel
theorem dL_law_399 : decode cL_law 399 = .ok (.aload_n 0, 1) := by decide +kernel
theorem dL_law_400 : decode cL_law 400 = .ok (.iload_n 3, 1) := by decide +kernel
theorem dL_law_401 : decode cL_law 401 = .ok (.iconst 2, 1) := by decide +kernel
theorem dL_law_402 : decode cL_law 402 = .ok (.iadd, 1) := by decide +kernel
theorem dL_law_403 : decode cL_law 403 = .ok (.iaload, 1) := by decide +kernel
theorem dL_law_404 : decode cL_law 404 = .ok (.aload_n 0, 1) := by decide +kernel
theorem dL_law_405 : decode cL_law 405 = .ok (.iload_n 3, 1) := by decide +kernel
theorem dL_law_406 : decode cL_law 406 = .ok (.iconst 3, 1) := by decide +kernel
theorem dL_law_407 : decode cL_law 407 = .ok (.iadd, 1) := by decide +kernel
theorem dL_law_408 : decode cL_law 408 = .ok (.iaload, 1) := by decide +kernel
theorem dL_law_409 : decode cL_law 409 = .ok (.invokevirtual 52, 3) := by decide +kernel
theorem dL_law_412 : decode cL_law 412 = .ok (.aload_n 2, 1) := by decide +kernel
theorem dL_law_413 : decode cL_law 413 = .ok (.aload_n 0, 1) := by decide +kernel
theorem dL_law_414 : decode cL_law 414 = .ok (.iload_n 3, 1) := by decide +kernel
theorem dL_law_415 : decode cL_law 415 = .ok (.iconst 1, 1) := by decide +kernel
theorem dL_law_416 : decode cL_law 416 = .ok (.iadd, 1) := by decide +kernel
theorem dL_law_417 : decode cL_law 417 = .ok (.iaload, 1) := by decide +kernel
theorem dL_law_418 : decode cL_law 418 = .ok (.aload_n 0, 1) := by decide +kernel
theorem dL_law_419 : decode cL_law 419 = .ok (.iload_n 3, 1) := by decide +kernel
theorem dL_law_420 : decode cL_law 420 = .ok (.iconst 2, 1) := by decide +kernel
theorem dL_law_421 : decode cL_law 421 = .ok (.iadd, 1) := by decide +kernel
theorem dL_law_422 : decode cL_law 422 = .ok (.iaload, 1) := by decide +kernel
theorem dL_law_423 : decode cL_law 423 = .ok (.aload_n 0, 1) := by decide +kernel
theorem dL_law_424 : decode cL_law 424 = .ok (.iload_n 3, 1) := by decide +kernel
theorem dL_law_425 : decode cL_law 425 = .ok (.iconst 3, 1) := by decide +kernel
theorem dL_law_426 : decode cL_law 426 = .ok (.iadd, 1) := by decide +kernel
theorem dL_law_427 : decode cL_law 427 = .ok (.iaload, 1) := by decide +kernel
theorem dL_law_428 : decode cL_law 428 = .ok (.invokevirtual 56, 3) := by decide +kernel
theorem dL_law_431 : decode cL_law 431 = .ok (.if_icmp .eq 623, 3) := by decide +kernel
theorem dL_law_434 : decode cL_law 434 = .ok (.iconst 0, 1) := by decide +kernel
theorem dL_law_435 : decode cL_law 435 = .ok (.ireturn, 1) := by decide +kernel
theorem dL_law_436 : decode cL_law 436 = .ok (.aload_n 1, 1) := by decide +kernel
theorem dL_law_437 : decode cL_law 437 = .ok (.aload_n 0, 1) := by decide +kernel
theorem dL_law_438 : decode cL_law 438 = .ok (.iload_n 3, 1) := by decide +kernel
theorem dL_law_439 : decode cL_law 439 = .ok (.iconst 1, 1) := by decide +kernel
theorem dL_law_440 : decode cL_law 440 = .ok (.iadd, 1) := by decide +kernel
theorem dL_law_441 : decode cL_law 441 = .ok (.iaload, 1) := by decide +kernel
theorem dL_law_442 : decode cL_law 442 = .ok (.invokevirtual 57, 3) := by decide +kernel
theorem dL_law_445 : decode cL_law 445 = .ok (.aload_n 2, 1) := by decide +kernel
theorem dL_law_446 : decode cL_law 446 = .ok (.aload_n 0, 1) := by decide +kernel
theorem dL_law_447 : decode cL_law 447 = .ok (.iload_n 3, 1) := by decide +kernel
end
section
theorem dL_law_448 : decode cL_law 448 = .ok (.iconst 1, 1) := by decide +kernel
theorem dL_law_449 : decode cL_law 449 = .ok (.iadd, 1) := by decide +kernel
theorem dL_law_450 : decode cL_law 450 = .ok (.iaload, 1) := by decide +kernel
theorem dL_law_451 : decode cL_law 451 = .ok (.invokevirtual 60, 3) := by decide +kernel
theorem dL_law_454 : decode cL_law 454 = .ok (.if_icmp .eq 600, 3) := by decide +kernel
theorem dL_law_457 : decode cL_law 457 = .ok (.iconst 0, 1) := by decide +kernel
theorem dL_law_458 : decode cL_law 458 = .ok (.ireturn, 1) := by decide +kernel
theorem dL_law_459 : decode cL_law 459 = .ok (.aload_n 1, 1) := by decide +kernel
theorem dL_law_460 : decode cL_law 460 = .ok (.aload_n 0, 1) := by decide +kernel
theorem dL_law_461 : decode cL_law 461 = .ok (.iload_n 3, 1) := by decide +kernel
theorem dL_law_462 : decode cL_law 462 = .ok (.iconst 1, 1) := by decide +kernel
theorem dL_law_463 : decode cL_law 463 = .ok (.iadd, 1) := by decide +kernel
theorem dL_law_464 : decode cL_law 464 = .ok (.iaload, 1) := by decide +kernel
theorem dL_law_465 : decode cL_law 465 = .ok (.aload_n 0, 1) := by decide +kernel
theorem dL_law_466 : decode cL_law 466 = .ok (.iload_n 3, 1) := by decide +kernel
theorem dL_law_467 : decode cL_law 467 = .ok (.iconst 2, 1) := by decide +kernel
theorem dL_law_468 : decode cL_law 468 = .ok (.iadd, 1) := by decide +kernel
theorem dL_law_469 : decode cL_law 469 = .ok (.iaload, 1) := by decide +kernel
theorem dL_law_470 : decode cL_law 470 = .ok (.aload_n 0, 1) := by decide +kernel
theorem dL_law_471 : decode cL_law 471 = .ok (.iload_n 3, 1) := by decide +kernel
theorem dL_law_472 : decode cL_law 472 = .ok (.iconst 3, 1) := by decide +kernel
theorem dL_law_473 : decode cL_law 473 = .ok (.iadd, 1) := by decide +kernel
theorem dL_law_474 : decode cL_law 474 = .ok (.iaload, 1) := by decide +kernel
theorem dL_law_475 : decode cL_law 475 = .ok (.ifCond .eq 7, 3) := by decide +kernel
theorem dL_law_478 : decode cL_law 478 = .ok (.iconst 1, 1) := by decide +kernel
theorem dL_law_479 : decode cL_law 479 = .ok (.goto 4, 3) := by decide +kernel
theorem dL_law_482 : decode cL_law 482 = .ok (.iconst 0, 1) := by decide +kernel
theorem dL_law_483 : decode cL_law 483 = .ok (.invokevirtual 61, 3) := by decide +kernel
theorem dL_law_486 : decode cL_law 486 = .ok (.aload_n 2, 1) := by decide +kernel
theorem dL_law_487 : decode cL_law 487 = .ok (.aload_n 0, 1) := by decide +kernel
theorem dL_law_488 : decode cL_law 488 = .ok (.iload_n 3, 1) := by decide +kernel
theorem dL_law_489 : decode cL_law 489 = .ok (.iconst 1, 1) := by decide +kernel
theorem dL_law_490 : decode cL_law 490 = .ok (.iadd, 1) := by decide +kernel
theorem dL_law_491 : decode cL_law 491 = .ok (.iaload, 1) := by decide +kernel
theorem dL_law_492 : decode cL_law 492 = .ok (.aload_n 0, 1) := by decide +kernel
theorem dL_law_493 : decode cL_law 493 = .ok (.iload_n 3, 1) := by decide +kernel
theorem dL_law_494 : decode cL_law 494 = .ok (.iconst 2, 1) := by decide +kernel
theorem dL_law_495 : decode cL_law 495 = .ok (.iadd, 1) := by decide +kernel
theorem dL_law_496 : decode cL_law 496 = .ok (.iaload, 1) := by decide +kernel
theorem dL_law_497 : decode cL_law 497 = .ok (.aload_n 0, 1) := by decide +kernel
theorem dL_law_498 : decode cL_law 498 = .ok (.iload_n 3, 1) := by decide +kernel
theorem dL_law_499 : decode cL_law 499 = .ok (.iconst 3, 1) := by decide +kernel
theorem dL_law_500 : decode cL_law 500 = .ok (.iadd, 1) := by decide +kernel
theorem dL_law_501 : decode cL_law 501 = .ok (.iaload, 1) := by decide +kernel
theorem dL_law_502 : decode cL_law 502 = .ok (.ifCond .eq 7, 3) := by decide +kernel
theorem dL_law_505 : decode cL_law 505 = .ok (.iconst 1, 1) := by decide +kernel
theorem dL_law_506 : decode cL_law 506 = .ok (.goto 4, 3) := by decide +kernel
theorem dL_law_509 : decode cL_law 509 = .ok (.iconst 0, 1) := by decide +kernel
theorem dL_law_510 : decode cL_law 510 = .ok (.invokevirtual 65, 3) := by decide +kernel
theorem dL_law_513 : decode cL_law 513 = .ok (.if_icmp .eq 541, 3) := by decide +kernel
theorem dL_law_516 : decode cL_law 516 = .ok (.iconst 0, 1) := by decide +kernel
theorem dL_law_517 : decode cL_law 517 = .ok (.ireturn, 1) := by decide +kernel
theorem dL_law_518 : decode cL_law 518 = .ok (.aload_n 1, 1) := by decide +kernel
theorem dL_law_519 : decode cL_law 519 = .ok (.aload_n 0, 1) := by decide +kernel
theorem dL_law_520 : decode cL_law 520 = .ok (.iload_n 3, 1) := by decide +kernel
theorem dL_law_521 : decode cL_law 521 = .ok (.iconst 1, 1) := by decide +kernel
theorem dL_law_522 : decode cL_law 522 = .ok (.iadd, 1) := by decide +kernel
theorem dL_law_523 : decode cL_law 523 = .ok (.iaload, 1) := by decide +kernel
theorem dL_law_524 : decode cL_law 524 = .ok (.invokevirtual 66, 3) := by decide +kernel
theorem dL_law_527 : decode cL_law 527 = .ok (.aload_n 2, 1) := by decide +kernel
theorem dL_law_528 : decode cL_law 528 = .ok (.aload_n 0, 1) := by decide +kernel
theorem dL_law_529 : decode cL_law 529 = .ok (.iload_n 3, 1) := by decide +kernel
theorem dL_law_530 : decode cL_law 530 = .ok (.iconst 1, 1) := by decide +kernel
theorem dL_law_531 : decode cL_law 531 = .ok (.iadd, 1) := by decide +kernel
theorem dL_law_532 : decode cL_law 532 = .ok (.iaload, 1) := by decide +kernel
theorem dL_law_533 : decode cL_law 533 = .ok (.invokevirtual 69, 3) := by decide +kernel
theorem dL_law_536 : decode cL_law 536 = .ok (.if_icmp .eq 518, 3) := by decide +kernel
theorem dL_law_539 : decode cL_law 539 = .ok (.iconst 0, 1) := by decide +kernel
theorem dL_law_540 : decode cL_law 540 = .ok (.ireturn, 1) := by decide +kernel
theorem dL_law_541 : decode cL_law 541 = .ok (.aload_n 1, 1) := by decide +kernel
theorem dL_law_542 : decode cL_law 542 = .ok (.invokevirtual 70, 3) := by decide +kernel
theorem dL_law_545 : decode cL_law 545 = .ok (.aload_n 2, 1) := by decide +kernel
theorem dL_law_546 : decode cL_law 546 = .ok (.invokevirtual 73, 3) := by decide +kernel
theorem dL_law_549 : decode cL_law 549 = .ok (.if_icmp .eq 505, 3) := by decide +kernel
theorem dL_law_552 : decode cL_law 552 = .ok (.iconst 0, 1) := by decide +kernel
theorem dL_law_553 : decode cL_law 553 = .ok (.ireturn, 1) := by decide +kernel
theorem dL_law_554 : decode cL_law 554 = .ok (.aload_n 1, 1) := by decide +kernel
theorem dL_law_555 : decode cL_law 555 = .ok (.aload_n 0, 1) := by decide +kernel
theorem dL_law_556 : decode cL_law 556 = .ok (.iload_n 3, 1) := by decide +kernel
theorem dL_law_557 : decode cL_law 557 = .ok (.iconst 1, 1) := by decide +kernel
theorem dL_law_558 : decode cL_law 558 = .ok (.iadd, 1) := by decide +kernel
theorem dL_law_559 : decode cL_law 559 = .ok (.iaload, 1) := by decide +kernel
theorem dL_law_560 : decode cL_law 560 = .ok (.aload_n 0, 1) := by decide +kernel
theorem dL_law_561 : decode cL_law 561 = .ok (.iload_n 3, 1) := by decide +kernel
theorem dL_law_562 : decode cL_law 562 = .ok (.iconst 2, 1) := by decide +kernel
theorem dL_law_563 : decode cL_law 563 = .ok (.iadd, 1) := by decide +kernel
theorem dL_law_564 : decode cL_law 564 = .ok (.iaload, 1) := by decide +kernel
theorem dL_law_565 : decode cL_law 565 = .ok (.invokevirtual 74, 3) := by decide +kernel
theorem dL_law_568 : decode cL_law 568 = .ok (.aload_n 2, 1) := by decide +kernel
theorem dL_law_569 : decode cL_law 569 = .ok (.aload_n 0, 1) := by decide +kernel
theorem dL_law_570 : decode cL_law 570 = .ok (.iload_n 3, 1) := by decide +kernel
theorem dL_law_571 : decode cL_law 571 = .ok (.iconst 1, 1) := by decide +kernel
theorem dL_law_572 : decode cL_law 572 = .ok (.iadd, 1) := by decide +kernel
theorem dL_law_573 : decode cL_law 573 = .ok (.iaload, 1) := by decide +kernel
theorem dL_law_574 : decode cL_law 574 = .ok (.aload_n 0, 1) := by decide +kernel
theorem dL_law_575 : decode cL_law 575 = .ok (.iload_n 3, 1) := by decide +kernel
theorem dL_law_576 : decode cL_law 576 = .ok (.iconst 2, 1) := by decide +kernel
theorem dL_law_577 : decode cL_law 577 = .ok (.iadd, 1) := by decide +kernel
theorem dL_law_578 : decode cL_law 578 = .ok (.iaload, 1) := by decide +kernel
theorem dL_law_579 : decode cL_law 579 = .ok (.invokevirtual 77, 3) := by decide +kernel
theorem dL_law_582 : decode cL_law 582 = .ok (.if_icmp .eq 472, 3) := by decide +kernel
theorem dL_law_585 : decode cL_law 585 = .ok (.iconst 0, 1) := by decide +kernel
theorem dL_law_586 : decode cL_law 586 = .ok (.ireturn, 1) := by decide +kernel
theorem dL_law_587 : decode cL_law 587 = .ok (.aload_n 1, 1) := by decide +kernel
theorem dL_law_588 : decode cL_law 588 = .ok (.aload_n 0, 1) := by decide +kernel
theorem dL_law_589 : decode cL_law 589 = .ok (.iload_n 3, 1) := by decide +kernel
theorem dL_law_590 : decode cL_law 590 = .ok (.iconst 1, 1) := by decide +kernel
theorem dL_law_591 : decode cL_law 591 = .ok (.iadd, 1) := by decide +kernel
theorem dL_law_592 : decode cL_law 592 = .ok (.iaload, 1) := by decide +kernel
theorem dL_law_593 : decode cL_law 593 = .ok (.aload_n 0, 1) := by decide +kernel
theorem dL_law_594 : decode cL_law 594 = .ok (.iload_n 3, 1) := by decide +kernel
theorem dL_law_595 : decode cL_law 595 = .ok (.iconst 2, 1) := by decide +kernel
theorem dL_law_596 : decode cL_law 596 = .ok (.iadd, 1) := by decide +kernel
theorem dL_law_597 : decode cL_law 597 = .ok (.iaload, 1) := by decide +kernel
theorem dL_law_598 : decode cL_law 598 = .ok (.invokevirtual 78, 3) := by decide +kernel
theorem dL_law_601 : decode cL_law 601 = .ok (.aload_n 2, 1) := by decide +kernel
theorem dL_law_602 : decode cL_law 602 = .ok (.aload_n 0, 1) := by decide +kernel
theorem dL_law_603 : decode cL_law 603 = .ok (.iload_n 3, 1) := by decide +kernel
theorem dL_law_604 : decode cL_law 604 = .ok (.iconst 1, 1) := by decide +kernel
theorem dL_law_605 : decode cL_law 605 = .ok (.iadd, 1) := by decide +kernel
theorem dL_law_606 : decode cL_law 606 = .ok (.iaload, 1) := by decide +kernel
theorem dL_law_607 : decode cL_law 607 = .ok (.aload_n 0, 1) := by decide +kernel
theorem dL_law_608 : decode cL_law 608 = .ok (.iload_n 3, 1) := by decide +kernel
theorem dL_law_609 : decode cL_law 609 = .ok (.iconst 2, 1) := by decide +kernel
theorem dL_law_610 : decode cL_law 610 = .ok (.iadd, 1) := by decide +kernel
theorem dL_law_611 : decode cL_law 611 = .ok (.iaload, 1) := by decide +kernel
theorem dL_law_612 : decode cL_law 612 = .ok (.invokevirtual 81, 3) := by decide +kernel
theorem dL_law_615 : decode cL_law 615 = .ok (.if_icmp .eq 439, 3) := by decide +kernel
theorem dL_law_618 : decode cL_law 618 = .ok (.iconst 0, 1) := by decide +kernel
theorem dL_law_619 : decode cL_law 619 = .ok (.ireturn, 1) := by decide +kernel
theorem dL_law_620 : decode cL_law 620 = .ok (.aload_n 1, 1) := by decide +kernel
theorem dL_law_621 : decode cL_law 621 = .ok (.aload_n 0, 1) := by decide +kernel
theorem dL_law_622 : decode cL_law 622 = .ok (.iload_n 3, 1) := by decide +kernel
theorem dL_law_623 : decode cL_law 623 = .ok (.iconst 1, 1) := by decide +kernel
theorem dL_law_624 : decode cL_law 624 = .ok (.iadd, 1) := by decide +kernel
theorem dL_law_625 : decode cL_law 625 = .ok (.iaload, 1) := by decide +kernel
theorem dL_law_626 : decode cL_law 626 = .ok (.aload_n 0, 1) := by decide +kernel
theorem dL_law_627 : decode cL_law 627 = .ok (.iload_n 3, 1) := by decide +kernel
theorem dL_law_628 : decode cL_law 628 = .ok (.iconst 2, 1) := by decide +kernel
theorem dL_law_629 : decode cL_law 629 = .ok (.iadd, 1) := by decide +kernel
theorem dL_law_630 : decode cL_law 630 = .ok (.iaload, 1) := by decide +kernel
theorem dL_law_631 : decode cL_law 631 = .ok (.aload_n 0, 1) := by decide +kernel
theorem dL_law_632 : decode cL_law 632 = .ok (.iload_n 3, 1) := by decide +kernel
theorem dL_law_633 : decode cL_law 633 = .ok (.iconst 3, 1) := by decide +kernel
theorem dL_law_634 : decode cL_law 634 = .ok (.iadd, 1) := by decide +kernel
theorem dL_law_635 : decode cL_law 635 = .ok (.iaload, 1) := by decide +kernel
theorem dL_law_636 : decode cL_law 636 = .ok (.invokevirtual 82, 3) := by decide +kernel
theorem dL_law_639 : decode cL_law 639 = .ok (.aload_n 2, 1) := by decide +kernel
theorem dL_law_640 : decode cL_law 640 = .ok (.aload_n 0, 1) := by decide +kernel
theorem dL_law_641 : decode cL_law 641 = .ok (.iload_n 3, 1) := by decide +kernel
theorem dL_law_642 : decode cL_law 642 = .ok (.iconst 1, 1) := by decide +kernel
theorem dL_law_643 : decode cL_law 643 = .ok (.iadd, 1) := by decide +kernel
theorem dL_law_644 : decode cL_law 644 = .ok (.iaload, 1) := by decide +kernel
theorem dL_law_645 : decode cL_law 645 = .ok (.aload_n 0, 1) := by decide +kernel
theorem dL_law_646 : decode cL_law 646 = .ok (.iload_n 3, 1) := by decide +kernel
theorem dL_law_647 : decode cL_law 647 = .ok (.iconst 2, 1) := by decide +kernel
theorem dL_law_648 : decode cL_law 648 = .ok (.iadd, 1) := by decide +kernel
theorem dL_law_649 : decode cL_law 649 = .ok (.iaload, 1) := by decide +kernel
theorem dL_law_650 : decode cL_law 650 = .ok (.aload_n 0, 1) := by decide +kernel
theorem dL_law_651 : decode cL_law 651 = .ok (.iload_n 3, 1) := by decide +kernel
theorem dL_law_652 : decode cL_law 652 = .ok (.iconst 3, 1) := by decide +kernel
theorem dL_law_653 : decode cL_law 653 = .ok (.iadd, 1) := by decide +kernel
theorem dL_law_654 : decode cL_law 654 = .ok (.iaload, 1) := by decide +kernel
theorem dL_law_655 : decode cL_law 655 = .ok (.invokevirtual 85, 3) := by decide +kernel
theorem dL_law_658 : decode cL_law 658 = .ok (.if_icmp .eq 396, 3) := by decide +kernel
theorem dL_law_661 : decode cL_law 661 = .ok (.iconst 0, 1) := by decide +kernel
theorem dL_law_662 : decode cL_law 662 = .ok (.ireturn, 1) := by decide +kernel
theorem dL_law_663 : decode cL_law 663 = .ok (.aload_n 1, 1) := by decide +kernel
theorem dL_law_664 : decode cL_law 664 = .ok (.aload_n 0, 1) := by decide +kernel
theorem dL_law_665 : decode cL_law 665 = .ok (.iload_n 3, 1) := by decide +kernel
theorem dL_law_666 : decode cL_law 666 = .ok (.iconst 1, 1) := by decide +kernel
theorem dL_law_667 : decode cL_law 667 = .ok (.iadd, 1) := by decide +kernel
theorem dL_law_668 : decode cL_law 668 = .ok (.iaload, 1) := by decide +kernel
theorem dL_law_669 : decode cL_law 669 = .ok (.invokevirtual 86, 3) := by decide +kernel
theorem dL_law_672 : decode cL_law 672 = .ok (.aload_n 2, 1) := by decide +kernel
theorem dL_law_673 : decode cL_law 673 = .ok (.aload_n 0, 1) := by decide +kernel
theorem dL_law_674 : decode cL_law 674 = .ok (.iload_n 3, 1) := by decide +kernel
theorem dL_law_675 : decode cL_law 675 = .ok (.iconst 1, 1) := by decide +kernel
theorem dL_law_676 : decode cL_law 676 = .ok (.iadd, 1) := by decide +kernel
theorem dL_law_677 : decode cL_law 677 = .ok (.iaload, 1) := by decide +kernel
theorem dL_law_678 : decode cL_law 678 = .ok (.invokevirtual 89, 3) := by decide +kernel
theorem dL_law_681 : decode cL_law 681 = .ok (.if_icmp .eq 373, 3) := by decide +kernel
theorem dL_law_684 : decode cL_law 684 = .ok (.iconst 0, 1) := by decide +kernel
theorem dL_law_685 : decode cL_law 685 = .ok (.ireturn, 1) := by decide +kernel
theorem dL_law_686 : decode cL_law 686 = .ok (.aload_n 1, 1) := by decide +kernel
theorem dL_law_687 : decode cL_law 687 = .ok (.aload_n 0, 1) := by decide +kernel
theorem dL_law_688 : decode cL_law 688 = .ok (.iload_n 3, 1) := by decide +kernel
theorem dL_law_689 : decode cL_law 689 = .ok (.iconst 1, 1) := by decide +kernel
theorem dL_law_690 : decode cL_law 690 = .ok (.iadd, 1) := by decide +kernel
theorem dL_law_691 : decode cL_law 691 = .ok (.iaload, 1) := by decide +kernel
theorem dL_law_692 : decode cL_law 692 = .ok (.invokevirtual 90, 3) := by decide +kernel
theorem dL_law_695 : decode cL_law 695 = .ok (.aload_n 2, 1) := by decide +kernel
theorem dL_law_696 : decode cL_law 696 = .ok (.aload_n 0, 1) := by decide +kernel
theorem dL_law_697 : decode cL_law 697 = .ok (.iload_n 3, 1) := by decide +kernel
theorem dL_law_698 : decode cL_law 698 = .ok (.iconst 1, 1) := by decide +kernel
theorem dL_law_699 : decode cL_law 699 = .ok (.iadd, 1) := by decide +kernel
theorem dL_law_700 : decode cL_law 700 = .ok (.iaload, 1) := by decide +kernel
theorem dL_law_701 : decode cL_law 701 = .ok (.invokevirtual 93, 3) := by decide +kernel
theorem dL_law_704 : decode cL_law 704 = .ok (.if_icmp .eq 350, 3) := by decide +kernel
theorem dL_law_707 : decode cL_law 707 = .ok (.iconst 0, 1) := by decide +kernel
theorem dL_law_708 : decode cL_law 708 = .ok (.ireturn, 1) := by decide +kernel
theorem dL_law_709 : decode cL_law 709 = .ok (.aload_n 1, 1) := by decide +kernel
theorem dL_law_710 : decode cL_law 710 = .ok (.aload_n 0, 1) := by decide +kernel
theorem dL_law_711 : decode cL_law 711 = .ok (.iload_n 3, 1) := by decide +kernel
theorem dL_law_712 : decode cL_law 712 = .ok (.iconst 1, 1) := by decide +kernel
theorem dL_law_713 : decode cL_law 713 = .ok (.iadd, 1) := by decide +kernel
theorem dL_law_714 : decode cL_law 714 = .ok (.iaload, 1) := by decide +kernel
theorem dL_law_715 : decode cL_law 715 = .ok (.aload_n 0, 1) := by decide +kernel
theorem dL_law_716 : decode cL_law 716 = .ok (.iload_n 3, 1) := by decide +kernel
theorem dL_law_717 : decode cL_law 717 = .ok (.iconst 2, 1) := by decide +kernel
theorem dL_law_718 : decode cL_law 718 = .ok (.iadd, 1) := by decide +kernel
theorem dL_law_719 : decode cL_law 719 = .ok (.iaload, 1) := by decide +kernel
theorem dL_law_720 : decode cL_law 720 = .ok (.invokevirtual 94, 3) := by decide +kernel
theorem dL_law_723 : decode cL_law 723 = .ok (.aload_n 2, 1) := by decide +kernel
theorem dL_law_724 : decode cL_law 724 = .ok (.aload_n 0, 1) := by decide +kernel
theorem dL_law_725 : decode cL_law 725 = .ok (.iload_n 3, 1) := by decide +kernel
theorem dL_law_726 : decode cL_law 726 = .ok (.iconst 1, 1) := by decide +kernel
theorem dL_law_727 : decode cL_law 727 = .ok (.iadd, 1) := by decide +kernel
theorem dL_law_728 : decode cL_law 728 = .ok (.iaload, 1) := by decide +kernel
theorem dL_law_729 : decode cL_law 729 = .ok (.aload_n 0, 1) := by decide +kernel
theorem dL_law_730 : decode cL_law 730 = .ok (.iload_n 3, 1) := by decide +kernel
theorem dL_law_731 : decode cL_law 731 = .ok (.iconst 2, 1) := by decide +kernel
theorem dL_law_732 : decode cL_law 732 = .ok (.iadd, 1) := by decide +kernel
theorem dL_law_733 : decode cL_law 733 = .ok (.iaload, 1) := by decide +kernel
theorem dL_law_734 : decode cL_law 734 = .ok (.invokevirtual 97, 3) := by decide +kernel
theorem dL_law_737 : decode cL_law 737 = .ok (.if_icmp .eq 317, 3) := by decide +kernel
theorem dL_law_740 : decode cL_law 740 = .ok (.iconst 0, 1) := by decide +kernel
theorem dL_law_741 : decode cL_law 741 = .ok (.ireturn, 1) := by decide +kernel
theorem dL_law_742 : decode cL_law 742 = .ok (.aload_n 1, 1) := by decide +kernel
theorem dL_law_743 : decode cL_law 743 = .ok (.aload_n 0, 1) := by decide +kernel
theorem dL_law_744 : decode cL_law 744 = .ok (.iload_n 3, 1) := by decide +kernel
theorem dL_law_745 : decode cL_law 745 = .ok (.iconst 1, 1) := by decide +kernel
end
section
theorem dL_law_746 : decode cL_law 746 = .ok (.iadd, 1) := by decide +kernel
theorem dL_law_747 : decode cL_law 747 = .ok (.iaload, 1) := by decide +kernel
theorem dL_law_748 : decode cL_law 748 = .ok (.aload_n 0, 1) := by decide +kernel
theorem dL_law_749 : decode cL_law 749 = .ok (.iload_n 3, 1) := by decide +kernel
theorem dL_law_750 : decode cL_law 750 = .ok (.iconst 2, 1) := by decide +kernel
theorem dL_law_751 : decode cL_law 751 = .ok (.iadd, 1) := by decide +kernel
theorem dL_law_752 : decode cL_law 752 = .ok (.iaload, 1) := by decide +kernel
theorem dL_law_753 : decode cL_law 753 = .ok (.invokevirtual 98, 3) := by decide +kernel
theorem dL_law_756 : decode cL_law 756 = .ok (.aload_n 2, 1) := by decide +kernel
theorem dL_law_757 : decode cL_law 757 = .ok (.aload_n 0, 1) := by decide +kernel
theorem dL_law_758 : decode cL_law 758 = .ok (.iload_n 3, 1) := by decide +kernel
theorem dL_law_759 : decode cL_law 759 = .ok (.iconst 1, 1) := by decide +kernel
theorem dL_law_760 : decode cL_law 760 = .ok (.iadd, 1) := by decide +kernel
theorem dL_law_761 : decode cL_law 761 = .ok (.iaload, 1) := by decide +kernel
theorem dL_law_762 : decode cL_law 762 = .ok (.aload_n 0, 1) := by decide +kernel
theorem dL_law_763 : decode cL_law 763 = .ok (.iload_n 3, 1) := by decide +kernel
theorem dL_law_764 : decode cL_law 764 = .ok (.iconst 2, 1) := by decide +kernel
theorem dL_law_765 : decode cL_law 765 = .ok (.iadd, 1) := by decide +kernel
theorem dL_law_766 : decode cL_law 766 = .ok (.iaload, 1) := by decide +kernel
theorem dL_law_767 : decode cL_law 767 = .ok (.invokevirtual 101, 3) := by decide +kernel
theorem dL_law_770 : decode cL_law 770 = .ok (.if_icmp .eq 284, 3) := by decide +kernel
theorem dL_law_773 : decode cL_law 773 = .ok (.iconst 0, 1) := by decide +kernel
theorem dL_law_774 : decode cL_law 774 = .ok (.ireturn, 1) := by decide +kernel
theorem dL_law_775 : decode cL_law 775 = .ok (.aload_n 1, 1) := by decide +kernel
theorem dL_law_776 : decode cL_law 776 = .ok (.aload_n 0, 1) := by decide +kernel
theorem dL_law_777 : decode cL_law 777 = .ok (.iload_n 3, 1) := by decide +kernel
theorem dL_law_778 : decode cL_law 778 = .ok (.iconst 1, 1) := by decide +kernel
theorem dL_law_779 : decode cL_law 779 = .ok (.iadd, 1) := by decide +kernel
theorem dL_law_780 : decode cL_law 780 = .ok (.iaload, 1) := by decide +kernel
theorem dL_law_781 : decode cL_law 781 = .ok (.aload_n 0, 1) := by decide +kernel
theorem dL_law_782 : decode cL_law 782 = .ok (.iload_n 3, 1) := by decide +kernel
theorem dL_law_783 : decode cL_law 783 = .ok (.iconst 2, 1) := by decide +kernel
theorem dL_law_784 : decode cL_law 784 = .ok (.iadd, 1) := by decide +kernel
theorem dL_law_785 : decode cL_law 785 = .ok (.iaload, 1) := by decide +kernel
theorem dL_law_786 : decode cL_law 786 = .ok (.invokevirtual 102, 3) := by decide +kernel
theorem dL_law_789 : decode cL_law 789 = .ok (.aload_n 2, 1) := by decide +kernel
theorem dL_law_790 : decode cL_law 790 = .ok (.aload_n 0, 1) := by decide +kernel
theorem dL_law_791 : decode cL_law 791 = .ok (.iload_n 3, 1) := by decide +kernel
theorem dL_law_792 : decode cL_law 792 = .ok (.iconst 1, 1) := by decide +kernel
theorem dL_law_793 : decode cL_law 793 = .ok (.iadd, 1) := by decide +kernel
theorem dL_law_794 : decode cL_law 794 = .ok (.iaload, 1) := by decide +kernel
theorem dL_law_795 : decode cL_law 795 = .ok (.aload_n 0, 1) := by decide +kernel
theorem dL_law_796 : decode cL_law 796 = .ok (.iload_n 3, 1) := by decide +kernel
theorem dL_law_797 : decode cL_law 797 = .ok (.iconst 2, 1) := by decide +kernel
theorem dL_law_798 : decode cL_law 798 = .ok (.iadd, 1) := by decide +kernel
theorem dL_law_799 : decode cL_law 799 = .ok (.iaload, 1) := by decide +kernel
theorem dL_law_800 : decode cL_law 800 = .ok (.invokevirtual 105, 3) := by decide +kernel
theorem dL_law_803 : decode cL_law 803 = .ok (.if_icmp .eq 251, 3) := by decide +kernel
theorem dL_law_806 : decode cL_law 806 = .ok (.iconst 0, 1) := by decide +kernel
theorem dL_law_807 : decode cL_law 807 = .ok (.ireturn, 1) := by decide +kernel
theorem dL_law_808 : decode cL_law 808 = .ok (.aload_n 1, 1) := by decide +kernel
theorem dL_law_809 : decode cL_law 809 = .ok (.aload_n 0, 1) := by decide +kernel
theorem dL_law_810 : decode cL_law 810 = .ok (.iload_n 3, 1) := by decide +kernel
theorem dL_law_811 : decode cL_law 811 = .ok (.iconst 1, 1) := by decide +kernel
theorem dL_law_812 : decode cL_law 812 = .ok (.iadd, 1) := by decide +kernel
theorem dL_law_813 : decode cL_law 813 = .ok (.iaload, 1) := by decide +kernel
theorem dL_law_814 : decode cL_law 814 = .ok (.aload_n 0, 1) := by decide +kernel
theorem dL_law_815 : decode cL_law 815 = .ok (.iload_n 3, 1) := by decide +kernel
theorem dL_law_816 : decode cL_law 816 = .ok (.iconst 2, 1) := by decide +kernel
theorem dL_law_817 : decode cL_law 817 = .ok (.iadd, 1) := by decide +kernel
theorem dL_law_818 : decode cL_law 818 = .ok (.iaload, 1) := by decide +kernel
theorem dL_law_819 : decode cL_law 819 = .ok (.invokevirtual 106, 3) := by decide +kernel
theorem dL_law_822 : decode cL_law 822 = .ok (.aload_n 2, 1) := by decide +kernel
theorem dL_law_823 : decode cL_law 823 = .ok (.aload_n 0, 1) := by decide +kernel
theorem dL_law_824 : decode cL_law 824 = .ok (.iload_n 3, 1) := by decide +kernel
theorem dL_law_825 : decode cL_law 825 = .ok (.iconst 1, 1) := by decide +kernel
theorem dL_law_826 : decode cL_law 826 = .ok (.iadd, 1) := by decide +kernel
theorem dL_law_827 : decode cL_law 827 = .ok (.iaload, 1) := by decide +kernel
theorem dL_law_828 : decode cL_law 828 = .ok (.aload_n 0, 1) := by decide +kernel
theorem dL_law_829 : decode cL_law 829 = .ok (.iload_n 3, 1) := by decide +kernel
theorem dL_law_830 : decode cL_law 830 = .ok (.iconst 2, 1) := by decide +kernel
theorem dL_law_831 : decode cL_law 831 = .ok (.iadd, 1) := by decide +kernel
theorem dL_law_832 : decode cL_law 832 = .ok (.iaload, 1) := by decide +kernel
theorem dL_law_833 : decode cL_law 833 = .ok (.invokevirtual 109, 3) := by decide +kernel
theorem dL_law_836 : decode cL_law 836 = .ok (.if_icmp .eq 218, 3) := by decide +kernel
theorem dL_law_839 : decode cL_law 839 = .ok (.iconst 0, 1) := by decide +kernel
theorem dL_law_840 : decode cL_law 840 = .ok (.ireturn, 1) := by decide +kernel
theorem dL_law_841 : decode cL_law 841 = .ok (.aload_n 1, 1) := by decide +kernel
theorem dL_law_842 : decode cL_law 842 = .ok (.aload_n 0, 1) := by decide +kernel
theorem dL_law_843 : decode cL_law 843 = .ok (.iload_n 3, 1) := by decide +kernel
theorem dL_law_844 : decode cL_law 844 = .ok (.iconst 1, 1) := by decide +kernel
theorem dL_law_845 : decode cL_law 845 = .ok (.iadd, 1) := by decide +kernel
theorem dL_law_846 : decode cL_law 846 = .ok (.iaload, 1) := by decide +kernel
theorem dL_law_847 : decode cL_law 847 = .ok (.aload_n 0, 1) := by decide +kernel
theorem dL_law_848 : decode cL_law 848 = .ok (.iload_n 3, 1) := by decide +kernel
theorem dL_law_849 : decode cL_law 849 = .ok (.iconst 2, 1) := by decide +kernel
theorem dL_law_850 : decode cL_law 850 = .ok (.iadd, 1) := by decide +kernel
theorem dL_law_851 : decode cL_law 851 = .ok (.iaload, 1) := by decide +kernel
theorem dL_law_852 : decode cL_law 852 = .ok (.aload_n 0, 1) := by decide +kernel
theorem dL_law_853 : decode cL_law 853 = .ok (.iload_n 3, 1) := by decide +kernel
theorem dL_law_854 : decode cL_law 854 = .ok (.iconst 3, 1) := by decide +kernel
theorem dL_law_855 : decode cL_law 855 = .ok (.iadd, 1) := by decide +kernel
theorem dL_law_856 : decode cL_law 856 = .ok (.iaload, 1) := by decide +kernel
theorem dL_law_857 : decode cL_law 857 = .ok (.ifCond .eq 7, 3) := by decide +kernel
theorem dL_law_860 : decode cL_law 860 = .ok (.iconst 1, 1) := by decide +kernel
theorem dL_law_861 : decode cL_law 861 = .ok (.goto 4, 3) := by decide +kernel
theorem dL_law_864 : decode cL_law 864 = .ok (.iconst 0, 1) := by decide +kernel
theorem dL_law_865 : decode cL_law 865 = .ok (.invokevirtual 110, 3) := by decide +kernel
theorem dL_law_868 : decode cL_law 868 = .ok (.aload_n 2, 1) := by decide +kernel
theorem dL_law_869 : decode cL_law 869 = .ok (.aload_n 0, 1) := by decide +kernel
theorem dL_law_870 : decode cL_law 870 = .ok (.iload_n 3, 1) := by decide +kernel
theorem dL_law_871 : decode cL_law 871 = .ok (.iconst 1, 1) := by decide +kernel
theorem dL_law_872 : decode cL_law 872 = .ok (.iadd, 1) := by decide +kernel
theorem dL_law_873 : decode cL_law 873 = .ok (.iaload, 1) := by decide +kernel
theorem dL_law_874 : decode cL_law 874 = .ok (.aload_n 0, 1) := by decide +kernel
theorem dL_law_875 : decode cL_law 875 = .ok (.iload_n 3, 1) := by decide +kernel
theorem dL_law_876 : decode cL_law 876 = .ok (.iconst 2, 1) := by decide +kernel
theorem dL_law_877 : decode cL_law 877 = .ok (.iadd, 1) := by decide +kernel
theorem dL_law_878 : decode cL_law 878 = .ok (.iaload, 1) := by decide +kernel
theorem dL_law_879 : decode cL_law 879 = .ok (.aload_n 0, 1) := by decide +kernel
theorem dL_law_880 : decode cL_law 880 = .ok (.iload_n 3, 1) := by decide +kernel
theorem dL_law_881 : decode cL_law 881 = .ok (.iconst 3, 1) := by decide +kernel
theorem dL_law_882 : decode cL_law 882 = .ok (.iadd, 1) := by decide +kernel
theorem dL_law_883 : decode cL_law 883 = .ok (.iaload, 1) := by decide +kernel
theorem dL_law_884 : decode cL_law 884 = .ok (.ifCond .eq 7, 3) := by decide +kernel
theorem dL_law_887 : decode cL_law 887 = .ok (.iconst 1, 1) := by decide +kernel
theorem dL_law_888 : decode cL_law 888 = .ok (.goto 4, 3) := by decide +kernel
theorem dL_law_891 : decode cL_law 891 = .ok (.iconst 0, 1) := by decide +kernel
theorem dL_law_892 : decode cL_law 892 = .ok (.invokevirtual 113, 3) := by decide +kernel
theorem dL_law_895 : decode cL_law 895 = .ok (.if_icmp .eq 159, 3) := by decide +kernel
theorem dL_law_898 : decode cL_law 898 = .ok (.iconst 0, 1) := by decide +kernel
theorem dL_law_899 : decode cL_law 899 = .ok (.ireturn, 1) := by decide +kernel
theorem dL_law_900 : decode cL_law 900 = .ok (.aload_n 1, 1) := by decide +kernel
theorem dL_law_901 : decode cL_law 901 = .ok (.invokevirtual 114, 3) := by decide +kernel
theorem dL_law_904 : decode cL_law 904 = .ok (.aload_n 2, 1) := by decide +kernel
theorem dL_law_905 : decode cL_law 905 = .ok (.invokevirtual 117, 3) := by decide +kernel
theorem dL_law_908 : decode cL_law 908 = .ok (.if_icmp .eq 146, 3) := by decide +kernel
theorem dL_law_911 : decode cL_law 911 = .ok (.iconst 0, 1) := by decide +kernel
theorem dL_law_912 : decode cL_law 912 = .ok (.ireturn, 1) := by decide +kernel
theorem dL_law_913 : decode cL_law 913 = .ok (.aload_n 1, 1) := by decide +kernel
theorem dL_law_914 : decode cL_law 914 = .ok (.invokevirtual 118, 3) := by decide +kernel
theorem dL_law_917 : decode cL_law 917 = .ok (.aload_n 2, 1) := by decide +kernel
theorem dL_law_918 : decode cL_law 918 = .ok (.invokevirtual 121, 3) := by decide +kernel
theorem dL_law_921 : decode cL_law 921 = .ok (.if_icmp .eq 133, 3) := by decide +kernel
theorem dL_law_924 : decode cL_law 924 = .ok (.iconst 0, 1) := by decide +kernel
theorem dL_law_925 : decode cL_law 925 = .ok (.ireturn, 1) := by decide +kernel
theorem dL_law_926 : decode cL_law 926 = .ok (.aload_n 1, 1) := by decide +kernel
theorem dL_law_927 : decode cL_law 927 = .ok (.aload_n 0, 1) := by decide +kernel
theorem dL_law_928 : decode cL_law 928 = .ok (.iload_n 3, 1) := by decide +kernel
theorem dL_law_929 : decode cL_law 929 = .ok (.iconst 1, 1) := by decide +kernel
theorem dL_law_930 : decode cL_law 930 = .ok (.iadd, 1) := by decide +kernel
theorem dL_law_931 : decode cL_law 931 = .ok (.iaload, 1) := by decide +kernel
theorem dL_law_932 : decode cL_law 932 = .ok (.aload_n 0, 1) := by decide +kernel
theorem dL_law_933 : decode cL_law 933 = .ok (.iload_n 3, 1) := by decide +kernel
theorem dL_law_934 : decode cL_law 934 = .ok (.iconst 2, 1) := by decide +kernel
theorem dL_law_935 : decode cL_law 935 = .ok (.iadd, 1) := by decide +kernel
theorem dL_law_936 : decode cL_law 936 = .ok (.iaload, 1) := by decide +kernel
theorem dL_law_937 : decode cL_law 937 = .ok (.invokevirtual 122, 3) := by decide +kernel
theorem dL_law_940 : decode cL_law 940 = .ok (.aload_n 2, 1) := by decide +kernel
theorem dL_law_941 : decode cL_law 941 = .ok (.aload_n 0, 1) := by decide +kernel
theorem dL_law_942 : decode cL_law 942 = .ok (.iload_n 3, 1) := by decide +kernel
theorem dL_law_943 : decode cL_law 943 = .ok (.iconst 1, 1) := by decide +kernel
theorem dL_law_944 : decode cL_law 944 = .ok (.iadd, 1) := by decide +kernel
theorem dL_law_945 : decode cL_law 945 = .ok (.iaload, 1) := by decide +kernel
theorem dL_law_946 : decode cL_law 946 = .ok (.aload_n 0, 1) := by decide +kernel
theorem dL_law_947 : decode cL_law 947 = .ok (.iload_n 3, 1) := by decide +kernel
theorem dL_law_948 : decode cL_law 948 = .ok (.iconst 2, 1) := by decide +kernel
theorem dL_law_949 : decode cL_law 949 = .ok (.iadd, 1) := by decide +kernel
theorem dL_law_950 : decode cL_law 950 = .ok (.iaload, 1) := by decide +kernel
theorem dL_law_951 : decode cL_law 951 = .ok (.invokevirtual 125, 3) := by decide +kernel
theorem dL_law_954 : decode cL_law 954 = .ok (.if_icmp .eq 100, 3) := by decide +kernel
theorem dL_law_957 : decode cL_law 957 = .ok (.iconst 0, 1) := by decide +kernel
theorem dL_law_958 : decode cL_law 958 = .ok (.ireturn, 1) := by decide +kernel
theorem dL_law_959 : decode cL_law 959 = .ok (.aload_n 1, 1) := by decide +kernel
theorem dL_law_960 : decode cL_law 960 = .ok (.invokevirtual 126, 3) := by decide +kernel
theorem dL_law_963 : decode cL_law 963 = .ok (.aload_n 2, 1) := by decide +kernel
theorem dL_law_964 : decode cL_law 964 = .ok (.invokevirtual 129, 3) := by decide +kernel
theorem dL_law_967 : decode cL_law 967 = .ok (.if_icmp .eq 87, 3) := by decide +kernel
theorem dL_law_970 : decode cL_law 970 = .ok (.iconst 0, 1) := by decide +kernel
theorem dL_law_971 : decode cL_law 971 = .ok (.ireturn, 1) := by decide +kernel
theorem dL_law_972 : decode cL_law 972 = .ok (.aload_n 1, 1) := by decide +kernel
theorem dL_law_973 : decode cL_law 973 = .ok (.invokevirtual 130, 3) := by decide +kernel
theorem dL_law_976 : decode cL_law 976 = .ok (.aload_n 2, 1) := by decide +kernel
theorem dL_law_977 : decode cL_law 977 = .ok (.invokevirtual 133, 3) := by decide +kernel
theorem dL_law_980 : decode cL_law 980 = .ok (.if_icmp .eq 74, 3) := by decide +kernel
theorem dL_law_983 : decode cL_law 983 = .ok (.iconst 0, 1) := by decide +kernel
theorem dL_law_984 : decode cL_law 984 = .ok (.ireturn, 1) := by decide +kernel
theorem dL_law_985 : decode cL_law 985 = .ok (.aload_n 1, 1) := by decide +kernel
theorem dL_law_986 : decode cL_law 986 = .ok (.aload_n 0, 1) := by decide +kernel
theorem dL_law_987 : decode cL_law 987 = .ok (.iload_n 3, 1) := by decide +kernel
theorem dL_law_988 : decode cL_law 988 = .ok (.iconst 1, 1) := by decide +kernel
theorem dL_law_989 : decode cL_law 989 = .ok (.iadd, 1) := by decide +kernel
theorem dL_law_990 : decode cL_law 990 = .ok (.iaload, 1) := by decide +kernel
theorem dL_law_991 : decode cL_law 991 = .ok (.invokevirtual 134, 3) := by decide +kernel
theorem dL_law_994 : decode cL_law 994 = .ok (.aload_n 2, 1) := by decide +kernel
theorem dL_law_995 : decode cL_law 995 = .ok (.aload_n 0, 1) := by decide +kernel
theorem dL_law_996 : decode cL_law 996 = .ok (.iload_n 3, 1) := by decide +kernel
theorem dL_law_997 : decode cL_law 997 = .ok (.iconst 1, 1) := by decide +kernel
theorem dL_law_998 : decode cL_law 998 = .ok (.iadd, 1) := by decide +kernel
theorem dL_law_999 : decode cL_law 999 = .ok (.iaload, 1) := by decide +kernel
theorem dL_law_1000 : decode cL_law 1000 = .ok (.invokevirtual 137, 3) := by decide +kernel
theorem dL_law_1003 : decode cL_law 1003 = .ok (.if_icmp .eq 51, 3) := by decide +kernel
theorem dL_law_1006 : decode cL_law 1006 = .ok (.iconst 0, 1) := by decide +kernel
theorem dL_law_1007 : decode cL_law 1007 = .ok (.ireturn, 1) := by decide +kernel
theorem dL_law_1008 : decode cL_law 1008 = .ok (.aload_n 1, 1) := by decide +kernel
theorem dL_law_1009 : decode cL_law 1009 = .ok (.aload_n 0, 1) := by decide +kernel
theorem dL_law_1010 : decode cL_law 1010 = .ok (.iload_n 3, 1) := by decide +kernel
theorem dL_law_1011 : decode cL_law 1011 = .ok (.iconst 1, 1) := by decide +kernel
theorem dL_law_1012 : decode cL_law 1012 = .ok (.iadd, 1) := by decide +kernel
theorem dL_law_1013 : decode cL_law 1013 = .ok (.iaload, 1) := by decide +kernel
theorem dL_law_1014 : decode cL_law 1014 = .ok (.invokevirtual 138, 3) := by decide +kernel
theorem dL_law_1017 : decode cL_law 1017 = .ok (.aload_n 2, 1) := by decide +kernel
theorem dL_law_1018 : decode cL_law 1018 = .ok (.aload_n 0, 1) := by decide +kernel
theorem dL_law_1019 : decode cL_law 1019 = .ok (.iload_n 3, 1) := by decide +kernel
theorem dL_law_1020 : decode cL_law 1020 = .ok (.iconst 1, 1) := by decide +kernel
theorem dL_law_1021 : decode cL_law 1021 = .ok (.iadd, 1) := by decide +kernel
theorem dL_law_1022 : decode cL_law 1022 = .ok (.iaload, 1) := by decide +kernel
theorem dL_law_1023 : decode cL_law 1023 = .ok (.invokevirtual 141, 3) := by decide +kernel
theorem dL_law_1026 : decode cL_law 1026 = .ok (.if_icmp .eq 28, 3) := by decide +kernel
theorem dL_law_1029 : decode cL_law 1029 = .ok (.iconst 0, 1) := by decide +kernel
theorem dL_law_1030 : decode cL_law 1030 = .ok (.ireturn, 1) := by decide +kernel
theorem dL_law_1031 : decode cL_law 1031 = .ok (.aload_n 1, 1) := by decide +kernel
theorem dL_law_1032 : decode cL_law 1032 = .ok (.aload_n 0, 1) := by decide +kernel
theorem dL_law_1033 : decode cL_law 1033 = .ok (.iload_n 3, 1) := by decide +kernel
theorem dL_law_1034 : decode cL_law 1034 = .ok (.iconst 1, 1) := by decide +kernel
theorem dL_law_1035 : decode cL_law 1035 = .ok (.iadd, 1) := by decide +kernel
theorem dL_law_1036 : decode cL_law 1036 = .ok (.iaload, 1) := by decide +kernel
theorem dL_law_1037 : decode cL_law 1037 = .ok (.invokevirtual 142, 3) := by decide +kernel
theorem dL_law_1040 : decode cL_law 1040 = .ok (.aload_n 2, 1) := by decide +kernel
theorem dL_law_1041 : decode cL_law 1041 = .ok (.aload_n 0, 1) := by decide +kernel
theorem dL_law_1042 : decode cL_law 1042 = .ok (.iload_n 3, 1) := by decide +kernel
theorem dL_law_1043 : decode cL_law 1043 = .ok (.iconst 1, 1) := by decide +kernel
theorem dL_law_1044 : decode cL_law 1044 = .ok (.iadd, 1) := by decide +kernel
theorem dL_law_1045 : decode cL_law 1045 = .ok (.iaload, 1) := by decide +kernel
theorem dL_law_1046 : decode cL_law 1046 = .ok (.invokevirtual 145, 3) := by decide +kernel
theorem dL_law_1049 : decode cL_law 1049 = .ok (.if_icmp .eq 5, 3) := by decide +kernel
theorem dL_law_1052 : decode cL_law 1052 = .ok (.iconst 0, 1) := by decide +kernel
theorem dL_law_1053 : decode cL_law 1053 = .ok (.ireturn, 1) := by decide +kernel
theorem dL_law_1054 : decode cL_law 1054 = .ok (.iinc 3 4, 3) := by decide +kernel
theorem dL_law_1057 : decode cL_law 1057 = .ok (.goto (-1039), 3) := by decide +kernel
theorem dL_law_1060 : decode cL_law 1060 = .ok (.iconst 1, 1) := by decide +kernel
theorem dL_law_1061 : decode cL_law 1061 = .ok (.ireturn, 1) := by decide +kernel
end
section
/-! ===== worlds by number: cell i of a run lies at B + i; what cells are (T) beside what ints they hold (σ) ===== -/
abbrev tp_T : Type := Nat × (Nat → Nat × Nat) × (Nat → Nat → Option Nat)
abbrev tp_M : Type := Nat → Nat → Int32
/-- launch, base, class ids, slots, array classes -/
abbrev tp_E : Type := Launch × Nat × (Nat → ClassId) × (Nat → Nat → Nat) × (Nat → ClassId)
/-- a method: its class, code, locals, return, is it a constructor -/
abbrev tp_I : Type := String × ByteArray × Nat × Option FieldType × Bool
def tp_v (B : Nat) (v : Value) : Value := match v with
  | .ref a => .ref (B + a)
  | w => w
theorem tp_v_cat (B : Nat) (v : Value) : (tp_v B v).category = v.category := by cases v <;> rfl
def tp_g (B : Nat) (q : Nat × Value) : Nat × Value := (q.1, tp_v B q.2)
def tp_nf (c : Nat) : Nat := [4, 8, 3, 9, 3, 13, 7, 6, 6, 9, 46].getD c 0
def tp_isr (c k : Nat) : Bool := (([[true, true, true, false], [true, true, true, true, true, true, true, false], [true, false, false], [true, true, true, true, true, true, true, false, false], [true, false, false], [false, false, false, false, false, false, true, true, true, true, true, true, true], [true, true, false, false, false, false, false], [true, true, true, true, true, false], [false, false, true, true, true, true], [true, true, true, true, true, true, true, true, true], [true, true, false, false, false, false, true, false, true, false, true, true, false, true, true, true, false, false, false, false, false, false, false, false, false, true, false, true, false, true, false, true, true, true, true, true, true, true, true, false, true, true, true, false, true, true]] : List (List Bool)).getD c []).getD k false
def tp_fs (B c : Nat) (r : Nat → Option Nat) (f : Nat → Int32) : List Value := (List.range (tp_nf c)).map (fun k => if tp_isr c k = true then va_rf ((r k).map (fun a => B + a)) else .int (f k))
def tp_e (E : tp_E) (T : tp_T) (σ : tp_M) (i : Nat) : va_E :=
  if (T.2.1 i).1 < 11 then .inr ((T.2.1 i).1, tp_fs E.2.1 (T.2.1 i).1 (T.2.2 i) (σ i))
  else if (T.2.1 i).1 < 14 then .inl (E.2.2.2.2 ((T.2.1 i).1 - 11), (T.2.1 i).2, .inl (σ i))
  else .inl (E.2.2.2.2 ((T.2.1 i).1 - 11), (T.2.1 i).2, .inr (.inr (.inr (.inr (fun k => (T.2.2 i k).map (fun a => E.2.1 + a))))))
def tp_w (E : tp_E) (T : tp_T) (σ : tp_M) : va_W := (List.range T.1).map (fun i => (E.2.1 + i, tp_e E T σ i))
def tp_tys (E : tp_E) : List (ClassId × FieldType) := [(E.2.2.2.2 0, .int), (E.2.2.2.2 1, .char), (E.2.2.2.2 2, .boolean), (E.2.2.2.2 3, .object "TrayLands$State"), (E.2.2.2.2 4, .object "TrayLands$Image")]
def tb_N : List (String × Nat × MethodName × String) := [("TrayLands", 9, ⟨"TrayLands$Plan", "<init>", "()V"⟩, "TrayLands"), ("TrayLands", 17, ⟨"TrayLands$Image", "<init>", "()V"⟩, "TrayLands"), ("TrayLands", 20, ⟨"TrayLands$Reader", "<init>", "()V"⟩, "TrayLands"), ("TrayLands$Reader", 11, ⟨"TrayLands$Plan", "<init>", "()V"⟩, "TrayLands"), ("TrayLands$Reader", 74, ⟨"TrayLands", "has", "(II)Z"⟩, "TrayLands"), ("TrayLands$Plan", 72, ⟨"TrayLands", "has", "(II)Z"⟩, "TrayLands"), ("TrayLands$State", 53, ⟨"TrayLands", "sideOf", "(II)I"⟩, "TrayLands"), ("TrayLands$Clock", 29, ⟨"TrayLands", "sideOf", "(II)I"⟩, "TrayLands"), ("TrayLands$Clock", 56, ⟨"TrayLands", "has", "(II)Z"⟩, "TrayLands"), ("TrayLands$Delays", 87, ⟨"TrayLands", "stepsOf", "(I)I"⟩, "TrayLands"), ("TrayLands$Delays", 59, ⟨"TrayLands", "power", "(II)I"⟩, "TrayLands"), ("TrayLands$Delays", 63, ⟨"TrayLands", "spell", "(II[II)V"⟩, "TrayLands"), ("TrayLands$Delays", 115, ⟨"TrayLands", "has", "(II)Z"⟩, "TrayLands"), ("TrayLands$Service", 52, ⟨"TrayLands", "power", "(II)I"⟩, "TrayLands"), ("TrayLands$Service", 56, ⟨"TrayLands", "spell", "(II[II)V"⟩, "TrayLands"), ("TrayLands$Service", 88, ⟨"TrayLands", "has", "(II)Z"⟩, "TrayLands"), ("TrayLands$Notes", 58, ⟨"TrayLands", "has", "(II)Z"⟩, "TrayLands")]
/-- what isn't kept by itself: the nest's links, the classes of arrays of objects -/
def tp_N (U : State) : Prop := (∀ q ∈ tb_N, va_Nw (.methodLinkNest q.1 q.2.1 q.2.2.1 q.2.2.2) U) ∧ va_AO "TrayLands$State" U ∧ va_AO "TrayLands$Image" U
def tp_K (E : tp_E) (U : State) : Prop := va_K (E.2.2.1, E.2.2.2.1) vwCl (tp_tys E) U ∧ tp_N U
theorem tp_K.warm {E : tp_E} {s U : State} (hW : s.WarmedH U.vm) (h : tp_K E s) : tp_K E U := ⟨va_K.moved hW.alike h.1, fun q hq => va_Nw.warmM hW (h.2.1 q hq), va_AO.moved hW.alike h.2.2.1, va_AO.moved hW.alike h.2.2.2⟩
theorem tp_K.same {E : tp_E} {s U : State} (hW : s.vm = U.vm) (h : tp_K E s) : tp_K E U := ⟨va_K.moved (by rw [← hW]; exact Vm.Alike.refl s.vm) h.1, fun q hq => va_Nw.same rfl hW (h.2.1 q hq), va_AO.moved (by rw [← hW]; exact Vm.Alike.refl s.vm) h.2.2.1, va_AO.moved (by rw [← hW]; exact Vm.Alike.refl s.vm) h.2.2.2⟩
abbrev tp_P (E : tp_E) (T : tp_T) (σ : tp_M) (H : Heap) : Prop := va_P (E.2.2.1, E.2.2.2.1) vwCl (tp_w E T σ) H
def tp_u (σ : tp_M) (o k : Nat) (x : Int32) : tp_M := fun o' => if o' = o then upd (σ o) k x else σ o'
def tp_ur (T : tp_T) (o k a : Nat) : tp_T := (T.1, T.2.1, fun o' => if o' = o then va_up (T.2.2 o) k (some a) else T.2.2 o')
def tp_nT (T : tp_T) (kd n : Nat) : tp_T := (T.1 + 1, va_up T.2.1 T.1 (kd, n), va_up T.2.2 T.1 (fun _ => none))
def tp_nM (σ : tp_M) (n : Nat) : tp_M := va_up σ n (fun _ => 0)
def tp_cp (σ : tp_M) (a b s d n : Nat) : tp_M := fun o' => if o' = b then va_cpy (σ a) (σ b) s d n else σ o'
section TPB
variable {E : tp_E} {T T' : tp_T} {σ σ' : tp_M}
theorem tp_w_at {i : Nat} (h : i < T.1) : (tp_w E T σ)[i]? = some (E.2.1 + i, tp_e E T σ i) := by
  unfold tp_w
  rw [List.getElem?_map, List.getElem?_range h]
  rfl
theorem tp_w_inv {k : Nat} {q : Nat × va_E} (h : (tp_w E T σ)[k]? = some q) : k < T.1 ∧ q = (E.2.1 + k, tp_e E T σ k) := by
  have hk : k < T.1 := by
    have := (List.getElem?_eq_some_iff.mp h).1
    simpa [tp_w] using this
  refine ⟨hk, ?_⟩
  rw [tp_w_at hk] at h
  exact (Option.some.inj h).symm
theorem tp_D {A : Nat → Prop} (h : ∀ i, i < T.1 → A (E.2.1 + i)) : va_D A (tp_w E T σ) := by
  refine ⟨fun i j p q hi hj hpq => ?_, fun k q hk => ?_⟩
  · obtain ⟨_, rfl⟩ := tp_w_inv hi
    obtain ⟨_, rfl⟩ := tp_w_inv hj
    exact Nat.add_left_cancel hpq
  · obtain ⟨hk2, hq⟩ := tp_w_inv hk
    rw [hq]
    exact h k hk2
theorem tp_set {i : Nat} {e' : va_E} (hn : T'.1 = T.1) (h1 : e' = tp_e E T' σ' i) (h2 : ∀ j, j ≠ i → tp_e E T' σ' j = tp_e E T σ j) : (tp_w E T σ).set i (E.2.1 + i, e') = tp_w E T' σ' := by
  apply List.ext_getElem?
  intro k
  by_cases hk : k = i
  · subst hk
    by_cases hl : k < T.1
    · rw [List.getElem?_set_self (by simpa [tp_w] using hl), tp_w_at (T := T') (by rw [hn]; exact hl), h1]
    · rw [List.getElem?_eq_none (by simp [tp_w]; omega), List.getElem?_eq_none (by simp [tp_w]; omega)]
  · rw [List.getElem?_set_ne (Ne.symm hk)]
    by_cases hl : k < T.1
    · rw [tp_w_at hl, tp_w_at (T := T') (by rw [hn]; exact hl), h2 k hk]
    · rw [List.getElem?_eq_none (by simp [tp_w]; omega), List.getElem?_eq_none (by simp [tp_w]; omega)]
theorem tp_push {e' : va_E} (hn : T'.1 = T.1 + 1) (h1 : e' = tp_e E T' σ' T.1) (h2 : ∀ j, j < T.1 → tp_e E T' σ' j = tp_e E T σ j) : tp_w E T σ ++ [(E.2.1 + T.1, e')] = tp_w E T' σ' := by
  apply List.ext_getElem?
  intro k
  have hlen : (tp_w E T σ).length = T.1 := by simp [tp_w]
  by_cases hk : k < T.1
  · rw [List.getElem?_append_left (by rw [hlen]; exact hk), tp_w_at hk, tp_w_at (T := T') (by omega), h2 k hk]
  · rw [List.getElem?_append_right (by rw [hlen]; omega), hlen]
    by_cases hk2 : k = T.1
    · subst hk2
      rw [Nat.sub_self, tp_w_at (T := T') (by omega), h1]
      rfl
    · rw [List.getElem?_eq_none (by simp; omega), List.getElem?_eq_none (by simp [tp_w]; omega)]
theorem tp_e_obj {i c : Nat} (h : (T.2.1 i).1 = c) (hc : c < 11) : tp_e E T σ i = .inr (c, tp_fs E.2.1 c (T.2.2 i) (σ i)) := by
  subst h
  unfold tp_e
  rw [if_pos hc]
theorem tp_e_prim {i c : Nat} (h : (T.2.1 i).1 = c + 11) (hc : c < 3) : tp_e E T σ i = .inl (E.2.2.2.2 c, (T.2.1 i).2, .inl (σ i)) := by
  unfold tp_e
  rw [if_neg (by omega), if_pos (by omega), h, Nat.add_sub_cancel]
theorem tp_e_refs {i c : Nat} (h : (T.2.1 i).1 = c + 11) (hc : 3 ≤ c) : tp_e E T σ i = .inl (E.2.2.2.2 c, (T.2.1 i).2, .inr (.inr (.inr (.inr (fun k => (T.2.2 i k).map (fun a => E.2.1 + a)))))) := by
  unfold tp_e
  rw [if_neg (by omega), if_neg (by omega), h, Nat.add_sub_cancel]
theorem tp_fs_i {B c k : Nat} {r : Nat → Option Nat} {f : Nat → Int32} (hk : k < tp_nf c) (h : tp_isr c k = false) : (tp_fs B c r f)[k]? = some (.int (f k)) := by
  unfold tp_fs
  rw [List.getElem?_map, List.getElem?_range hk]
  simp [h]
theorem tp_fs_r {B c k : Nat} {r : Nat → Option Nat} {f : Nat → Int32} (hk : k < tp_nf c) (h : tp_isr c k = true) : (tp_fs B c r f)[k]? = some (va_rf ((r k).map (fun a => B + a))) := by
  unfold tp_fs
  rw [List.getElem?_map, List.getElem?_range hk]
  simp [h]
theorem tp_fs_len {B c : Nat} {r : Nat → Option Nat} {f : Nat → Int32} : (tp_fs B c r f).length = tp_nf c := by simp [tp_fs]
theorem tp_fs_si {B c k : Nat} {r : Nat → Option Nat} {f : Nat → Int32} {x : Int32} (h : tp_isr c k = false) : (tp_fs B c r f).set k (.int x) = tp_fs B c r (upd f k x) := by
  apply List.ext_getElem?
  intro j
  by_cases hl : j < tp_nf c
  · by_cases hj : j = k
    · subst hj
      rw [List.getElem?_set_self (by rw [tp_fs_len]; exact hl), tp_fs_i hl h]
      simp [upd]
    · rw [List.getElem?_set_ne (Ne.symm hj)]
      cases hr : tp_isr c j
      · rw [tp_fs_i hl hr, tp_fs_i hl hr]
        simp [upd, hj]
      · rw [tp_fs_r hl hr, tp_fs_r hl hr]
  · rw [List.getElem?_eq_none (by simp [tp_fs]; omega), List.getElem?_eq_none (by simp [tp_fs]; omega)]
theorem tp_fs_sr {B c k a : Nat} {r : Nat → Option Nat} {f : Nat → Int32} (h : tp_isr c k = true) : (tp_fs B c r f).set k (.ref (B + a)) = tp_fs B c (va_up r k (some a)) f := by
  apply List.ext_getElem?
  intro j
  by_cases hl : j < tp_nf c
  · by_cases hj : j = k
    · subst hj
      rw [List.getElem?_set_self (by rw [tp_fs_len]; exact hl), tp_fs_r hl h]
      simp [va_up, va_rf]
    · rw [List.getElem?_set_ne (Ne.symm hj)]
      cases hr : tp_isr c j
      · rw [tp_fs_i hl hr, tp_fs_i hl hr]
      · rw [tp_fs_r hl hr, tp_fs_r hl hr]
        simp [va_up, hj]
  · rw [List.getElem?_eq_none (by simp [tp_fs]; omega), List.getElem?_eq_none (by simp [tp_fs]; omega)]
theorem tp_e_ext {i : Nat} (h1 : T'.2.1 i = T.2.1 i) (h2 : T'.2.2 i = T.2.2 i) (h3 : σ' i = σ i) : tp_e E T' σ' i = tp_e E T σ i := by
  unfold tp_e
  rw [h1, h2, h3]
end TPB
def tb_T : List Cond := lw_tbl.filter goodWord
def tb_in (w : Cond) : Prop := w ∈ lw_tbl ∧ goodWord w = true
theorem tb_mem {w : Cond} (h : tb_in w) : w ∈ tb_T := List.mem_filter.mpr h
theorem tb_goodIn {ws : List Cond} (h : ∀ w ∈ ws, w ∈ tb_T) : GoodIn tb_T ws := fun w hw => ⟨h w hw, good_of_word (List.mem_filter.mp (h w hw)).2⟩
/-! ===== the judgement ===== -/
def wp_A (B n sz : Nat) : Nat → Prop := fun q => (∃ i, i < n ∧ q = B + i) ∨ sz ≤ q
def wp_Qc (E : tp_E) (al : Bool) (A : Nat → Prop) (Q : Option Int32 → tp_T → tp_M → Prop) : Array Value → State → Outcome → State → Prop := fun _ st oc t =>
  (∃ (r : Option Int32) (T : tp_T) (σ : tp_M), oc = .returned (r.map Value.int) ∧ Q r T σ ∧ tp_P E T σ t.heap ∧ (∀ i, i < T.1 → A (E.2.1 + i)) ∧ (al = true → t.heap.size = E.2.1 + T.1)) ∧ va_F A st t
def wp_C (M : tp_I) (p : Program) (s : State) (m : MethodId) (args : Array Value) (meth : Method) (c : Code) : Prop :=
  p.tables.exec = Jvm.exec ∧ c.code = M.2.1 ∧ meth.sig.returnType = M.2.2.2.1 ∧ c.maxLocals = M.2.2.1 ∧ s.vm.findClass M.1 = some m.cls ∧ (∀ w ∈ tb_T, w.before args s = true) ∧ meth.locks = false ∧ (M.2.2.2.2 = true → meth.name = "<init>")
def WP (E : tp_E) (al : Bool) (R : Room) (M : tp_I) (ce sl : Nat) (Q : Option Int32 → tp_T → tp_M → Prop) (pc : Nat) (lv : List (Nat × Value)) (st : List Value) (T : tp_T) (σ : tp_M) : Prop :=
  ∀ (p : Program) (e : Env) (s : State) (m : MethodId) (args : Array Value) (below : List Frame) (meth : Method) (c : Code) (H : Heap) (locs : List Loc) (ls : Array Slot) (A : Nat → Prop),
    wp_C M p s m args meth c → tp_K E s → tp_P E T σ H → va_S A s.heap H locs → (∀ q, s.heap.size ≤ q → A q) → (∀ i, i < T.1 → A (E.2.1 + i)) → (al = true → H.size = E.2.1 + T.1) → lv_has ls M.2.2.1 (lv.map (tp_g E.2.1)) →
    W p E.1 e R s m args below meth c H locs ce sl (MQ below (wp_Qc E al A Q) args s R.cells R.slots A) (F0 m pc ls (st.map (tp_v E.2.1)))
def Ct (E : tp_E) (al : Bool) (rm : Room) (y : MethodName) (M : tp_I) (av : List Value) (T : tp_T) (σ : tp_M) (Q : Option Int32 → tp_T → tp_M → Prop) : Prop :=
  ∀ sz : Nat, Met E.1 y (.code y M.2.1 M.2.2.1 M.2.2.2.1 :: tb_T) rm (va_Pc (av.map (tp_v E.2.1)) (fun U => U.heap.size = sz ∧ tp_P E T σ U.heap ∧ tp_K E U ∧ (al = true → sz = E.2.1 + T.1))) (wp_Qc E al (wp_A E.2.1 T.1 sz) Q) rm.cells rm.slots (wp_A E.2.1 T.1 sz)
theorem lv_args_map (B : Nat) : ∀ (vs : List Value) (i : Nat), lv_args i (vs.map (tp_v B)) = (lv_args i vs).map (tp_g B)
  | [], i => rfl
  | v :: vs, i => by
    simp only [List.map_cons, lv_args, tp_v_cat, lv_args_map B vs]
    rfl
theorem lg_sl_map (B : Nat) : ∀ (vs : List Value), (lg_sl (vs.map (tp_v B))).length = (lg_sl vs).length
  | [] => rfl
  | v :: vs => by
    have h := lg_sl_map B vs
    simp only [lg_sl, List.map_cons, List.flatMap_cons, List.length_append, tp_v_cat] at h ⊢
    rw [h]
    by_cases hc : v.category = 2 <;> simp [hc]
theorem Ct.of {E : tp_E} {al : Bool} {rm : Room} {y : MethodName} {M : tp_I} {av : List Value} {T : tp_T} {σ : tp_M} {Q : Option Int32 → tp_T → tp_M → Prop} (hy : plainName y.cls = true) (hc : y.cls = M.1) (hi : M.2.2.2.2 = true → y.name = "<init>") (hl : (lg_sl av).length ≤ M.2.2.1)
    (h : WP E al rm M 0 0 Q 0 (lv_args 0 av) [] T σ) : Ct E al rm y M av T σ Q := by
  intro sz
  refine Met.ofW (cc := M.2.1) (maxL := M.2.2.1) (ret := M.2.2.2.1) hy rfl ?_
  intro p e s m args below meth c s₁ B hml hv
  obtain ⟨rfl, hsz, hP, hK, hal⟩ := hv
  have hts := atoms_spec (ws := .code y M.2.1 M.2.2.1 M.2.2.2.1 :: tb_T) B.pre
  have hown : s.vm.findClass M.1 = some m.cls := by rw [← hc]; exact findClass_of_methodNamed B.named
  subst hsz
  have hent := lv_entry (av.map (tp_v E.2.1)) (n := M.2.2.1) (by rw [lg_sl_map]; exact hl)
  rw [lg_entry_eq]
  rw [lv_args_map] at hent
  exact h p e s m _ below meth c s.heap [] _ (wp_A E.2.1 T.1 s.heap.size) ⟨B.exec, B.bytes, B.returns, hml, hown, fun w hw => hts w (List.mem_cons_of_mem _ hw), B.notSynchronized, fun hq => by rw [(name_of_methodNamed B.named B.method).1]; exact hi hq⟩ hK hP va_S.rf (fun q hq => Or.inr hq) (fun i hi => Or.inl ⟨i, hi, rfl⟩) hal hent
end
section
section WPR
variable {E : tp_E} {al : Bool} {R : Room} {M : tp_I} {ce sl pc q : Nat} {Q : Option Int32 → tp_T → tp_M → Prop} {lv lv' : List (Nat × Value)} {st : List Value} {T : tp_T} {σ : tp_M}

theorem wp_iadd {x y : Int32} (hd : decode M.2.1 pc = .ok (.iadd, 1)) (hq : pc + 1 = q)  (k : WP E al R M ce sl Q q lv (.int (x + y) :: st) T σ) : WP E al R M ce sl Q pc lv (.int y :: .int x :: st) T σ := by
  subst hq
  intro p e s m args below meth c H locs ls A C hK hP hS hA hB hal hl
  exact lv_iadd C.1 C.2.1 hd (k p e s m args below meth c H locs ls A C hK hP hS hA hB hal hl)

theorem wp_isub {x y : Int32} (hd : decode M.2.1 pc = .ok (.isub, 1)) (hq : pc + 1 = q)  (k : WP E al R M ce sl Q q lv (.int (x - y) :: st) T σ) : WP E al R M ce sl Q pc lv (.int y :: .int x :: st) T σ := by
  subst hq
  intro p e s m args below meth c H locs ls A C hK hP hS hA hB hal hl
  exact lv_isub C.1 C.2.1 hd (k p e s m args below meth c H locs ls A C hK hP hS hA hB hal hl)

theorem wp_imul {x y : Int32} (hd : decode M.2.1 pc = .ok (.imul, 1)) (hq : pc + 1 = q)  (k : WP E al R M ce sl Q q lv (.int (x * y) :: st) T σ) : WP E al R M ce sl Q pc lv (.int y :: .int x :: st) T σ := by
  subst hq
  intro p e s m args below meth c H locs ls A C hK hP hS hA hB hal hl
  exact lv_imul C.1 C.2.1 hd (k p e s m args below meth c H locs ls A C hK hP hS hA hB hal hl)

theorem wp_iand {x y : Int32} (hd : decode M.2.1 pc = .ok (.iand, 1)) (hq : pc + 1 = q)  (k : WP E al R M ce sl Q q lv (.int (x &&& y) :: st) T σ) : WP E al R M ce sl Q pc lv (.int y :: .int x :: st) T σ := by
  subst hq
  intro p e s m args below meth c H locs ls A C hK hP hS hA hB hal hl
  exact lv_iand C.1 C.2.1 hd (k p e s m args below meth c H locs ls A C hK hP hS hA hB hal hl)

theorem wp_ior {x y : Int32} (hd : decode M.2.1 pc = .ok (.ior, 1)) (hq : pc + 1 = q)  (k : WP E al R M ce sl Q q lv (.int (x ||| y) :: st) T σ) : WP E al R M ce sl Q pc lv (.int y :: .int x :: st) T σ := by
  subst hq
  intro p e s m args below meth c H locs ls A C hK hP hS hA hB hal hl
  exact lv_ior C.1 C.2.1 hd (k p e s m args below meth c H locs ls A C hK hP hS hA hB hal hl)

theorem wp_ixor {x y : Int32} (hd : decode M.2.1 pc = .ok (.ixor, 1)) (hq : pc + 1 = q)  (k : WP E al R M ce sl Q q lv (.int (x ^^^ y) :: st) T σ) : WP E al R M ce sl Q pc lv (.int y :: .int x :: st) T σ := by
  subst hq
  intro p e s m args below meth c H locs ls A C hK hP hS hA hB hal hl
  exact lv_ixor C.1 C.2.1 hd (k p e s m args below meth c H locs ls A C hK hP hS hA hB hal hl)

theorem wp_ishl {x y : Int32} (hd : decode M.2.1 pc = .ok (.ishl, 1)) (hq : pc + 1 = q)  (k : WP E al R M ce sl Q q lv (.int (x <<< (y &&& 31)) :: st) T σ) : WP E al R M ce sl Q pc lv (.int y :: .int x :: st) T σ := by
  subst hq
  intro p e s m args below meth c H locs ls A C hK hP hS hA hB hal hl
  exact lv_ishl C.1 C.2.1 hd (k p e s m args below meth c H locs ls A C hK hP hS hA hB hal hl)

theorem wp_ishr {x y : Int32} (hd : decode M.2.1 pc = .ok (.ishr, 1)) (hq : pc + 1 = q)  (k : WP E al R M ce sl Q q lv (.int (x >>> (y &&& 31)) :: st) T σ) : WP E al R M ce sl Q pc lv (.int y :: .int x :: st) T σ := by
  subst hq
  intro p e s m args below meth c H locs ls A C hK hP hS hA hB hal hl
  exact lv_ishr C.1 C.2.1 hd (k p e s m args below meth c H locs ls A C hK hP hS hA hB hal hl)

theorem wp_idiv {x y : Int32} (hd : decode M.2.1 pc = .ok (.idiv, 1)) (hq : pc + 1 = q) (hne : ¬ y = 0) (k : WP E al R M ce sl Q q lv (.int (x / y) :: st) T σ) : WP E al R M ce sl Q pc lv (.int y :: .int x :: st) T σ := by
  subst hq
  intro p e s m args below meth c H locs ls A C hK hP hS hA hB hal hl
  exact lv_idiv C.1 C.2.1 hd hne (k p e s m args below meth c H locs ls A C hK hP hS hA hB hal hl)

theorem wp_irem {x y : Int32} (hd : decode M.2.1 pc = .ok (.irem, 1)) (hq : pc + 1 = q) (hne : ¬ y = 0) (k : WP E al R M ce sl Q q lv (.int (x - x / y * y) :: st) T σ) : WP E al R M ce sl Q pc lv (.int y :: .int x :: st) T σ := by
  subst hq
  intro p e s m args below meth c H locs ls A C hK hP hS hA hB hal hl
  exact lv_irem C.1 C.2.1 hd hne (k p e s m args below meth c H locs ls A C hK hP hS hA hB hal hl)

theorem wp_ineg {x : Int32} (hd : decode M.2.1 pc = .ok (.ineg, 1)) (hq : pc + 1 = q)  (k : WP E al R M ce sl Q q lv (.int (0 - x) :: st) T σ) : WP E al R M ce sl Q pc lv (.int x :: st) T σ := by
  subst hq
  intro p e s m args below meth c H locs ls A C hK hP hS hA hB hal hl
  exact lv_ineg C.1 C.2.1 hd (k p e s m args below meth c H locs ls A C hK hP hS hA hB hal hl)

theorem wp_iushr {x y : Int32} (hd : decode M.2.1 pc = .ok (.iushr, 1)) (hq : pc + 1 = q)  (k : WP E al R M ce sl Q q lv (.int (x.toUInt32 >>> (y.toUInt32 &&& Int32.toUInt32 31)).toInt32 :: st) T σ) : WP E al R M ce sl Q pc lv (.int y :: .int x :: st) T σ := by
  subst hq
  intro p e s m args below meth c H locs ls A C hK hP hS hA hB hal hl
  exact lv_iushr C.1 C.2.1 hd rfl (k p e s m args below meth c H locs ls A C hK hP hS hA hB hal hl)

theorem wp_i2l {x : Int32} (hd : decode M.2.1 pc = .ok (.i2l, 1)) (hq : pc + 1 = q)  (k : WP E al R M ce sl Q q lv (.long x.toInt64 :: st) T σ) : WP E al R M ce sl Q pc lv (.int x :: st) T σ := by
  subst hq
  intro p e s m args below meth c H locs ls A C hK hP hS hA hB hal hl
  exact lv_i2l C.1 C.2.1 hd rfl (k p e s m args below meth c H locs ls A C hK hP hS hA hB hal hl)

theorem wp_l2i {x : Int64} (hd : decode M.2.1 pc = .ok (.l2i, 1)) (hq : pc + 1 = q)  (k : WP E al R M ce sl Q q lv (.int x.toInt32 :: st) T σ) : WP E al R M ce sl Q pc lv (.long x :: st) T σ := by
  subst hq
  intro p e s m args below meth c H locs ls A C hK hP hS hA hB hal hl
  exact lv_l2i C.1 C.2.1 hd rfl (k p e s m args below meth c H locs ls A C hK hP hS hA hB hal hl)

theorem wp_i2c {x : Int32} (hd : decode M.2.1 pc = .ok (.i2c, 1)) (hq : pc + 1 = q)  (k : WP E al R M ce sl Q q lv (.int (x.toUInt32 % 65536).toInt32 :: st) T σ) : WP E al R M ce sl Q pc lv (.int x :: st) T σ := by
  subst hq
  intro p e s m args below meth c H locs ls A C hK hP hS hA hB hal hl
  exact lv_i2c C.1 C.2.1 hd rfl (k p e s m args below meth c H locs ls A C hK hP hS hA hB hal hl)

theorem wp_ladd {x y : Int64} (hd : decode M.2.1 pc = .ok (.ladd, 1)) (hq : pc + 1 = q)  (k : WP E al R M ce sl Q q lv (.long (x + y) :: st) T σ) : WP E al R M ce sl Q pc lv (.long y :: .long x :: st) T σ := by
  subst hq
  intro p e s m args below meth c H locs ls A C hK hP hS hA hB hal hl
  exact lv_ladd C.1 C.2.1 hd (k p e s m args below meth c H locs ls A C hK hP hS hA hB hal hl)

theorem wp_lmul {x y : Int64} (hd : decode M.2.1 pc = .ok (.lmul, 1)) (hq : pc + 1 = q)  (k : WP E al R M ce sl Q q lv (.long (x * y) :: st) T σ) : WP E al R M ce sl Q pc lv (.long y :: .long x :: st) T σ := by
  subst hq
  intro p e s m args below meth c H locs ls A C hK hP hS hA hB hal hl
  exact lv_lmul C.1 C.2.1 hd (k p e s m args below meth c H locs ls A C hK hP hS hA hB hal hl)

theorem wp_ldiv {x y : Int64} (hd : decode M.2.1 pc = .ok (.ldiv, 1)) (hq : pc + 1 = q) (hne : ¬ y = 0) (k : WP E al R M ce sl Q q lv (.long (x / y) :: st) T σ) : WP E al R M ce sl Q pc lv (.long y :: .long x :: st) T σ := by
  subst hq
  intro p e s m args below meth c H locs ls A C hK hP hS hA hB hal hl
  exact lv_ldiv C.1 C.2.1 hd hne (k p e s m args below meth c H locs ls A C hK hP hS hA hB hal hl)

theorem wp_lrem {x y : Int64} (hd : decode M.2.1 pc = .ok (.lrem, 1)) (hq : pc + 1 = q) (hne : ¬ y = 0) (k : WP E al R M ce sl Q q lv (.long (x - x / y * y) :: st) T σ) : WP E al R M ce sl Q pc lv (.long y :: .long x :: st) T σ := by
  subst hq
  intro p e s m args below meth c H locs ls A C hK hP hS hA hB hal hl
  exact lv_lrem C.1 C.2.1 hd hne (k p e s m args below meth c H locs ls A C hK hP hS hA hB hal hl)

theorem wp_lcmp {x y : Int64} (hd : decode M.2.1 pc = .ok (.lcmp, 1)) (hq : pc + 1 = q)  (k : WP E al R M ce sl Q q lv (.int (lg_cmp x y) :: st) T σ) : WP E al R M ce sl Q pc lv (.long y :: .long x :: st) T σ := by
  subst hq
  intro p e s m args below meth c H locs ls A C hK hP hS hA hB hal hl
  exact W.lcmp C.1 C.2.1 hd (k p e s m args below meth c H locs ls A C hK hP hS hA hB hal hl)

theorem wp_iconst {n : Int} {v : Int32} (hd : decode M.2.1 pc = .ok (.iconst n, 1)) (hq : pc + 1 = q) (hv : Int32.ofInt n = v) (k : WP E al R M ce sl Q q lv (.int v :: st) T σ) : WP E al R M ce sl Q pc lv st T σ := by
  subst hq
  intro p e s m args below meth c H locs ls A C hK hP hS hA hB hal hl
  exact lv_iconst C.1 C.2.1 hd hv (k p e s m args below meth c H locs ls A C hK hP hS hA hB hal hl)

theorem wp_bipush {n : Int} {v : Int32} (hd : decode M.2.1 pc = .ok (.bipush n, 2)) (hq : pc + 2 = q) (hv : (Int8.ofInt n).toInt32 = v) (k : WP E al R M ce sl Q q lv (.int v :: st) T σ) : WP E al R M ce sl Q pc lv st T σ := by
  subst hq
  intro p e s m args below meth c H locs ls A C hK hP hS hA hB hal hl
  exact lv_bipush C.1 C.2.1 hd hv (k p e s m args below meth c H locs ls A C hK hP hS hA hB hal hl)

theorem wp_sipush {n : Int} {v : Int32} (hd : decode M.2.1 pc = .ok (.sipush n, 3)) (hq : pc + 3 = q) (hv : (Int16.ofInt n).toInt32 = v) (k : WP E al R M ce sl Q q lv (.int v :: st) T σ) : WP E al R M ce sl Q pc lv st T σ := by
  subst hq
  intro p e s m args below meth c H locs ls A C hK hP hS hA hB hal hl
  exact lv_sipush C.1 C.2.1 hd hv (k p e s m args below meth c H locs ls A C hK hP hS hA hB hal hl)

theorem wp_lconst {n : Fin 2} {v : Int64} (hd : decode M.2.1 pc = .ok (.lconst n, 1)) (hq : pc + 1 = q) (hv : Int64.ofNat (n : Nat) = v) (k : WP E al R M ce sl Q q lv (.long v :: st) T σ) : WP E al R M ce sl Q pc lv st T σ := by
  subst hq
  intro p e s m args below meth c H locs ls A C hK hP hS hA hB hal hl
  exact lv_lconst C.1 C.2.1 hd hv (k p e s m args below meth c H locs ls A C hK hP hS hA hB hal hl)

theorem wp_ldc {i : Nat} {v : Int32} (hd : decode M.2.1 pc = .ok (.ldc i, 2)) (hq : pc + 2 = q) (hv : tb_in (.constant M.1 i v)) (k : WP E al R M ce sl Q q lv (.int v :: st) T σ) : WP E al R M ce sl Q pc lv st T σ := by
  subst hq
  intro p e s m args below meth c H locs ls A C hK hP hS hA hB hal hl
  exact lv_ldc C.1 C.2.1 C.2.2.2.2.1 (C.2.2.2.2.2.1 _ (tb_mem hv)) hd (k p e s m args below meth c H locs ls A C hK hP hS hA hB hal hl)

theorem wp_ldcw {i : Nat} {v : Int32} (hd : decode M.2.1 pc = .ok (.ldc_w i, 3)) (hq : pc + 3 = q) (hv : tb_in (.constant M.1 i v)) (k : WP E al R M ce sl Q q lv (.int v :: st) T σ) : WP E al R M ce sl Q pc lv st T σ := by
  subst hq
  intro p e s m args below meth c H locs ls A C hK hP hS hA hB hal hl
  exact lv_ldcw C.1 C.2.1 C.2.2.2.2.1 (C.2.2.2.2.2.1 _ (tb_mem hv)) hd (k p e s m args below meth c H locs ls A C hK hP hS hA hB hal hl)

theorem wp_ldc2 {i : Nat} {v : Int64} (hd : decode M.2.1 pc = .ok (.ldc2_w i, 3)) (hq : pc + 3 = q) (hv : tb_in (.constantLong M.1 i v)) (k : WP E al R M ce sl Q q lv (.long v :: st) T σ) : WP E al R M ce sl Q pc lv st T σ := by
  subst hq
  intro p e s m args below meth c H locs ls A C hK hP hS hA hB hal hl
  exact lv_ldc2 C.1 C.2.1 C.2.2.2.2.1 (C.2.2.2.2.2.1 _ (tb_mem hv)) hd (k p e s m args below meth c H locs ls A C hK hP hS hA hB hal hl)

theorem wx_get {i j : Nat} {v : Value} {ls : Array Slot} {n : Nat} (hl : lv_has ls n (lv.map (tp_g E.2.1))) (hj : lv[j]? = some (i, v)) : ls[i]? = some (.val (tp_v E.2.1 v)) := by
  refine lv_at hl j ?_
  rw [List.getElem?_map, hj]
  rfl

theorem wp_iload_n {n : Fin 4} {i : Nat} (j : Nat) {x : Int32} (hd : decode M.2.1 pc = .ok (.iload_n n, 1)) (hq : pc + 1 = q) (hi : (n : Nat) = i) (hj : lv[j]? = some (i, .int x)) (k : WP E al R M ce sl Q q lv (.int x :: st) T σ) : WP E al R M ce sl Q pc lv st T σ := by
  subst hq
  intro p e s m args below meth c H locs ls A C hK hP hS hA hB hal hl
  exact lv_iload_n C.1 C.2.1 hd hi (wx_get hl hj) (k p e s m args below meth c H locs ls A C hK hP hS hA hB hal hl)

theorem wp_iload {i : Nat} (j : Nat) {x : Int32} (hd : decode M.2.1 pc = .ok (.iload i, 2)) (hq : pc + 2 = q) (hj : lv[j]? = some (i, .int x)) (k : WP E al R M ce sl Q q lv (.int x :: st) T σ) : WP E al R M ce sl Q pc lv st T σ := by
  subst hq
  intro p e s m args below meth c H locs ls A C hK hP hS hA hB hal hl
  exact lv_iload C.1 C.2.1 hd (wx_get hl hj) (k p e s m args below meth c H locs ls A C hK hP hS hA hB hal hl)

theorem wp_lload_n {n : Fin 4} {i : Nat} (j : Nat) {x : Int64} (hd : decode M.2.1 pc = .ok (.lload_n n, 1)) (hq : pc + 1 = q) (hi : (n : Nat) = i) (hj : lv[j]? = some (i, .long x)) (k : WP E al R M ce sl Q q lv (.long x :: st) T σ) : WP E al R M ce sl Q pc lv st T σ := by
  subst hq
  intro p e s m args below meth c H locs ls A C hK hP hS hA hB hal hl
  exact lv_lload_n C.1 C.2.1 hd hi (wx_get hl hj) (k p e s m args below meth c H locs ls A C hK hP hS hA hB hal hl)

theorem wp_lload {i : Nat} (j : Nat) {x : Int64} (hd : decode M.2.1 pc = .ok (.lload i, 2)) (hq : pc + 2 = q) (hj : lv[j]? = some (i, .long x)) (k : WP E al R M ce sl Q q lv (.long x :: st) T σ) : WP E al R M ce sl Q pc lv st T σ := by
  subst hq
  intro p e s m args below meth c H locs ls A C hK hP hS hA hB hal hl
  exact lv_lload C.1 C.2.1 hd (wx_get hl hj) (k p e s m args below meth c H locs ls A C hK hP hS hA hB hal hl)

theorem wp_aload_n {n : Fin 4} {i : Nat} (j : Nat) {x : Nat} (hd : decode M.2.1 pc = .ok (.aload_n n, 1)) (hq : pc + 1 = q) (hi : (n : Nat) = i) (hj : lv[j]? = some (i, .ref x)) (k : WP E al R M ce sl Q q lv (.ref x :: st) T σ) : WP E al R M ce sl Q pc lv st T σ := by
  subst hq
  intro p e s m args below meth c H locs ls A C hK hP hS hA hB hal hl
  exact lv_aload_n C.1 C.2.1 hd hi (wx_get hl hj) (k p e s m args below meth c H locs ls A C hK hP hS hA hB hal hl)

def tp_st (i : Nat) (v : Value) (lv : List (Nat × Value)) : List (Nat × Value) := (i, v) :: lv.filter (fun q => !(q.1 == i) && !(q.1 + 1 == i && q.2.category == 2))
def tp_st2 (i : Nat) (v : Value) (lv : List (Nat × Value)) : List (Nat × Value) := (i, v) :: lv.filter (fun q => !(q.1 == i) && (!(q.1 == i + 1) && !(q.1 + 1 == i && q.2.category == 2)))
theorem tp_st_map (B i : Nat) (v : Value) (lv : List (Nat × Value)) : (i, tp_v B v) :: (lv.map (tp_g B)).filter (fun q => !(q.1 == i) && !(q.1 + 1 == i && q.2.category == 2)) = (tp_st i v lv).map (tp_g B) := by
  unfold tp_st
  rw [List.filter_map, List.map_cons]
  congr 2
  apply List.filter_congr
  intro q _
  simp [tp_g, tp_v_cat]
theorem tp_st2_map (B i : Nat) (v : Value) (lv : List (Nat × Value)) : (i, tp_v B v) :: (lv.map (tp_g B)).filter (fun q => !(q.1 == i) && (!(q.1 == i + 1) && !(q.1 + 1 == i && q.2.category == 2))) = (tp_st2 i v lv).map (tp_g B) := by
  unfold tp_st2
  rw [List.filter_map, List.map_cons]
  congr 2
  apply List.filter_congr
  intro q _
  simp [tp_g, tp_v_cat]
/-- fewer locals, in another order -/
theorem wx_lv {ls : Array Slot} {n B : Nat} (h : ∀ q ∈ lv', q ∈ lv) (hl : lv_has ls n (lv.map (tp_g B))) : lv_has ls n (lv'.map (tp_g B)) := by
  refine ⟨hl.1, hl.2.1, fun x hx => ?_⟩
  obtain ⟨y, hy, rfl⟩ := List.mem_map.mp hx
  exact hl.2.2 _ (List.mem_map.mpr ⟨y, h y hy, rfl⟩)
theorem tp_pick {α : Type} {l l' : List α} (ks : List Nat) (h : ks.filterMap (fun k => l[k]?) = l') : ∀ q ∈ l', q ∈ l := by
  intro q hq
  subst h
  obtain ⟨i, -, hi⟩ := List.mem_filterMap.mp hq
  exact List.mem_of_getElem? hi

theorem wp_lv (ks : List Nat) (h : ks.filterMap (fun k => lv[k]?) = lv') (k : WP E al R M ce sl Q pc lv' st T σ) : WP E al R M ce sl Q pc lv st T σ := by
  intro p e s m args below meth c H locs ls A C hK hP hS hA hB hal hl
  exact k p e s m args below meth c H locs ls A C hK hP hS hA hB hal (wx_lv (tp_pick ks h) hl)

theorem wp_istore_n {n : Fin 4} {i : Nat} {x : Int32} (ks : List Nat) (hd : decode M.2.1 pc = .ok (.istore_n n, 1)) (hq : pc + 1 = q) (hi : (n : Nat) = i) (hn : i < M.2.2.1) (hk : ks.filterMap (fun k => (tp_st i (Value.int x) lv)[k]?) = lv') (k : WP E al R M ce sl Q q lv' st T σ) : WP E al R M ce sl Q pc lv (.int x :: st) T σ := by
  subst hq
  intro p e s m args below meth c H locs ls A C hK hP hS hA hB hal hl
  exact lv_istore_n C.1 C.2.1 hd hi hl hn (tp_st_map E.2.1 i (Value.int x) lv) (fun ls hl => k p e s m args below meth c H locs ls A C hK hP hS hA hB hal (wx_lv (tp_pick ks hk) hl))

theorem wp_istore {i : Nat} {x : Int32} (ks : List Nat) (hd : decode M.2.1 pc = .ok (.istore i, 2)) (hq : pc + 2 = q) (hn : i < M.2.2.1) (hk : ks.filterMap (fun k => (tp_st i (Value.int x) lv)[k]?) = lv') (k : WP E al R M ce sl Q q lv' st T σ) : WP E al R M ce sl Q pc lv (.int x :: st) T σ := by
  subst hq
  intro p e s m args below meth c H locs ls A C hK hP hS hA hB hal hl
  exact lv_istore C.1 C.2.1 hd hl hn (tp_st_map E.2.1 i (Value.int x) lv) (fun ls hl => k p e s m args below meth c H locs ls A C hK hP hS hA hB hal (wx_lv (tp_pick ks hk) hl))

theorem wp_lstore_n {n : Fin 4} {i : Nat} {x : Int64} (ks : List Nat) (hd : decode M.2.1 pc = .ok (.lstore_n n, 1)) (hq : pc + 1 = q) (hi : (n : Nat) = i) (hn : i + 1 < M.2.2.1) (hk : ks.filterMap (fun k => (tp_st2 i (Value.long x) lv)[k]?) = lv') (k : WP E al R M ce sl Q q lv' st T σ) : WP E al R M ce sl Q pc lv (.long x :: st) T σ := by
  subst hq
  intro p e s m args below meth c H locs ls A C hK hP hS hA hB hal hl
  exact lv_lstore_n C.1 C.2.1 hd hi hl hn (tp_st2_map E.2.1 i (Value.long x) lv) (fun ls hl => k p e s m args below meth c H locs ls A C hK hP hS hA hB hal (wx_lv (tp_pick ks hk) hl))

theorem wp_astore_n {n : Fin 4} {i : Nat} {x : Nat} (ks : List Nat) (hd : decode M.2.1 pc = .ok (.astore_n n, 1)) (hq : pc + 1 = q) (hi : (n : Nat) = i) (hn : i < M.2.2.1) (hk : ks.filterMap (fun k => (tp_st i (Value.ref x) lv)[k]?) = lv') (k : WP E al R M ce sl Q q lv' st T σ) : WP E al R M ce sl Q pc lv (.ref x :: st) T σ := by
  subst hq
  intro p e s m args below meth c H locs ls A C hK hP hS hA hB hal hl
  exact lv_astore_n (x := E.2.1 + x) C.1 C.2.1 hd hi hl hn (tp_st_map E.2.1 i (Value.ref x) lv) (fun ls hl => k p e s m args below meth c H locs ls A C hK hP hS hA hB hal (wx_lv (tp_pick ks hk) hl))

theorem wp_iinc {i : Nat} {n : Int} {x v : Int32} (j : Nat) (ks : List Nat) (hd : decode M.2.1 pc = .ok (.iinc i n, 3)) (hq : pc + 3 = q) (hn : i < M.2.2.1) (hj : lv[j]? = some (i, .int x)) (hv : x + Int32.ofInt n = v) (hk : ks.filterMap (fun k => (tp_st i (Value.int v) lv)[k]?) = lv') (k : WP E al R M ce sl Q q lv' st T σ) : WP E al R M ce sl Q pc lv st T σ := by
  subst hq
  intro p e s m args below meth c H locs ls A C hK hP hS hA hB hal hl
  exact lv_iinc (k := j) (x := x) C.1 C.2.1 hd hl (by rw [List.getElem?_map, hj]; rfl) hv hn (tp_st_map E.2.1 i (Value.int v) lv) (fun ls hl => k p e s m args below meth c H locs ls A C hK hP hS hA hB hal (wx_lv (tp_pick ks hk) hl))

theorem wp_dup {v : Value} (hd : decode M.2.1 pc = .ok (.dup, 1)) (hq : pc + 1 = q) (hc : v.category = 1) (k : WP E al R M ce sl Q q lv (v :: v :: st) T σ) : WP E al R M ce sl Q pc lv (v :: st) T σ := by
  subst hq
  intro p e s m args below meth c H locs ls A C hK hP hS hA hB hal hl
  exact lv_dup (va := tp_v E.2.1 v) C.1 C.2.1 hd (by rw [tp_v_cat]; exact hc) (k p e s m args below meth c H locs ls A C hK hP hS hA hB hal hl)
theorem wp_dup2 {v w : Value} (hd : decode M.2.1 pc = .ok (.dup2, 1)) (hq : pc + 1 = q) (hc : v.category = 1) (hc2 : w.category = 1) (k : WP E al R M ce sl Q q lv (v :: w :: v :: w :: st) T σ) : WP E al R M ce sl Q pc lv (v :: w :: st) T σ := by
  subst hq
  intro p e s m args below meth c H locs ls A C hK hP hS hA hB hal hl
  exact lv_dup2_11 (va := tp_v E.2.1 v) (vb := tp_v E.2.1 w) C.1 C.2.1 hd (by rw [tp_v_cat]; exact hc) (by rw [tp_v_cat]; exact hc2) (k p e s m args below meth c H locs ls A C hK hP hS hA hB hal hl)

theorem wp_if_eq {x : Int32} {off : Int} (t : Nat) (hd : decode M.2.1 pc = .ok (.ifCond .eq off, 3)) (ht : (pc : Int) + off = (t : Int)) (hq : pc + 3 = q) (kt : x = 0 → WP E al R M ce sl Q t lv st T σ) (kf : ¬ (x = 0) → WP E al R M ce sl Q q lv st T σ) : WP E al R M ce sl Q pc lv (.int x :: st) T σ := by
  subst hq
  intro p e s m args below meth c H locs ls A C hK hP hS hA hB hal hl
  exact lv_if_eq C.1 C.2.1 hd ht (fun h => kt h p e s m args below meth c H locs ls A C hK hP hS hA hB hal hl) (fun h => kf h p e s m args below meth c H locs ls A C hK hP hS hA hB hal hl)

theorem wp_icmp_eq {x y : Int32} {off : Int} (t : Nat) (hd : decode M.2.1 pc = .ok (.if_icmp .eq off, 3)) (ht : (pc : Int) + off = (t : Int)) (hq : pc + 3 = q) (kt : x = y → WP E al R M ce sl Q t lv st T σ) (kf : ¬ (x = y) → WP E al R M ce sl Q q lv st T σ) : WP E al R M ce sl Q pc lv (.int y :: .int x :: st) T σ := by
  subst hq
  intro p e s m args below meth c H locs ls A C hK hP hS hA hB hal hl
  exact lv_icmp_eq C.1 C.2.1 hd ht (fun h => kt h p e s m args below meth c H locs ls A C hK hP hS hA hB hal hl) (fun h => kf h p e s m args below meth c H locs ls A C hK hP hS hA hB hal hl)

theorem wp_if_ne {x : Int32} {off : Int} (t : Nat) (hd : decode M.2.1 pc = .ok (.ifCond .ne off, 3)) (ht : (pc : Int) + off = (t : Int)) (hq : pc + 3 = q) (kt : ¬ x = 0 → WP E al R M ce sl Q t lv st T σ) (kf : x = 0 → WP E al R M ce sl Q q lv st T σ) : WP E al R M ce sl Q pc lv (.int x :: st) T σ := by
  subst hq
  intro p e s m args below meth c H locs ls A C hK hP hS hA hB hal hl
  exact lv_if_ne C.1 C.2.1 hd ht (fun h => kt h p e s m args below meth c H locs ls A C hK hP hS hA hB hal hl) (fun h => kf h p e s m args below meth c H locs ls A C hK hP hS hA hB hal hl)

theorem wp_icmp_ne {x y : Int32} {off : Int} (t : Nat) (hd : decode M.2.1 pc = .ok (.if_icmp .ne off, 3)) (ht : (pc : Int) + off = (t : Int)) (hq : pc + 3 = q) (kt : ¬ x = y → WP E al R M ce sl Q t lv st T σ) (kf : x = y → WP E al R M ce sl Q q lv st T σ) : WP E al R M ce sl Q pc lv (.int y :: .int x :: st) T σ := by
  subst hq
  intro p e s m args below meth c H locs ls A C hK hP hS hA hB hal hl
  exact lv_icmp_ne C.1 C.2.1 hd ht (fun h => kt h p e s m args below meth c H locs ls A C hK hP hS hA hB hal hl) (fun h => kf h p e s m args below meth c H locs ls A C hK hP hS hA hB hal hl)

theorem wp_if_lt {x : Int32} {off : Int} (t : Nat) (hd : decode M.2.1 pc = .ok (.ifCond .lt off, 3)) (ht : (pc : Int) + off = (t : Int)) (hq : pc + 3 = q) (kt : x < 0 → WP E al R M ce sl Q t lv st T σ) (kf : ¬ (x < 0) → WP E al R M ce sl Q q lv st T σ) : WP E al R M ce sl Q pc lv (.int x :: st) T σ := by
  subst hq
  intro p e s m args below meth c H locs ls A C hK hP hS hA hB hal hl
  exact lv_if_lt C.1 C.2.1 hd ht (fun h => kt h p e s m args below meth c H locs ls A C hK hP hS hA hB hal hl) (fun h => kf h p e s m args below meth c H locs ls A C hK hP hS hA hB hal hl)

theorem wp_icmp_lt {x y : Int32} {off : Int} (t : Nat) (hd : decode M.2.1 pc = .ok (.if_icmp .lt off, 3)) (ht : (pc : Int) + off = (t : Int)) (hq : pc + 3 = q) (kt : x < y → WP E al R M ce sl Q t lv st T σ) (kf : ¬ (x < y) → WP E al R M ce sl Q q lv st T σ) : WP E al R M ce sl Q pc lv (.int y :: .int x :: st) T σ := by
  subst hq
  intro p e s m args below meth c H locs ls A C hK hP hS hA hB hal hl
  exact lv_icmp_lt C.1 C.2.1 hd ht (fun h => kt h p e s m args below meth c H locs ls A C hK hP hS hA hB hal hl) (fun h => kf h p e s m args below meth c H locs ls A C hK hP hS hA hB hal hl)

theorem wp_if_ge {x : Int32} {off : Int} (t : Nat) (hd : decode M.2.1 pc = .ok (.ifCond .ge off, 3)) (ht : (pc : Int) + off = (t : Int)) (hq : pc + 3 = q) (kt : 0 ≤ x → WP E al R M ce sl Q t lv st T σ) (kf : ¬ (0 ≤ x) → WP E al R M ce sl Q q lv st T σ) : WP E al R M ce sl Q pc lv (.int x :: st) T σ := by
  subst hq
  intro p e s m args below meth c H locs ls A C hK hP hS hA hB hal hl
  exact lv_if_ge C.1 C.2.1 hd ht (fun h => kt h p e s m args below meth c H locs ls A C hK hP hS hA hB hal hl) (fun h => kf h p e s m args below meth c H locs ls A C hK hP hS hA hB hal hl)

theorem wp_icmp_ge {x y : Int32} {off : Int} (t : Nat) (hd : decode M.2.1 pc = .ok (.if_icmp .ge off, 3)) (ht : (pc : Int) + off = (t : Int)) (hq : pc + 3 = q) (kt : y ≤ x → WP E al R M ce sl Q t lv st T σ) (kf : ¬ (y ≤ x) → WP E al R M ce sl Q q lv st T σ) : WP E al R M ce sl Q pc lv (.int y :: .int x :: st) T σ := by
  subst hq
  intro p e s m args below meth c H locs ls A C hK hP hS hA hB hal hl
  exact lv_icmp_ge C.1 C.2.1 hd ht (fun h => kt h p e s m args below meth c H locs ls A C hK hP hS hA hB hal hl) (fun h => kf h p e s m args below meth c H locs ls A C hK hP hS hA hB hal hl)

theorem wp_if_gt {x : Int32} {off : Int} (t : Nat) (hd : decode M.2.1 pc = .ok (.ifCond .gt off, 3)) (ht : (pc : Int) + off = (t : Int)) (hq : pc + 3 = q) (kt : 0 < x → WP E al R M ce sl Q t lv st T σ) (kf : ¬ (0 < x) → WP E al R M ce sl Q q lv st T σ) : WP E al R M ce sl Q pc lv (.int x :: st) T σ := by
  subst hq
  intro p e s m args below meth c H locs ls A C hK hP hS hA hB hal hl
  exact lv_if_gt C.1 C.2.1 hd ht (fun h => kt h p e s m args below meth c H locs ls A C hK hP hS hA hB hal hl) (fun h => kf h p e s m args below meth c H locs ls A C hK hP hS hA hB hal hl)

theorem wp_icmp_gt {x y : Int32} {off : Int} (t : Nat) (hd : decode M.2.1 pc = .ok (.if_icmp .gt off, 3)) (ht : (pc : Int) + off = (t : Int)) (hq : pc + 3 = q) (kt : y < x → WP E al R M ce sl Q t lv st T σ) (kf : ¬ (y < x) → WP E al R M ce sl Q q lv st T σ) : WP E al R M ce sl Q pc lv (.int y :: .int x :: st) T σ := by
  subst hq
  intro p e s m args below meth c H locs ls A C hK hP hS hA hB hal hl
  exact lv_icmp_gt C.1 C.2.1 hd ht (fun h => kt h p e s m args below meth c H locs ls A C hK hP hS hA hB hal hl) (fun h => kf h p e s m args below meth c H locs ls A C hK hP hS hA hB hal hl)

theorem wp_if_le {x : Int32} {off : Int} (t : Nat) (hd : decode M.2.1 pc = .ok (.ifCond .le off, 3)) (ht : (pc : Int) + off = (t : Int)) (hq : pc + 3 = q) (kt : x ≤ 0 → WP E al R M ce sl Q t lv st T σ) (kf : ¬ (x ≤ 0) → WP E al R M ce sl Q q lv st T σ) : WP E al R M ce sl Q pc lv (.int x :: st) T σ := by
  subst hq
  intro p e s m args below meth c H locs ls A C hK hP hS hA hB hal hl
  exact lv_if_le C.1 C.2.1 hd ht (fun h => kt h p e s m args below meth c H locs ls A C hK hP hS hA hB hal hl) (fun h => kf h p e s m args below meth c H locs ls A C hK hP hS hA hB hal hl)

theorem wp_icmp_le {x y : Int32} {off : Int} (t : Nat) (hd : decode M.2.1 pc = .ok (.if_icmp .le off, 3)) (ht : (pc : Int) + off = (t : Int)) (hq : pc + 3 = q) (kt : x ≤ y → WP E al R M ce sl Q t lv st T σ) (kf : ¬ (x ≤ y) → WP E al R M ce sl Q q lv st T σ) : WP E al R M ce sl Q pc lv (.int y :: .int x :: st) T σ := by
  subst hq
  intro p e s m args below meth c H locs ls A C hK hP hS hA hB hal hl
  exact lv_icmp_le C.1 C.2.1 hd ht (fun h => kt h p e s m args below meth c H locs ls A C hK hP hS hA hB hal hl) (fun h => kf h p e s m args below meth c H locs ls A C hK hP hS hA hB hal hl)

theorem wp_goto {off : Int} (t : Nat) (hd : decode M.2.1 pc = .ok (.goto off, 3)) (ht : (pc : Int) + off = (t : Int)) (k : WP E al R M ce sl Q t lv st T σ) : WP E al R M ce sl Q pc lv st T σ := by
  intro p e s m args below meth c H locs ls A C hK hP hS hA hB hal hl
  exact lv_goto C.1 C.2.1 hd ht (k p e s m args below meth c H locs ls A C hK hP hS hA hB hal hl)
theorem wp_tableIn {dflt lo hi : Int} {offs : Array Int} {len : Nat} {x : Int32} (off : Int) (t : Nat) (hd : decode M.2.1 pc = .ok (.tableswitch dflt lo hi offs, len)) (h1 : ¬ x.toInt < lo) (h2 : ¬ hi < x.toInt) (ho : offs[(x.toInt - lo).toNat]? = some off) (ht : (pc : Int) + off = (t : Int)) (k : WP E al R M ce sl Q t lv st T σ) : WP E al R M ce sl Q pc lv (.int x :: st) T σ := by
  intro p e s m args below meth c H locs ls A C hK hP hS hA hB hal hl
  exact lv_tableIn C.1 C.2.1 hd h1 h2 ho ht (k p e s m args below meth c H locs ls A C hK hP hS hA hB hal hl)
theorem wp_tableOut {dflt lo hi : Int} {offs : Array Int} {len : Nat} {x : Int32} (t : Nat) (hd : decode M.2.1 pc = .ok (.tableswitch dflt lo hi offs, len)) (h : x.toInt < lo ∨ hi < x.toInt) (ht : (pc : Int) + dflt = (t : Int)) (k : WP E al R M ce sl Q t lv st T σ) : WP E al R M ce sl Q pc lv (.int x :: st) T σ := by
  intro p e s m args below meth c H locs ls A C hK hP hS hA hB hal hl
  exact lv_tableOut C.1 C.2.1 hd h ht (k p e s m args below meth c H locs ls A C hK hP hS hA hB hal hl)
theorem wp_lookup {dflt : Int} {ps : Array (Int × Int)} {len : Nat} {x : Int32} (off : Int) (t : Nat) (hd : decode M.2.1 pc = .ok (.lookupswitch dflt ps, len)) (hp : (ps.toList.zip (ps.toList.drop 1)).all (fun (a, next) => a.1 < next.1) = true) (ho : Op.lookupswitch.offset ps.toList dflt x.toInt = off) (ht : (pc : Int) + off = (t : Int)) (k : WP E al R M ce sl Q t lv st T σ) : WP E al R M ce sl Q pc lv (.int x :: st) T σ := by
  intro p e s m args below meth c H locs ls A C hK hP hS hA hB hal hl
  exact lv_lookup C.1 C.2.1 hd hp ho ht (k p e s m args below meth c H locs ls A C hK hP hS hA hB hal hl)

end WPR
end
section
/-! ===== fields, arrays, returns ===== -/
/-- a class: its number, its row of names, what its fields hold -/
def cv_C (ci : Nat) (r : vw_C) (ty : Nat → FieldType) : Prop := vwCl[ci]? = some r ∧ ci < 11 ∧ r.2.2 = tp_nf ci ∧ (∀ w ∈ u_ws r.1 r.2.1 r.2.2, w ∈ tb_T) ∧ (∀ k, k < r.2.2 → parseFieldDescriptor (r.2.1 k).2.2.1 = some (ty k)) ∧ (∀ a, a < r.2.2 → ∀ b, b < r.2.2 → a ≠ b → (r.2.1 a).2.1 ≠ (r.2.1 b).2.1)
def cv_F (own : String) (idx k : Nat) (r : vw_C) : Prop := tb_in (.fieldLink own idx (r.2.1 k).1 (r.2.1 k).2.1 (r.2.1 k).2.2.1) ∧ k < r.2.2
section WPF
variable {E : tp_E} {al : Bool} {R : Room} {M : tp_I} {ce sl pc q : Nat} {Q : Option Int32 → tp_T → tp_M → Prop} {lv lv' : List (Nat × Value)} {st : List Value} {T T' : tp_T} {σ σ' : tp_M}
theorem tp_put {o : Nat} {H H1 : Heap} (hP : tp_P E T σ H) (hn : T'.1 = T.1) (he : va_at (E.2.2.1, E.2.2.2.1) vwCl (E.2.1 + o, tp_e E T' σ' o) H1) (h2 : ∀ j, j ≠ o → tp_e E T' σ' j = tp_e E T σ j) (oq : ∀ q : Nat, q ≠ E.2.1 + o → H1[q]? = H[q]?) : tp_P E T' σ' H1 := by
  intro k x hk
  obtain ⟨hk1, rfl⟩ := tp_w_inv hk
  by_cases hko : k = o
  · subst hko
    exact he
  · rw [h2 k hko]
    exact (hP k _ (tp_w_at (by omega))).kept (oq _ (by show E.2.1 + k ≠ E.2.1 + o; omega))
theorem tp_pushP {e' : va_E} {H H1 : Heap} (hP : tp_P E T σ H) (hn : T'.1 = T.1 + 1) (he : va_at (E.2.2.1, E.2.2.2.1) vwCl (E.2.1 + T.1, tp_e E T' σ' T.1) H1) (h2 : ∀ j, j < T.1 → tp_e E T' σ' j = tp_e E T σ j) (oq : ∀ q : Nat, q < H.size → H1[q]? = H[q]?) : tp_P E T' σ' H1 := by
  intro k x hk
  obtain ⟨hk1, rfl⟩ := tp_w_inv hk
  by_cases hko : k = T.1
  · subst hko
    exact he
  · rw [h2 k (by omega)]
    have h3 := hP k _ (tp_w_at (by omega))
    exact h3.kept (oq _ h3.lt)
theorem wp_getI {o idx : Nat} (ci k : Nat) {r : vw_C} {ty : Nat → FieldType} (hC : cv_C ci r ty) (hF : cv_F M.1 idx k r) (hr : tp_isr ci k = false) (ho : o < T.1) (ht : (T.2.1 o).1 = ci) (hd : decode M.2.1 pc = .ok (.getfield idx, 3)) (hq : pc + 3 = q) (kk : WP E al R M ce sl Q q lv (.int (σ o k) :: st) T σ) : WP E al R M ce sl Q pc lv (.ref o :: st) T σ := by
  subst hq
  intro p e s m args below meth c H locs ls A C hK hP hS hA hB hal hl
  exact va_get (D := (E.2.2.1, E.2.2.2.1)) (ci := ci) (v := .int (σ o k)) (C := r.1) (T := r.2.1) (N := r.2.2) C.1 C.2.1 C.2.2.2.2.2.1 hC.2.2.2.1 C.2.2.2.2.1 hK.1 hP o ((tp_w_at ho).trans (by rw [tp_e_obj ht hC.2.1])) hC.1 k hF.2 (C.2.2.2.2.2.1 _ (tb_mem hF.1)) (fun _ h => h) (tp_fs_i (by rw [← hC.2.2.1]; exact hF.2) hr) hd (kk p e s m args below meth c H locs ls A C hK hP hS hA hB hal hl)
theorem wp_getR {o a idx : Nat} (ci k : Nat) {r : vw_C} {ty : Nat → FieldType} (hC : cv_C ci r ty) (hF : cv_F M.1 idx k r) (hr : tp_isr ci k = true) (ho : o < T.1) (ht : (T.2.1 o).1 = ci) (hx : T.2.2 o k = some a) (hd : decode M.2.1 pc = .ok (.getfield idx, 3)) (hq : pc + 3 = q) (kk : WP E al R M ce sl Q q lv (.ref a :: st) T σ) : WP E al R M ce sl Q pc lv (.ref o :: st) T σ := by
  subst hq
  intro p e s m args below meth c H locs ls A C hK hP hS hA hB hal hl
  exact va_get (D := (E.2.2.1, E.2.2.2.1)) (ci := ci) (v := .ref (E.2.1 + a)) (C := r.1) (T := r.2.1) (N := r.2.2) C.1 C.2.1 C.2.2.2.2.2.1 hC.2.2.2.1 C.2.2.2.2.1 hK.1 hP o ((tp_w_at ho).trans (by rw [tp_e_obj ht hC.2.1])) hC.1 k hF.2 (C.2.2.2.2.2.1 _ (tb_mem hF.1)) (fun _ h => h) ((tp_fs_r (by rw [← hC.2.2.1]; exact hF.2) hr).trans (by rw [hx]; rfl)) hd (kk p e s m args below meth c H locs ls A C hK hP hS hA hB hal hl)
theorem wp_putI {o idx : Nat} {x : Int32} (ci k : Nat) {r : vw_C} {ty : Nat → FieldType} (hC : cv_C ci r ty) (hF : cv_F M.1 idx k r) (hr : tp_isr ci k = false) (hfin : (r.2.1 k).2.2.2 = false) (hn : narrow (ty k) (.int x) = .int x) (hfit : fits (ty k) (.int x) = true) (ho : o < T.1) (ht : (T.2.1 o).1 = ci) (hd : decode M.2.1 pc = .ok (.putfield idx, 3)) (hq : pc + 3 = q) (kk : WP E al R M ce sl Q q lv st T (tp_u σ o k x)) : WP E al R M ce sl Q pc lv (.int x :: .ref o :: st) T σ := by
  subst hq
  intro p e s m args below meth c H locs ls A C hK hP hS hA hB hal hl
  have hts := C.2.2.2.2.2.1
  have hin := hC.2.2.2.1
  have hc := hC.1
  have hk := hF.2
  have hap := va_apart (own := M.1) hts hin ty hC.2.2.2.2.1 hC.2.2.2.2.2 hK.1 hc
  have he : (tp_w E T σ)[o]? = some (E.2.1 + o, .inr (ci, tp_fs E.2.1 ci (T.2.2 o) (σ o))) := (tp_w_at ho).trans (by rw [tp_e_obj ht hC.2.1])
  obtain ⟨r', h1, cell, q1, q2, q3, q4⟩ := hP o _ he
  have hr' : r' = r := Option.some.inj (h1.symm.trans hc)
  subst hr'
  obtain ⟨hSl, hfc, kC, hkC, hkind⟩ := hK.1.1 ci _ hc
  obtain ⟨cf, kf, fi, f, hi, hsl⟩ := hSl k hk
  have hlay := hts _ (hin _ (u_in_lay hk))
  unfold u_lay at hlay
  rw [if_neg (by rw [hfin]; decide)] at hlay
  have hst := (u_facts hfc hkC (u_lays hts hin hk) hi).1
  have h6 := u_store hfc hkC hkind hlay hi (hC.2.2.2.2.1 k hk) hn hfit
  refine W.putK C.1 C.2.1 (f := f) ⟨C.2.2.2.2.1, hts _ (tb_mem hF.1), ⟨_, _, _, hi⟩, hst⟩ (by rw [q2]; exact h6) q1 q3 (by rw [hsl]; exact k2_hasslot (q4 k hk)) rfl rfl hd fun H' e1 e2 e3 => ?_
  rw [hsl] at e1 ⊢
  have hl9 : k < (tp_fs E.2.1 ci (T.2.2 o) (σ o)).length := by rw [tp_fs_len, ← hC.2.2.1]; exact hk
  refine kk p e s m args below meth c H' _ ls A C hK (tp_put hP rfl (o := o) ?_ (fun j hj => tp_e_ext rfl rfl (by simp [tp_u, hj])) e3) (hS.put e2 e3 (hB o ho)) hA hB (fun h => by rw [e2]; exact hal h) hl
  rw [tp_e_obj ht hC.2.1]
  refine ⟨_, hc, t_OB.to (V := updV (vp_V (tp_fs E.2.1 ci (T.2.2 o) (σ o))) k (.int x)) ⟨_, e1, q2, q3, t_set q4 hap hk _⟩ (fun j _ => ?_)⟩
  rw [vp_updV_set hl9, tp_fs_si hr]
  simp [tp_u]
theorem wp_putR {o a idx : Nat} (ci k : Nat) {r : vw_C} {ty : Nat → FieldType} (hC : cv_C ci r ty) (hF : cv_F M.1 idx k r) (hr : tp_isr ci k = true) (hfin : (r.2.1 k).2.2.2 = true) (hown : (r.2.1 k).1 = M.1) (hin0 : M.2.2.2.2 = true) (hn : ∀ z : Nat, narrow (ty k) (.ref z) = .ref z) (hfit : ∀ z : Nat, fits (ty k) (.ref z) = true) (ho : o < T.1) (ht : (T.2.1 o).1 = ci) (hd : decode M.2.1 pc = .ok (.putfield idx, 3)) (hq : pc + 3 = q) (kk : WP E al R M ce sl Q q lv st (tp_ur T o k a) σ) : WP E al R M ce sl Q pc lv (.ref a :: .ref o :: st) T σ := by
  subst hq
  intro p e s m args below meth c H locs ls A C hK hP hS hA hB hal hl
  have hts := C.2.2.2.2.2.1
  have hin := hC.2.2.2.1
  have hc := hC.1
  have hk := hF.2
  have hap := va_apart (own := M.1) hts hin ty hC.2.2.2.2.1 hC.2.2.2.2.2 hK.1 hc
  have he : (tp_w E T σ)[o]? = some (E.2.1 + o, .inr (ci, tp_fs E.2.1 ci (T.2.2 o) (σ o))) := (tp_w_at ho).trans (by rw [tp_e_obj ht hC.2.1])
  obtain ⟨r', h1, cell, q1, q2, q3, q4⟩ := hP o _ he
  have hr' : r' = r := Option.some.inj (h1.symm.trans hc)
  subst hr'
  obtain ⟨hSl, hfc, kC, hkC, hkind⟩ := hK.1.1 ci _ hc
  obtain ⟨cf, kf, fi, f, hi, hsl⟩ := hSl k hk
  have hlay := hts _ (hin _ (u_in_lay hk))
  unfold u_lay at hlay
  rw [if_pos hfin] at hlay
  have hst := (u_facts hfc hkC (u_lays hts hin hk) hi).1
  have hcf : m.cls = cf := by
    obtain ⟨_, _, c', _, _, _, -, -, hf', -, -, -, hown2, -⟩ := Cond.laysFinal_spec hlay
    have e1 : c' = cf := by have := hi.symm.trans hf'; simp at this; exact this.1.symm
    rw [hown] at hown2
    rw [← e1]; exact Option.some.inj (C.2.2.2.2.1.symm.trans hown2)
  have h6 := u_fits hfc hkC hkind (Or.inr hlay) hi (hC.2.2.2.2.1 k hk) (hn (E.2.1 + a)) (hfit (E.2.1 + a))
  refine W.putFinK C.1 C.2.1 C.2.2.2.2.1 (hts _ (tb_mem hF.1)) hi hst hcf (C.2.2.2.2.2.2.2 hin0) (by rw [q2]; exact h6) q1 q3 (by rw [hsl]; exact k2_hasslot (q4 k hk)) rfl rfl hd fun H' e1 e2 e3 => ?_
  rw [hsl] at e1 ⊢
  have hl9 : k < (tp_fs E.2.1 ci (T.2.2 o) (σ o)).length := by rw [tp_fs_len, ← hC.2.2.1]; exact hk
  refine kk p e s m args below meth c H' _ ls A C hK (tp_put hP rfl (o := o) ?_ (fun j hj => tp_e_ext rfl (by simp [tp_ur, hj]) rfl) e3) (hS.put e2 e3 (hB o ho)) hA hB (fun h => by rw [e2]; exact hal h) hl
  rw [tp_e_obj (T := tp_ur T o k a) (c := ci) ht hC.2.1]
  refine ⟨_, hc, t_OB.to (V := updV (vp_V (tp_fs E.2.1 ci (T.2.2 o) (σ o))) k (.ref (E.2.1 + a))) ⟨_, e1, q2, q3, t_set q4 hap hk _⟩ (fun j _ => ?_)⟩
  rw [vp_updV_set hl9, tp_fs_sr hr]
  simp [tp_ur]
theorem wp_iald {o : Nat} {i : Int32} (ho : o < T.1) (ht : (T.2.1 o).1 = 11) (hin : vp_in i (T.2.1 o).2) (hd : decode M.2.1 pc = .ok (.iaload, 1)) (hq : pc + 1 = q) (kk : WP E al R M ce sl Q q lv (.int (σ o i.toNatClampNeg) :: st) T σ) : WP E al R M ce sl Q pc lv (.int i :: .ref o :: st) T σ := by
  subst hq
  intro p e s m args below meth c H locs ls A C hK hP hS hA hB hal hl
  exact va_iald C.1 C.2.1 hK.1 hP o 0 ((tp_w_at ho).trans (by rw [tp_e_prim (c := 0) ht (by decide)])) rfl hin hd (kk p e s m args below meth c H locs ls A C hK hP hS hA hB hal hl)
theorem wp_cald {o : Nat} {i : Int32} (ho : o < T.1) (ht : (T.2.1 o).1 = 12) (hin : vp_in i (T.2.1 o).2) (hd : decode M.2.1 pc = .ok (.caload, 1)) (hq : pc + 1 = q) (kk : WP E al R M ce sl Q q lv (.int (σ o i.toNatClampNeg) :: st) T σ) : WP E al R M ce sl Q pc lv (.int i :: .ref o :: st) T σ := by
  subst hq
  intro p e s m args below meth c H locs ls A C hK hP hS hA hB hal hl
  exact va_cald C.1 C.2.1 hK.1 hP o 1 ((tp_w_at ho).trans (by rw [tp_e_prim (c := 1) ht (by decide)])) rfl hin hd (kk p e s m args below meth c H locs ls A C hK hP hS hA hB hal hl)
theorem wp_zald {o : Nat} {i : Int32} (ho : o < T.1) (ht : (T.2.1 o).1 = 13) (hin : vp_in i (T.2.1 o).2) (hd : decode M.2.1 pc = .ok (.baload, 1)) (hq : pc + 1 = q) (kk : WP E al R M ce sl Q q lv (.int (σ o i.toNatClampNeg) :: st) T σ) : WP E al R M ce sl Q pc lv (.int i :: .ref o :: st) T σ := by
  subst hq
  intro p e s m args below meth c H locs ls A C hK hP hS hA hB hal hl
  exact va_zald C.1 C.2.1 hK.1 hP o 2 ((tp_w_at ho).trans (by rw [tp_e_prim (c := 2) ht (by decide)])) rfl hin hd (kk p e s m args below meth c H locs ls A C hK hP hS hA hB hal hl)
theorem wp_aald {o a : Nat} {i : Int32} (c0 : Nat) (h0 : c0 = 3 ∨ c0 = 4) (ho : o < T.1) (ht : (T.2.1 o).1 = c0 + 11) (hin : vp_in i (T.2.1 o).2) (hx : T.2.2 o i.toNatClampNeg = some a) (hd : decode M.2.1 pc = .ok (.aaload, 1)) (hq : pc + 1 = q) (kk : WP E al R M ce sl Q q lv (.ref a :: st) T σ) : WP E al R M ce sl Q pc lv (.int i :: .ref o :: st) T σ := by
  subst hq
  intro p e s m args below meth c H locs ls A C hK hP hS hA hB hal hl
  have hw := (tp_w_at (E := E) (σ := σ) ho).trans (by rw [tp_e_refs (c := c0) ht (by omega)])
  have k2 := kk p e s m args below meth c H locs ls A C hK hP hS hA hB hal hl
  rcases h0 with rfl | rfl
  · refine va_aldq C.1 C.2.1 hK.1 hP o 3 hw rfl hin hd ?_
    rw [hx]
    exact k2
  · refine va_aldq C.1 C.2.1 hK.1 hP o 4 hw rfl hin hd ?_
    rw [hx]
    exact k2
theorem wp_alen {o : Nat} (c0 : Nat) (h0 : c0 < 5) {n : Nat} {v : Int32} (ho : o < T.1) (ht : T.2.1 o = (c0 + 11, n)) (hv : Int32.ofNat n = v) (hd : decode M.2.1 pc = .ok (.arraylength, 1)) (hq : pc + 1 = q) (kk : WP E al R M ce sl Q q lv (.int v :: st) T σ) : WP E al R M ce sl Q pc lv (.ref o :: st) T σ := by
  subst hq
  intro p e s m args below meth c H locs ls A C hK hP hS hA hB hal hl
  have hty : ∃ ty, (tp_tys E)[c0]? = some (E.2.2.2.2 c0, ty) := by
    rcases (show c0 = 0 ∨ c0 = 1 ∨ c0 = 2 ∨ c0 = 3 ∨ c0 = 4 by omega) with rfl | rfl | rfl | rfl | rfl <;> exact ⟨_, rfl⟩
  obtain ⟨ty, hty⟩ := hty
  have k2 := kk p e s m args below meth c H locs ls A C hK hP hS hA hB hal hl
  by_cases h3 : c0 < 3
  · exact va_alen C.1 C.2.1 hK.1 hP o c0 ((tp_w_at ho).trans (by rw [tp_e_prim (c := c0) (by rw [ht]) h3, ht])) hty hv hd k2
  · exact va_alen C.1 C.2.1 hK.1 hP o c0 ((tp_w_at ho).trans (by rw [tp_e_refs (c := c0) (by rw [ht]) (by omega), ht])) hty hv hd k2
theorem wp_iast {o : Nat} {i x : Int32} (ho : o < T.1) (ht : (T.2.1 o).1 = 11) (hin : vp_in i (T.2.1 o).2) (hd : decode M.2.1 pc = .ok (.iastore, 1)) (hq : pc + 1 = q) (kk : WP E al R M ce sl Q q lv st T (tp_u σ o i.toNatClampNeg x)) : WP E al R M ce sl Q pc lv (.int x :: .int i :: .ref o :: st) T σ := by
  subst hq
  intro p e s m args below meth c H locs ls A C hK hP hS hA hB hal hl
  have hw := (tp_w_at (E := E) (σ := σ) ho).trans (by rw [tp_e_prim (c := 0) ht (by decide)])
  refine W.iast C.1 C.2.1 (hP o _ hw) ((hK.1.2 0 _ rfl).1 _ (fun j => .int (σ o j))) (fun q => by cases q) (by show ¬ (i < 0 ∨ (arrV _ _ _).slots.size ≤ _); rw [arrV_size]; exact hin) rfl rfl hd fun H1 e1 z oq => ?_
  refine kk p e s m args below meth c H1 _ ls A C hK (tp_put hP rfl (o := o) ?_ (fun j hj => tp_e_ext rfl rfl (by simp [tp_u, hj])) oq) (hS.put z oq (hB o ho)) hA hB (fun h => by rw [z]; exact hal h) hl
  rw [tp_e_prim (c := 0) ht (by decide)]
  show H1[E.2.1 + o]? = some (vp_cell _ _)
  rw [e1, vp_cell_i, vp_cell_i, arrV_store]
  congr 2
  funext z
  by_cases hz : z = i.toNatClampNeg
  · subst hz
    simp [updV, upd, tp_u]
  · simp [updV, upd, tp_u, hz]
theorem wp_zast {o : Nat} {i x : Int32} (ho : o < T.1) (ht : (T.2.1 o).1 = 13) (hin : vp_in i (T.2.1 o).2) (hx : x = 0 ∨ x = 1) (hd : decode M.2.1 pc = .ok (.bastore, 1)) (hq : pc + 1 = q) (kk : WP E al R M ce sl Q q lv st T (tp_u σ o i.toNatClampNeg x)) : WP E al R M ce sl Q pc lv (.int x :: .int i :: .ref o :: st) T σ := by
  subst hq
  intro p e s m args below meth c H locs ls A C hK hP hS hA hB hal hl
  have hw := (tp_w_at (E := E) (σ := σ) ho).trans (by rw [tp_e_prim (c := 2) ht (by decide)])
  refine W.zast C.1 C.2.1 (hP o _ hw) ((hK.1.2 2 _ rfl).1 _ (fun j => .int (σ o j))) (fun q => by cases q) (by show ¬ (i < 0 ∨ (arrV _ _ _).slots.size ≤ _); rw [arrV_size]; exact hin) rfl rfl hd fun H1 e1 z oq => ?_
  refine kk p e s m args below meth c H1 _ ls A C hK (tp_put hP rfl (o := o) ?_ (fun j hj => tp_e_ext rfl rfl (by simp [tp_u, hj])) oq) (hS.put z oq (hB o ho)) hA hB (fun h => by rw [z]; exact hal h) hl
  rw [tp_e_prim (c := 2) ht (by decide)]
  show H1[E.2.1 + o]? = some (vp_cell _ _)
  rw [e1, vp_cell_i, vp_cell_i, arrV_store]
  congr 2
  funext z
  have hb : narrow .boolean (.int x) = .int x := by rcases hx with rfl | rfl <;> rfl
  by_cases hz : z = i.toNatClampNeg
  · subst hz
    simp [updV, upd, tp_u, hb]
  · simp [updV, upd, tp_u, hz]
theorem wp_cast {o : Nat} {i x : Int32} (ho : o < T.1) (ht : (T.2.1 o).1 = 12) (hin : vp_in i (T.2.1 o).2) (hx : narrow .char (.int x) = .int x) (hd : decode M.2.1 pc = .ok (.castore, 1)) (hq : pc + 1 = q) (kk : WP E al R M ce sl Q q lv st T (tp_u σ o i.toNatClampNeg x)) : WP E al R M ce sl Q pc lv (.int x :: .int i :: .ref o :: st) T σ := by
  subst hq
  intro p e s m args below meth c H locs ls A C hK hP hS hA hB hal hl
  have hw := (tp_w_at (E := E) (σ := σ) ho).trans (by rw [tp_e_prim (c := 1) ht (by decide)])
  refine W.cast C.1 C.2.1 (hP o _ hw) ((hK.1.2 1 _ rfl).1 _ (fun j => .int (σ o j))) (fun q => by cases q) (by show ¬ (i < 0 ∨ (arrV _ _ _).slots.size ≤ _); rw [arrV_size]; exact hin) rfl rfl hd fun H1 e1 z oq => ?_
  refine kk p e s m args below meth c H1 _ ls A C hK (tp_put hP rfl (o := o) ?_ (fun j hj => tp_e_ext rfl rfl (by simp [tp_u, hj])) oq) (hS.put z oq (hB o ho)) hA hB (fun h => by rw [z]; exact hal h) hl
  rw [tp_e_prim (c := 1) ht (by decide)]
  show H1[E.2.1 + o]? = some (vp_cell _ _)
  rw [e1, vp_cell_i, vp_cell_i, arrV_store]
  congr 2
  funext z
  by_cases hz : z = i.toNatClampNeg
  · subst hz
    simp [updV, upd, tp_u, hx]
  · simp [updV, upd, tp_u, hz]
theorem wp_ret {x : Int32} (ty : FieldType) (hty : M.2.2.2.1 = some ty) (hn : narrow ty (.int x) = .int x) (hce : ce ≤ R.cells) (hsl : sl ≤ R.slots) (hd : decode M.2.1 pc = .ok (.ireturn, 1)) (kk : Q (some x) T σ) : WP E al R M ce sl Q pc lv [.int x] T σ := by
  intro p e s m args below meth c H locs ls A C hK hP hS hA hB hal hl
  refine W.widen hce hsl ?_
  exact W.zret (hlocks := C.2.2.2.2.2.2.1) C.1 C.2.1 (C.2.2.1.trans hty) hn (fun t ht hW => ⟨⟨some x, T, σ, rfl, kk, by rw [ht]; exact hP, hB, fun h => by rw [ht]; exact hal h⟩, hS.F ht⟩) hS.2.2 hd
theorem wp_vret (hty : M.2.2.2.1 = none) (hce : ce ≤ R.cells) (hsl : sl ≤ R.slots) (hd : decode M.2.1 pc = .ok (.return_, 1)) (kk : Q none T σ) : WP E al R M ce sl Q pc lv [] T σ := by
  intro p e s m args below meth c H locs ls A C hK hP hS hA hB hal hl
  refine W.widen hce hsl ?_
  exact W.vret (hlocks := C.2.2.2.2.2.2.1) C.1 C.2.1 (C.2.2.1.trans hty) (fun t ht hW => ⟨⟨none, T, σ, rfl, kk, by rw [ht]; exact hP, hB, fun h => by rw [ht]; exact hal h⟩, hS.F ht⟩) hS.2.2 hd
end WPF
end
section
/-! ===== what is made, and calls ===== -/
def cv_V (own : String) (idx ci : Nat) (y : MethodName) (I : tp_I) (n : Nat) : Prop :=
  (tb_in (.methodLink own idx y) ∧ tb_in (.instanceMethod y) ∧ tb_in (.selects y.cls y y) ∧ tb_in (.initialized y.cls) ∧ tb_in (.code y I.2.1 I.2.2.1 I.2.2.2.1)) ∧ ((vwCl[ci]?).map (fun r => r.1) = some y.cls ∧ ci < 11) ∧ (y.cls ≠ "java/lang/invoke/MethodHandle" ∧ y.cls ≠ "java/lang/invoke/VarHandle" ∧ (parseMethodDescriptor y.desc).map (fun d => d.parameters.length) = some n)
def cv_S (own : String) (idx : Nat) (y : MethodName) (I : tp_I) (n : Nat) : Prop :=
  (tb_in (.methodLink own idx y) ∧ tb_in (.static y) ∧ tb_in (.initialized y.cls) ∧ tb_in (.code y I.2.1 I.2.2.1 I.2.2.2.1)) ∧ (y.cls ≠ "java/lang/invoke/MethodHandle" ∧ y.cls ≠ "java/lang/invoke/VarHandle" ∧ (parseMethodDescriptor y.desc).map (fun d => d.parameters.length) = some n)
def cv_SN (own : String) (idx : Nat) (y : MethodName) (I : tp_I) (n : Nat) : Prop :=
  ((∃ host, (own, idx, y, host) ∈ tb_N) ∧ tb_in (.static y) ∧ tb_in (.initialized y.cls) ∧ tb_in (.code y I.2.1 I.2.2.1 I.2.2.2.1)) ∧ (y.cls ≠ "java/lang/invoke/MethodHandle" ∧ y.cls ≠ "java/lang/invoke/VarHandle" ∧ (parseMethodDescriptor y.desc).map (fun d => d.parameters.length) = some n)
def cv_I (own : String) (idx : Nat) (y : MethodName) (I : tp_I) (n : Nat) : Prop :=
  (tb_in (.methodLink own idx y) ∧ tb_in (.instanceMethod y) ∧ tb_in (.initialized y.cls) ∧ tb_in (.code y I.2.1 I.2.2.1 none)) ∧ (y.name = "<init>" ∧ I.2.2.2.1 = none) ∧ (y.cls ≠ "java/lang/invoke/MethodHandle" ∧ y.cls ≠ "java/lang/invoke/VarHandle" ∧ (parseMethodDescriptor y.desc).map (fun d => d.parameters.length) = some n)
def cv_IN (own : String) (idx : Nat) (y : MethodName) (I : tp_I) (n : Nat) : Prop :=
  ((∃ host, (own, idx, y, host) ∈ tb_N) ∧ tb_in (.instanceMethod y) ∧ tb_in (.initialized y.cls) ∧ tb_in (.code y I.2.1 I.2.2.1 none)) ∧ (y.name = "<init>" ∧ I.2.2.2.1 = none) ∧ (y.cls ≠ "java/lang/invoke/MethodHandle" ∧ y.cls ≠ "java/lang/invoke/VarHandle" ∧ (parseMethodDescriptor y.desc).map (fun d => d.parameters.length) = some n)
section WPC
variable {E : tp_E} {al : Bool} {R : Room} {M : tp_I} {ce sl pc q : Nat} {Q : Option Int32 → tp_T → tp_M → Prop} {lv lv' : List (Nat × Value)} {st : List Value} {T T' : tp_T} {σ σ' : tp_M}
theorem tp_grow {A : Nat → Prop} {s : State} {H H1 : Heap} {locs : List Loc} (hS : va_S A s.heap H locs) (z : H1.size = H.size + 1) (o1 : ∀ q : Nat, q < H.size → H1[q]? = H[q]?) : va_S A s.heap H1 locs := ⟨Nat.le_trans hS.1 (by omega), fun x h1 h2 => (o1 x (Nat.lt_of_lt_of_le h1 hS.1)).trans (hS.2.1 x h1 h2), hS.2.2⟩
theorem tp_e_new (kd n : Nat) (j : Nat) (h : j < T.1) : tp_e E (tp_nT T kd n) (tp_nM σ T.1) j = tp_e E T σ j := by
  have h2 : j ≠ T.1 := by omega
  exact tp_e_ext (by simp [tp_nT, va_up, h2]) (by simp [tp_nT, va_up, h2]) (by simp [tp_nM, va_up, h2])
theorem wp_new {idx : Nat} (ci : Nat) {r : vw_C} {ty : Nat → FieldType} (hC : cv_C ci r ty) (hcl : tb_in (.classLink M.1 idx r.1)) (hin : tb_in (.instantiable r.1 r.2.2)) (hini : tb_in (.initialized r.1)) (hdf : ∀ j, j < r.2.2 → defaultValue (ty j) = if tp_isr ci j = true then .null else .int 0) (hce : ce + 1 ≤ R.cells) (hsl : sl + tp_nf ci ≤ R.slots) (hd : decode M.2.1 pc = .ok (.new idx, 3)) (hq : pc + 3 = q)
    (kk : WP E true R M (ce + 1) (sl + tp_nf ci) Q q lv (.ref T.1 :: st) (tp_nT T ci 0) (tp_nM σ T.1)) : WP E true R M ce sl Q pc lv st T σ := by
  subst hq
  intro p e s m args below meth c H locs ls A C hK hP hS hA hB hal hl
  have hts := C.2.2.2.2.2.1
  have hKn := hK.1.1 ci _ hC.1
  have hz := hal rfl
  refine W.newcK (n := r.2.2) C.1 C.2.1 C.2.2.2.2.1 (hts _ (tb_mem hcl)) (hts _ (tb_mem hin)) (hts _ (tb_mem hini)) rfl hd hce (by rw [hC.2.2.1]; exact hsl) hKn.2.1 rfl fun H1 kC hkC e1 z1 o1 => ?_
  rw [hC.2.2.1]
  have key := kk p e s m args below meth c H1 locs ls A C hK (tp_pushP (e' := tp_e E (tp_nT T ci 0) (tp_nM σ T.1) T.1) hP rfl ?_ (fun j hj => tp_e_new ci 0 j hj) o1) (tp_grow hS z1 o1) hA (fun i hi => ?_) (fun _ => by rw [z1, hz]; show _ = E.2.1 + (T.1 + 1); omega) hl
  · rw [hz]
    exact key
  · rw [tp_e_obj (T := tp_nT T ci 0) (c := ci) (by simp [tp_nT, va_up]) hC.2.1]
    refine ⟨_, hC.1, ?_⟩
    rw [← hz]
    refine (u_born ty hts hC.2.2.2.1 hKn hkC e1 hC.2.2.2.2.1).to (fun j hj => ?_)
    have hj2 : j < tp_nf ci := by rw [← hC.2.2.1]; exact hj
    rw [hdf j hj]
    unfold vp_V
    rw [List.getD_eq_getElem?_getD]
    cases hr : tp_isr ci j
    · rw [tp_fs_i hj2 hr]
      simp [tp_nM, va_up]
    · rw [tp_fs_r hj2 hr]
      simp [tp_nT, va_up, va_rf]
  · by_cases h : i < T.1
    · exact hB i h
    · exact hA _ (by have h1 := hS.1; have h2 : i < T.1 + 1 := hi; omega)
theorem wp_newa {n : Int32} {N : Nat} {atype : ArrayType} (c0 : Nat) (h0 : c0 < 3) (hty : (tp_tys E)[c0]? = some (E.2.2.2.2 c0, newarray.typeOf atype)) (hdv : defaultValue (newarray.typeOf atype) = .int 0) (hfc : ∀ (s : State) (cA : ClassId), va_RA s cA (newarray.typeOf atype) → s.vm.findClass ("[" ++ (newarray.typeOf atype).toString) = some cA) (hac : tb_in (.arrayClass (newarray.typeOf atype))) (hn : ¬ n < 0) (hN : n.toNatClampNeg = N) (hby : N * componentBytes (newarray.typeOf atype) ≤ 536870912) (hce : ce + 1 ≤ R.cells) (hsl : sl + N ≤ R.slots) (hd : decode M.2.1 pc = .ok (.newarray atype, 2)) (hq : pc + 2 = q)
    (kk : WP E true R M (ce + 1) (sl + N) Q q lv (.ref T.1 :: st) (tp_nT T (c0 + 11) N) (tp_nM σ T.1)) : WP E true R M ce sl Q pc lv (.int n :: st) T σ := by
  subst hq
  intro p e s m args below meth c H locs ls A C hK hP hS hA hB hal hl
  have hts := C.2.2.2.2.2.1
  have hz := hal rfl
  refine va_newaK C.1 C.2.1 (hts _ (tb_mem hac)) rfl hd rfl hn hN hby hce hsl rfl fun H1 cA e1 z1 o1 hAr hNm => ?_
  have hcy : cA = E.2.2.2.2 c0 := Option.some.inj (hNm.symm.trans (hfc s _ (hK.1.2 c0 _ hty).2))
  have key := kk p e s m args below meth c H1 locs ls A C hK (tp_pushP (e' := tp_e E (tp_nT T (c0 + 11) N) (tp_nM σ T.1) T.1) hP rfl ?_ (fun j hj => tp_e_new (c0 + 11) N j hj) o1) (tp_grow hS z1 o1) hA (fun i hi => ?_) (fun _ => by rw [z1, hz]; show _ = E.2.1 + (T.1 + 1); omega) hl
  · rw [hz]
    exact key
  · rw [tp_e_prim (T := tp_nT T (c0 + 11) N) (c := c0) (by simp [tp_nT, va_up]) h0]
    show H1[E.2.1 + T.1]? = some (vp_cell _ _)
    rw [← hz, e1, vp_cell_i, hcy, hdv]
    simp [tp_nT, tp_nM, va_up]
  · by_cases h : i < T.1
    · exact hB i h
    · exact hA _ (by have h1 := hS.1; have h2 : i < T.1 + 1 := hi; omega)
theorem wp_anew {n : Int32} {N idx : Nat} (c0 : Nat) (C0 : String) (h0 : 3 ≤ c0) (hty : (tp_tys E)[c0]? = some (E.2.2.2.2 c0, .object C0)) (hao : ∀ s, tp_N s → va_AO C0 s) (hcl : tb_in (.classLink M.1 idx C0)) (hn : ¬ n < 0) (hN : n.toNatClampNeg = N) (hby : N * 4 ≤ 536870912) (hce : ce + 1 ≤ R.cells) (hsl : sl + N ≤ R.slots) (hd : decode M.2.1 pc = .ok (.anewarray idx, 3)) (hq : pc + 3 = q)
    (kk : WP E true R M (ce + 1) (sl + N) Q q lv (.ref T.1 :: st) (tp_nT T (c0 + 11) N) (tp_nM σ T.1)) : WP E true R M ce sl Q pc lv (.int n :: st) T σ := by
  subst hq
  subst hN
  intro p e s m args below meth c H locs ls A C hK hP hS hA hB hal hl
  have hts := C.2.2.2.2.2.1
  have hz := hal rfl
  refine W.anew C.1 C.2.1 C.2.2.2.2.1 (hts _ (tb_mem hcl)) (va_AO.use (hao s hK.2)) rfl hd rfl hn hby hce hsl fun cA kA comp f1 f2 f3 f4 => ?_
  generalize hH1 : H.push ({ cls := cA, slots := Array.replicate n.toNatClampNeg .null, vm := .none } : Cell) = H1
  have z1 : H1.size = H.size + 1 := by rw [← hH1, Array.size_push]
  have e1 : H1[H.size]? = some (arrV cA n.toNatClampNeg (fun _ => .null)) := by rw [← hH1, Array.getElem?_push_size, ← arrV_new]
  have o1 : ∀ q : Nat, q < H.size → H1[q]? = H[q]? := fun q hq => by rw [← hH1, Array.getElem?_push, if_neg (Nat.ne_of_lt hq)]
  obtain ⟨kA', comp', -, -, -, g4⟩ := (hK.1.2 c0 _ hty).2
  have hcy : cA = E.2.2.2.2 c0 := Option.some.inj (f1.symm.trans g4)
  have key := kk p e s m args below meth c H1 locs ls A C hK (tp_pushP (e' := tp_e E (tp_nT T (c0 + 11) n.toNatClampNeg) (tp_nM σ T.1) T.1) hP rfl ?_ (fun j hj => tp_e_new (c0 + 11) _ j hj) o1) (tp_grow hS z1 o1) hA (fun i hi => ?_) (fun _ => by rw [z1, hz]; show _ = E.2.1 + (T.1 + 1); omega) hl
  · rw [hz]
    exact key
  · rw [tp_e_refs (T := tp_nT T (c0 + 11) n.toNatClampNeg) (c := c0) (by simp [tp_nT, va_up]) h0]
    show H1[E.2.1 + T.1]? = some (vp_cell _ _)
    rw [← hz, e1, vp_cell_q, hcy]
    simp [tp_nT, va_up, va_rf]
  · by_cases h : i < T.1
    · exact hB i h
    · exact hA _ (by have h1 := hS.1; have h2 : i < T.1 + 1 := hi; omega)
theorem wp_aast {o v : Nat} {i : Int32} (c0 ci : Nat) {r : vw_C} (h0 : 3 ≤ c0) (hc : vwCl[ci]? = some r) (hci : ci < 11) (hty : (tp_tys E)[c0]? = some (E.2.2.2.2 c0, .object r.1)) (ho : o < T.1) (ht : (T.2.1 o).1 = c0 + 11) (hv : v < T.1) (htv : (T.2.1 v).1 = ci) (hin : vp_in i (T.2.1 o).2) (hd : decode M.2.1 pc = .ok (.aastore, 1)) (hq : pc + 1 = q)
    (kk : WP E al R M ce sl Q q lv st (tp_ur T o i.toNatClampNeg v) σ) : WP E al R M ce sl Q pc lv (.ref v :: .int i :: .ref o :: st) T σ := by
  subst hq
  intro p e s m args below meth c H locs ls A C hK hP hS hA hB hal hl
  have hlt : i.toNatClampNeg < (T.2.1 o).2 := Nat.not_le.mp fun q => hin (Or.inr q)
  have hi0 : ¬ i < 0 := fun q => hin (Or.inl q)
  have hw := (tp_w_at (E := E) (σ := σ) ho).trans (by rw [tp_e_refs (c := c0) ht h0])
  have hwv := (tp_w_at (E := E) (σ := σ) hv).trans (by rw [tp_e_obj htv hci])
  obtain ⟨r', hr', cellV, g1, g2, g3, -⟩ := hP v _ hwv
  have hcls := (hK.1.1 ci r hc).2
  obtain ⟨kA, comp, k1, k2, k3, -⟩ := (hK.1.2 c0 _ hty).2
  have hcomp : comp = E.2.2.1 ci := Option.some.inj (k3.symm.trans hcls.1)
  subst hcomp
  obtain ⟨kC, hkC, -⟩ := hcls.2
  refine W.aast C.1 C.2.1 (hP o _ hw) (fun q h => by cases h) (fun h => by cases h) k1 k2 rfl hkC ⟨hi0, by show _ < (arrV _ _ _).slots.size; rw [arrV_size]; exact hlt⟩ g1 (fun q h => by rw [g3] at h; cases h) (by rw [g2]; exact hkC) (by rw [g2]; exact va_assign hcls) rfl rfl hd fun H1 e1 z oq => ?_
  refine kk p e s m args below meth c H1 _ ls A C hK (tp_put hP rfl (o := o) ?_ (fun j hj => tp_e_ext rfl (by simp [tp_ur, hj]) rfl) oq) (hS.put z oq (hB o ho)) hA hB (fun h => by rw [z]; exact hal h) hl
  rw [tp_e_refs (T := tp_ur T o i.toNatClampNeg v) (c := c0) ht h0]
  show H1[E.2.1 + o]? = some (vp_cell _ _)
  rw [e1, vp_cell_q, vp_cell_q, arrV_store]
  congr 2
  funext z
  by_cases hz : z = i.toNatClampNeg
  · subst hz
    simp [updV, va_up, va_rf, tp_ur]
  · simp [updV, va_up, tp_ur, hz]
theorem wp_objInit {a idx : Nat} (hl0 : tb_in (.methodLink M.1 idx Lib.objectInit)) (hi0 : tb_in (.instanceMethod Lib.objectInit)) (hc0 : tb_in (.code Lib.objectInit ⟨#[0xb1]⟩ 1 none)) (hf : 1 ≤ R.frames) (hlo : (st.map fun v => v.category).sum + 12 ≤ R.locals) (hd : decode M.2.1 pc = .ok (.invokespecial idx, 3)) (hq : pc + 3 = q) (kk : WP E al R M ce sl Q q lv st T σ) : WP E al R M ce sl Q pc lv (.ref a :: st) T σ := by
  subst hq
  intro p e s m args below meth c H locs ls A C hK hP hS hA hB hal hl
  have hts := C.2.2.2.2.2.1
  have hcat : ((st.map (tp_v E.2.1)).map fun v => v.category).sum = (st.map fun v => v.category).sum := by
    rw [List.map_map]
    congr 1
    apply List.map_congr_left
    intro v _
    exact tp_v_cat _ v
  refine W.objInit C.1 C.2.1 C.2.2.2.2.1 (hts _ (tb_mem hl0)) (hts _ (tb_mem hi0)) (hts _ (tb_mem hc0)) (rest := st.map (tp_v E.2.1)) rfl (by rw [C.2.2.2.1]; exact hl.1) rfl hd hf (by show 2 * 0 + _ + 12 ≤ _; rw [hcat]; omega) ?_
  exact kk p e s m args below meth c H locs ls A C hK hP hS hA hB hal hl
theorem wp_after {p : Program} {e : Env} {s : State} {m : MethodId} {args : Array Value} {below : List Frame} {meth : Method} {c : Code} {H : Heap} {locs : List Loc} {ls : Array Slot} {Qf : State → Prop} {rest st0 : List Value} {Q' : Option Int32 → tp_T → tp_M → Prop} {mc ms : Nat} {A A1 : Nat → Prop} {a : Array Value}
    (hr : va_Run p E.1 e R s m args below meth c H locs ce sl mc ms (F0 m pc ls st0) rest (wp_Qc E al A1 Q' a) A1) (hS : va_S A s.heap H locs) (hA : ∀ q, A1 q → A q)
    (kk : ∀ (r : Option Int32) (T' : tp_T) (σ' : tp_M) (H1 : Heap) (locs1 : List Loc), Q' r T' σ' → tp_P E T' σ' H1 → (∀ i, i < T'.1 → A1 (E.2.1 + i)) → (al = true → H1.size = E.2.1 + T'.1) → (∀ q : Nat, q < H.size → ¬ A1 q → H1[q]? = H[q]?) → va_S A s.heap H1 locs1 → W p E.1 e R s m args below meth c H1 locs1 (ce + mc) (sl + ms) Qf (F0 m (pc + 3) ls ((r.map Value.int).toList ++ rest))) : W p E.1 e R s m args below meth c H locs ce sl Qf (F0 m pc ls st0) := by
  intro T0 hT X
  obtain ⟨v, st₀, t, T1, L, h0, X', hL, e1, e2, ⟨⟨r, T', σ', hv, hq, hp, hi, hal⟩, hz, hk⟩, stp⟩ := hr T0 hT X
  have hv : v = r.map Value.int := by cases hv; rfl
  subst hv
  rw [h0] at hz hk
  obtain ⟨t2, a1, b1⟩ := kk r T' σ' T1.heap (locs ++ L) hq (by rw [e1]; exact hp) hi (fun h => by rw [e1]; exact hal h) (fun q h1 h2 => by rw [e1]; exact hk q h1 h2)
    ⟨Nat.le_trans hS.1 (by rw [e1]; exact hz), fun q h1 h2 => by rw [e1, hk q (Nat.lt_of_lt_of_le h1 hS.1) (fun z => h2 (hA q z))]; exact hS.2.1 q h1 h2, fun q hq => by
      rcases List.mem_append.mp hq with h | h
      · exact hS.2.2 q h
      · exact hA _ (hL q h)⟩ T1 rfl X'
  exact ⟨t2, stp t2 a1, b1⟩
theorem wp_blind {av : List Value} {sz : Nat} : FrameBlind (va_Pc (av.map (tp_v E.2.1)) (fun U => U.heap.size = sz ∧ tp_P E T σ U.heap ∧ tp_K E U ∧ (al = true → sz = E.2.1 + T.1))) := fun a U g mk q => by
  obtain ⟨q0, q1, qP, qK, qal⟩ := q
  exact ⟨q0, q1, qP, tp_K.same rfl qK, qal⟩
theorem wp_catS (rest : List Value) (h : (rest.map fun v => v.category).sum ≤ 8) : ((rest.map (tp_v E.2.1)).map fun v => v.category).sum ≤ 8 := by
  rw [List.map_map]
  have : (rest.map ((fun v => v.category) ∘ tp_v E.2.1)) = rest.map fun v => v.category := by
    apply List.map_congr_left
    intro v _
    exact tp_v_cat _ v
  rw [this]
  exact h
theorem wp_stk (r : Option Int32) (rest : List Value) : ((r.map Value.int).toList ++ rest).map (tp_v E.2.1) = (r.map Value.int).toList ++ rest.map (tp_v E.2.1) := by cases r <;> rfl
theorem wp_callV {y : MethodName} {I : tp_I} {rm : Room} {b : Nat} {As rest : List Value} {Q' : Option Int32 → tp_T → tp_M → Prop} {n idx : Nat} (ci : Nat) (hv : cv_V M.1 idx ci y I n) (hn : As.length = n) (hst : st = As.reverse ++ .ref b :: rest) (hw : (rest.map fun v => v.category).sum ≤ 8) (hb : b < T.1) (ht : (T.2.1 b).1 = ci) (hR : rm.frames + 1 ≤ R.frames ∧ 8 + (I.2.2.1 + 11) + rm.locals ≤ R.locals) (hm : ce + rm.cells ≤ R.cells ∧ sl + rm.slots ≤ R.slots) (hd : decode M.2.1 pc = .ok (.invokevirtual idx, 3)) (hq : pc + 3 = q)
    (hC : Ct E al rm y I (.ref b :: As) T σ Q') (kk : ∀ r T' σ', Q' r T' σ' → WP E al R M (ce + rm.cells) (sl + rm.slots) Q q lv ((r.map Value.int).toList ++ rest) T' σ') : WP E al R M ce sl Q pc lv st T σ := by
  subst hq
  subst hst
  intro p e s m args below meth c H locs ls A C hK hP hS hA hB hal hl
  have hts := C.2.2.2.2.2.1
  obtain ⟨⟨v1, v2, v3, v4, v5⟩, ⟨hcl, hci⟩, hd3⟩ := hv
  obtain ⟨r0, hr0, hr1⟩ : ∃ r0, vwCl[ci]? = some r0 ∧ r0.1 = y.cls := by
    cases h : vwCl[ci]? with
    | none => rw [h] at hcl; cases hcl
    | some r0 => rw [h] at hcl; exact ⟨r0, rfl, Option.some.inj hcl⟩
  have hA1 : ∀ q, wp_A E.2.1 T.1 H.size q → A q := fun q h => h.elim (fun ⟨i, hi, e⟩ => by rw [e]; exact hB i hi) (fun h => hA q (Nat.le_trans hS.1 h))
  have hcode : ∀ w ∈ (Cond.code y I.2.1 I.2.2.1 I.2.2.2.1 :: tb_T), w ∈ tb_T := fun w hw => (List.mem_cons.mp hw).elim (fun h => by rw [h]; exact tb_mem v5) (fun h => h)
  refine wp_after (va_runV (As := As.map (tp_v E.2.1)) (rest := rest.map (tp_v E.2.1)) (b := E.2.1 + b) (C := y.cls) ⟨C.1, C.2.1, C.2.2.2.1, C.2.2.2.2.1, hts⟩ (hC H.size)
    (cwV n hts (tb_goodIn (fun w hw => ?_)) rfl rfl rfl ⟨rfl, hd3⟩ hR) ⟨wp_blind, ?_, fun U hU hW => ⟨rfl, by rw [hU], by rw [hU]; exact hP, tp_K.warm hW hK, hal⟩⟩ rfl (by rw [List.length_map]; exact hn) hl.1 ?_ (lv_room (wp_catS rest hw)) hd hm) hS hA1 (fun r T' σ' H1 locs1 hq hp hi hal hkp hS => ?_)
  · unfold wsV at hw
    rcases List.mem_append.mp hw with h | h
    · simp only [List.mem_cons, List.not_mem_nil, or_false] at h
      rcases h with rfl | rfl | rfl | rfl
      · exact tb_mem v1
      · exact tb_mem v2
      · exact tb_mem v3
      · exact tb_mem v4
    · exact hcode w h
  · have := va_recv hK.1 hP hr0 ((tp_w_at hb).trans (by rw [tp_e_obj ht hci]))
    rw [hr1] at this
    exact this
  · show List.map _ _ = _
    rw [List.map_append, List.map_reverse]
    rfl
  · have key := kk r T' σ' hq p e s m args below meth c H1 locs1 ls A C hK hp hS hA (fun i h => hA1 _ (hi i h)) hal hl
    rw [wp_stk] at key
    exact key
theorem wp_callS {y : MethodName} {I : tp_I} {rm : Room} {As rest : List Value} {Q' : Option Int32 → tp_T → tp_M → Prop} {n idx : Nat} (hv : cv_S M.1 idx y I n) (hn : As.length = n) (hst : st = As.reverse ++ rest) (hw : (rest.map fun v => v.category).sum ≤ 8) (hR : rm.frames + 1 ≤ R.frames ∧ 8 + (I.2.2.1 + 11) + rm.locals ≤ R.locals) (hm : ce + rm.cells ≤ R.cells ∧ sl + rm.slots ≤ R.slots) (hd : decode M.2.1 pc = .ok (.invokestatic idx, 3)) (hq : pc + 3 = q)
    (hC : Ct E al rm y I As T σ Q') (kk : ∀ r T' σ', Q' r T' σ' → WP E al R M (ce + rm.cells) (sl + rm.slots) Q q lv ((r.map Value.int).toList ++ rest) T' σ') : WP E al R M ce sl Q pc lv st T σ := by
  subst hq
  subst hst
  intro p e s m args below meth c H locs ls A C hK hP hS hA hB hal hl
  have hts := C.2.2.2.2.2.1
  obtain ⟨⟨v1, v2, v4, v5⟩, hd3⟩ := hv
  have hA1 : ∀ q, wp_A E.2.1 T.1 H.size q → A q := fun q h => h.elim (fun ⟨i, hi, e⟩ => by rw [e]; exact hB i hi) (fun h => hA q (Nat.le_trans hS.1 h))
  have hcode : ∀ w ∈ (Cond.code y I.2.1 I.2.2.1 I.2.2.2.1 :: tb_T), w ∈ tb_T := fun w hw => (List.mem_cons.mp hw).elim (fun h => by rw [h]; exact tb_mem v5) (fun h => h)
  refine wp_after (va_runS (As := As.map (tp_v E.2.1)) (rest := rest.map (tp_v E.2.1)) ⟨C.1, C.2.1, C.2.2.2.1, C.2.2.2.2.1, hts⟩ (hC H.size)
    ⟨callB_of n hts (tb_goodIn hcode) rfl rfl rfl (hts _ (tb_mem v4)) (hts _ (tb_mem v1)) hd3 hR, hts _ (tb_mem v2)⟩ ⟨wp_blind, fun U hU hW => ⟨rfl, by rw [hU], by rw [hU]; exact hP, tp_K.warm hW hK, hal⟩⟩ rfl (by rw [List.length_map]; exact hn) hl.1 ?_ (lv_room (wp_catS rest hw)) hd hm) hS hA1 (fun r T' σ' H1 locs1 hq hp hi hal hkp hS => ?_)
  · show List.map _ _ = _
    rw [List.map_append, List.map_reverse]
  · have key := kk r T' σ' hq p e s m args below meth c H1 locs1 ls A C hK hp hS hA (fun i h => hA1 _ (hi i h)) hal hl
    rw [wp_stk] at key
    exact key
theorem wp_callSN {y : MethodName} {I : tp_I} {rm : Room} {As rest : List Value} {Q' : Option Int32 → tp_T → tp_M → Prop} {n idx : Nat} (hv : cv_SN M.1 idx y I n) (hn : As.length = n) (hst : st = As.reverse ++ rest) (hw : (rest.map fun v => v.category).sum ≤ 8) (hR : rm.frames + 1 ≤ R.frames ∧ 8 + (I.2.2.1 + 11) + rm.locals ≤ R.locals) (hm : ce + rm.cells ≤ R.cells ∧ sl + rm.slots ≤ R.slots) (hd : decode M.2.1 pc = .ok (.invokestatic idx, 3)) (hq : pc + 3 = q)
    (hC : Ct E al rm y I As T σ Q') (kk : ∀ r T' σ', Q' r T' σ' → WP E al R M (ce + rm.cells) (sl + rm.slots) Q q lv ((r.map Value.int).toList ++ rest) T' σ') : WP E al R M ce sl Q pc lv st T σ := by
  subst hq
  subst hst
  intro p e s m args below meth c H locs ls A C hK hP hS hA hB hal hl
  have hts := C.2.2.2.2.2.1
  obtain ⟨⟨⟨host, v1⟩, v2, v4, v5⟩, hd3⟩ := hv
  have hA1 : ∀ q, wp_A E.2.1 T.1 H.size q → A q := fun q h => h.elim (fun ⟨i, hi, e⟩ => by rw [e]; exact hB i hi) (fun h => hA q (Nat.le_trans hS.1 h))
  have hcode : ∀ w ∈ (Cond.code y I.2.1 I.2.2.1 I.2.2.2.1 :: tb_T), w ∈ tb_T := fun w hw => (List.mem_cons.mp hw).elim (fun h => by rw [h]; exact tb_mem v5) (fun h => h)
  refine wp_after (va_runSN (As := As.map (tp_v E.2.1)) (rest := rest.map (tp_v E.2.1)) (host := host) ⟨C.1, C.2.1, C.2.2.2.1, C.2.2.2.2.1, hts⟩ (hC H.size)
    ⟨va_cnB n hts (tb_goodIn hcode) rfl rfl rfl (hK.2.1 _ v1) (hts _ (tb_mem v4)) hd3 hR, hts _ (tb_mem v2), trivial⟩ ⟨wp_blind, fun U hU hW => ⟨rfl, by rw [hU], by rw [hU]; exact hP, tp_K.warm hW hK, hal⟩⟩ rfl (by rw [List.length_map]; exact hn) hl.1 ?_ (lv_room (wp_catS rest hw)) hd hm) hS hA1 (fun r T' σ' H1 locs1 hq hp hi hal hkp hS => ?_)
  · show List.map _ _ = _
    rw [List.map_append, List.map_reverse]
  · have key := kk r T' σ' hq p e s m args below meth c H1 locs1 ls A C hK hp hS hA (fun i h => hA1 _ (hi i h)) hal hl
    rw [wp_stk] at key
    exact key
theorem wp_callI {y : MethodName} {I : tp_I} {rm : Room} {b : Nat} {As rest : List Value} {Q' : Option Int32 → tp_T → tp_M → Prop} {n idx : Nat} (hv : cv_I M.1 idx y I n) (hn : As.length = n) (hst : st = As.reverse ++ .ref b :: rest) (hw : (rest.map fun v => v.category).sum ≤ 8) (hR : rm.frames + 1 ≤ R.frames ∧ 8 + (I.2.2.1 + 11) + rm.locals ≤ R.locals) (hm : ce + rm.cells ≤ R.cells ∧ sl + rm.slots ≤ R.slots) (hd : decode M.2.1 pc = .ok (.invokespecial idx, 3)) (hq : pc + 3 = q)
    (hC : Ct E al rm y I (.ref b :: As) T σ Q') (kk : ∀ r T' σ', Q' r T' σ' → WP E al R M (ce + rm.cells) (sl + rm.slots) Q q lv ((r.map Value.int).toList ++ rest) T' σ') : WP E al R M ce sl Q pc lv st T σ := by
  subst hq
  subst hst
  intro p e s m args below meth c H locs ls A C hK hP hS hA hB hal hl
  have hts := C.2.2.2.2.2.1
  obtain ⟨⟨v1, v2, v4, v5⟩, ⟨hnm, hrt⟩, hd3⟩ := hv
  have hA1 : ∀ q, wp_A E.2.1 T.1 H.size q → A q := fun q h => h.elim (fun ⟨i, hi, e⟩ => by rw [e]; exact hB i hi) (fun h => hA q (Nat.le_trans hS.1 h))
  have hM := hC H.size
  rw [hrt] at hM
  have hcode : ∀ w ∈ (Cond.code y I.2.1 I.2.2.1 none :: tb_T), w ∈ tb_T := fun w hw => (List.mem_cons.mp hw).elim (fun h => by rw [h]; exact tb_mem v5) (fun h => h)
  refine wp_after (va_runI (As := As.map (tp_v E.2.1)) (rest := rest.map (tp_v E.2.1)) (b := E.2.1 + b) ⟨C.1, C.2.1, C.2.2.2.1, C.2.2.2.2.1, hts⟩ hM
    (cwI n hts (tb_goodIn hcode) rfl rfl rfl (hts _ (tb_mem v4)) (hts _ (tb_mem v1)) (hts _ (tb_mem v2)) hnm hd3 hR) ⟨wp_blind, fun U hU hW => ⟨rfl, by rw [hU], by rw [hU]; exact hP, tp_K.warm hW hK, hal⟩⟩ rfl (by rw [List.length_map]; exact hn) hl.1 ?_ (lv_room (wp_catS rest hw)) hd hm) hS hA1 (fun r T' σ' H1 locs1 hq hp hi hal hkp hS => ?_)
  · show List.map _ _ = _
    rw [List.map_append, List.map_reverse]
    rfl
  · have key := kk r T' σ' hq p e s m args below meth c H1 locs1 ls A C hK hp hS hA (fun i h => hA1 _ (hi i h)) hal hl
    rw [wp_stk] at key
    exact key
theorem wp_callIN {y : MethodName} {I : tp_I} {rm : Room} {b : Nat} {As rest : List Value} {Q' : Option Int32 → tp_T → tp_M → Prop} {n idx : Nat} (hv : cv_IN M.1 idx y I n) (hn : As.length = n) (hst : st = As.reverse ++ .ref b :: rest) (hw : (rest.map fun v => v.category).sum ≤ 8) (hR : rm.frames + 1 ≤ R.frames ∧ 8 + (I.2.2.1 + 11) + rm.locals ≤ R.locals) (hm : ce + rm.cells ≤ R.cells ∧ sl + rm.slots ≤ R.slots) (hd : decode M.2.1 pc = .ok (.invokespecial idx, 3)) (hq : pc + 3 = q)
    (hC : Ct E al rm y I (.ref b :: As) T σ Q') (kk : ∀ r T' σ', Q' r T' σ' → WP E al R M (ce + rm.cells) (sl + rm.slots) Q q lv ((r.map Value.int).toList ++ rest) T' σ') : WP E al R M ce sl Q pc lv st T σ := by
  subst hq
  subst hst
  intro p e s m args below meth c H locs ls A C hK hP hS hA hB hal hl
  have hts := C.2.2.2.2.2.1
  obtain ⟨⟨⟨host, v1⟩, v2, v4, v5⟩, ⟨hnm, hrt⟩, hd3⟩ := hv
  have hA1 : ∀ q, wp_A E.2.1 T.1 H.size q → A q := fun q h => h.elim (fun ⟨i, hi, e⟩ => by rw [e]; exact hB i hi) (fun h => hA q (Nat.le_trans hS.1 h))
  have hM := hC H.size
  rw [hrt] at hM
  have hcode : ∀ w ∈ (Cond.code y I.2.1 I.2.2.1 none :: tb_T), w ∈ tb_T := fun w hw => (List.mem_cons.mp hw).elim (fun h => by rw [h]; exact tb_mem v5) (fun h => h)
  refine wp_after (va_runIN (As := As.map (tp_v E.2.1)) (rest := rest.map (tp_v E.2.1)) (b := E.2.1 + b) (host := host) ⟨C.1, C.2.1, C.2.2.2.1, C.2.2.2.2.1, hts⟩ hM
    ⟨va_cnB n hts (tb_goodIn hcode) rfl rfl rfl (hK.2.1 _ v1) (hts _ (tb_mem v4)) hd3 hR, hnm, hts _ (tb_mem v2)⟩ ⟨wp_blind, fun U hU hW => ⟨rfl, by rw [hU], by rw [hU]; exact hP, tp_K.warm hW hK, hal⟩⟩ rfl (by rw [List.length_map]; exact hn) hl.1 ?_ (lv_room (wp_catS rest hw)) hd hm) hS hA1 (fun r T' σ' H1 locs1 hq hp hi hal hkp hS => ?_)
  · show List.map _ _ = _
    rw [List.map_append, List.map_reverse]
    rfl
  · have key := kk r T' σ' hq p e s m args below meth c H1 locs1 ls A C hK hp hS hA (fun i h => hA1 _ (hi i h)) hal hl
    rw [wp_stk] at key
    exact key
end WPC
end
section
/-! ===== runs that make nothing: T stays ===== -/
abbrev rm_ (d : Nat) : Room := { frames := d, cells := 0, slots := 0, locals := 32 * d }
/-- of a method with an int for an answer, and of one without -/
abbrev Wi (E : tp_E) (T : tp_T) (M : tp_I) (d : Nat) (Q : Int32 → tp_M → Prop) (pc : Nat) (lv : List (Nat × Value)) (st : List Value) (σ : tp_M) : Prop := WP E false (rm_ d) M 0 0 (fun r T' σ' => T' = T ∧ ∃ x, r = some x ∧ Q x σ') pc lv st T σ
abbrev Wv (E : tp_E) (T : tp_T) (M : tp_I) (d : Nat) (Q : tp_M → Prop) (pc : Nat) (lv : List (Nat × Value)) (st : List Value) (σ : tp_M) : Prop := WP E false (rm_ d) M 0 0 (fun r T' σ' => T' = T ∧ r = none ∧ Q σ') pc lv st T σ
def Ci (E : tp_E) (T : tp_T) (y : MethodName) (M : tp_I) (d : Nat) (av : List Value) (σ : tp_M) (Q : Int32 → tp_M → Prop) : Prop := Ct E false (rm_ d) y M av T σ (fun r T' σ' => T' = T ∧ ∃ x, r = some x ∧ Q x σ')
def Cv (E : tp_E) (T : tp_T) (y : MethodName) (M : tp_I) (d : Nat) (av : List Value) (σ : tp_M) (Q : tp_M → Prop) : Prop := Ct E false (rm_ d) y M av T σ (fun r T' σ' => T' = T ∧ r = none ∧ Q σ')
section WNC
variable {E : tp_E} {M : tp_I} {d pc q : Nat} {Q : Option Int32 → tp_T → tp_M → Prop} {lv : List (Nat × Value)} {st rest : List Value} {T : tp_T} {σ : tp_M} {y : MethodName} {I : tp_I} {b : Nat} {As : List Value} {n idx : Nat}
theorem Ci.of {Q : Int32 → tp_M → Prop} {av : List Value} (hy : plainName y.cls = true ∧ y.cls = M.1 ∧ M.2.2.2.2 = false) (hl : (lg_sl av).length ≤ M.2.2.1) (h : Wi E T M d Q 0 (lv_args 0 av) [] σ) : Ci E T y M d av σ Q := Ct.of hy.1 hy.2.1 (fun h => by rw [hy.2.2] at h; cases h) hl h
theorem Cv.of {Q : tp_M → Prop} {av : List Value} (hy : plainName y.cls = true ∧ y.cls = M.1 ∧ M.2.2.2.2 = false) (hl : (lg_sl av).length ≤ M.2.2.1) (h : Wv E T M d Q 0 (lv_args 0 av) [] σ) : Cv E T y M d av σ Q := Ct.of hy.1 hy.2.1 (fun h => by rw [hy.2.2] at h; cases h) hl h
theorem wn_room (h : I.2.2.1 ≤ 13) : (rm_ d).frames + 1 ≤ (rm_ (d + 1)).frames ∧ 8 + (I.2.2.1 + 11) + (rm_ d).locals ≤ (rm_ (d + 1)).locals := ⟨Nat.le_refl _, by show 8 + (I.2.2.1 + 11) + 32 * d ≤ 32 * (d + 1); omega⟩
theorem wn_callVi (ci : Nat) (hv : cv_V M.1 idx ci y I n) (hL : I.2.2.1 ≤ 13) (hn : As.length = n) (hst : st = As.reverse ++ .ref b :: rest) (hw : (rest.map fun v => v.category).sum ≤ 8) (hb : b < T.1) (ht : (T.2.1 b).1 = ci) (hd : decode M.2.1 pc = .ok (.invokevirtual idx, 3)) (hq : pc + 3 = q)
    (hC : Ci E T y I d (.ref b :: As) σ (fun x σ' => WP E false (rm_ (d + 1)) M 0 0 Q q lv (.int x :: rest) T σ')) : WP E false (rm_ (d + 1)) M 0 0 Q pc lv st T σ :=
  wp_callV ci hv hn hst hw hb ht (wn_room hL) ⟨Nat.le_refl 0, Nat.le_refl 0⟩ hd hq hC (fun r T' σ' h => by obtain ⟨rfl, x, rfl, h⟩ := h; exact h)
theorem wn_callVv (ci : Nat) (hv : cv_V M.1 idx ci y I n) (hL : I.2.2.1 ≤ 13) (hn : As.length = n) (hst : st = As.reverse ++ .ref b :: rest) (hw : (rest.map fun v => v.category).sum ≤ 8) (hb : b < T.1) (ht : (T.2.1 b).1 = ci) (hd : decode M.2.1 pc = .ok (.invokevirtual idx, 3)) (hq : pc + 3 = q)
    (hC : Cv E T y I d (.ref b :: As) σ (fun σ' => WP E false (rm_ (d + 1)) M 0 0 Q q lv rest T σ')) : WP E false (rm_ (d + 1)) M 0 0 Q pc lv st T σ :=
  wp_callV ci hv hn hst hw hb ht (wn_room hL) ⟨Nat.le_refl 0, Nat.le_refl 0⟩ hd hq hC (fun r T' σ' h => by obtain ⟨rfl, rfl, h⟩ := h; exact h)
theorem wn_callSi (hv : cv_S M.1 idx y I n) (hL : I.2.2.1 ≤ 13) (hn : As.length = n) (hst : st = As.reverse ++ rest) (hw : (rest.map fun v => v.category).sum ≤ 8) (hd : decode M.2.1 pc = .ok (.invokestatic idx, 3)) (hq : pc + 3 = q)
    (hC : Ci E T y I d As σ (fun x σ' => WP E false (rm_ (d + 1)) M 0 0 Q q lv (.int x :: rest) T σ')) : WP E false (rm_ (d + 1)) M 0 0 Q pc lv st T σ :=
  wp_callS hv hn hst hw (wn_room hL) ⟨Nat.le_refl 0, Nat.le_refl 0⟩ hd hq hC (fun r T' σ' h => by obtain ⟨rfl, x, rfl, h⟩ := h; exact h)
theorem wn_callSv (hv : cv_S M.1 idx y I n) (hL : I.2.2.1 ≤ 13) (hn : As.length = n) (hst : st = As.reverse ++ rest) (hw : (rest.map fun v => v.category).sum ≤ 8) (hd : decode M.2.1 pc = .ok (.invokestatic idx, 3)) (hq : pc + 3 = q)
    (hC : Cv E T y I d As σ (fun σ' => WP E false (rm_ (d + 1)) M 0 0 Q q lv rest T σ')) : WP E false (rm_ (d + 1)) M 0 0 Q pc lv st T σ :=
  wp_callS hv hn hst hw (wn_room hL) ⟨Nat.le_refl 0, Nat.le_refl 0⟩ hd hq hC (fun r T' σ' h => by obtain ⟨rfl, rfl, h⟩ := h; exact h)
theorem wn_callNi (hv : cv_SN M.1 idx y I n) (hL : I.2.2.1 ≤ 13) (hn : As.length = n) (hst : st = As.reverse ++ rest) (hw : (rest.map fun v => v.category).sum ≤ 8) (hd : decode M.2.1 pc = .ok (.invokestatic idx, 3)) (hq : pc + 3 = q)
    (hC : Ci E T y I d As σ (fun x σ' => WP E false (rm_ (d + 1)) M 0 0 Q q lv (.int x :: rest) T σ')) : WP E false (rm_ (d + 1)) M 0 0 Q pc lv st T σ :=
  wp_callSN hv hn hst hw (wn_room hL) ⟨Nat.le_refl 0, Nat.le_refl 0⟩ hd hq hC (fun r T' σ' h => by obtain ⟨rfl, x, rfl, h⟩ := h; exact h)
theorem wn_callNv (hv : cv_SN M.1 idx y I n) (hL : I.2.2.1 ≤ 13) (hn : As.length = n) (hst : st = As.reverse ++ rest) (hw : (rest.map fun v => v.category).sum ≤ 8) (hd : decode M.2.1 pc = .ok (.invokestatic idx, 3)) (hq : pc + 3 = q)
    (hC : Cv E T y I d As σ (fun σ' => WP E false (rm_ (d + 1)) M 0 0 Q q lv rest T σ')) : WP E false (rm_ (d + 1)) M 0 0 Q pc lv st T σ :=
  wp_callSN hv hn hst hw (wn_room hL) ⟨Nat.le_refl 0, Nat.le_refl 0⟩ hd hq hC (fun r T' σ' h => by obtain ⟨rfl, rfl, h⟩ := h; exact h)
theorem wn_max {x z : Int32} (h1 : tb_in (.methodLink M.1 idx Lib.Math.max.name)) (h2 : tb_in (.static Lib.Math.max.name)) (h3 : tb_in (.initialized "java/lang/Math")) (h4 : tb_in (.code Lib.Math.max.name Lib.Math.max.code 2 (some .int))) (hw : (st.map fun v => v.category).sum ≤ 8) (hd : decode M.2.1 pc = .ok (.invokestatic idx, 3)) (hq : pc + 3 = q)
    (k : WP E false (rm_ (d + 1)) M 0 0 Q q lv (.int (if x < z then z else x) :: st) T σ) : WP E false (rm_ (d + 1)) M 0 0 Q pc lv (.int z :: .int x :: st) T σ := by
  subst hq
  intro p e s m args below meth c H locs ls A C hK hP hS hA hB hal hl
  have hts := C.2.2.2.2.2.1
  have hw2 := wp_catS (E := E) st hw
  exact va_mmax (rest := st.map (tp_v E.2.1)) C.1 C.2.1 (by rw [C.2.2.2.1]; exact hl.1.symm) C.2.2.2.2.1 (hts _ (tb_mem h1)) (hts _ (tb_mem h2)) (hts _ (tb_mem h3)) (hts _ (tb_mem h4)) (by show 1 ≤ d + 1; omega) (by show _ + 13 ≤ 32 * (d + 1); omega) (Nat.le_refl 0) (Nat.le_refl 0) hd (k p e s m args below meth c H locs ls A C hK hP hS hA hB hal hl)
theorem wn_min {x z : Int32} (h1 : tb_in (.methodLink M.1 idx Lib.Math.min.name)) (h2 : tb_in (.static Lib.Math.min.name)) (h3 : tb_in (.initialized "java/lang/Math")) (h4 : tb_in (.code Lib.Math.min.name Lib.Math.min.code 2 (some .int))) (hw : (st.map fun v => v.category).sum ≤ 8) (hd : decode M.2.1 pc = .ok (.invokestatic idx, 3)) (hq : pc + 3 = q)
    (k : WP E false (rm_ (d + 1)) M 0 0 Q q lv (.int (if z < x then z else x) :: st) T σ) : WP E false (rm_ (d + 1)) M 0 0 Q pc lv (.int z :: .int x :: st) T σ := by
  subst hq
  intro p e s m args below meth c H locs ls A C hK hP hS hA hB hal hl
  have hts := C.2.2.2.2.2.1
  have hw2 := wp_catS (E := E) st hw
  exact va_mmin (rest := st.map (tp_v E.2.1)) C.1 C.2.1 (by rw [C.2.2.2.1]; exact hl.1.symm) C.2.2.2.2.1 (hts _ (tb_mem h1)) (hts _ (tb_mem h2)) (hts _ (tb_mem h3)) (hts _ (tb_mem h4)) (by show 1 ≤ d + 1; omega) (by show _ + 13 ≤ 32 * (d + 1); omega) (Nat.le_refl 0) (Nat.le_refl 0) hd (k p e s m args below meth c H locs ls A C hK hP hS hA hB hal hl)
theorem wn_abs {x : Int32} (h1 : tb_in (.methodLink M.1 idx Lib.Math.abs.name)) (h2 : tb_in (.static Lib.Math.abs.name)) (h3 : tb_in (.initialized "java/lang/Math")) (h4 : tb_in (.code Lib.Math.abs.name Lib.Math.abs.code 1 (some .int))) (hw : (st.map fun v => v.category).sum ≤ 8) (hd : decode M.2.1 pc = .ok (.invokestatic idx, 3)) (hq : pc + 3 = q)
    (k : WP E false (rm_ (d + 1)) M 0 0 Q q lv (.int (if 0 ≤ x then x else 0 - x) :: st) T σ) : WP E false (rm_ (d + 1)) M 0 0 Q pc lv (.int x :: st) T σ := by
  subst hq
  intro p e s m args below meth c H locs ls A C hK hP hS hA hB hal hl
  have hts := C.2.2.2.2.2.1
  have hw2 := wp_catS (E := E) st hw
  exact va_mabs (rest := st.map (tp_v E.2.1)) C.1 C.2.1 (by rw [C.2.2.2.1]; exact hl.1.symm) C.2.2.2.2.1 (hts _ (tb_mem h1)) (hts _ (tb_mem h2)) (hts _ (tb_mem h3)) (hts _ (tb_mem h4)) (by show 1 ≤ d + 1; omega) (by show _ + 13 ≤ 32 * (d + 1); omega) (Nat.le_refl 0) (Nat.le_refl 0) hd (k p e s m args below meth c H locs ls A C hK hP hS hA hB hal hl)
theorem wn_copy {a0 a1 : Nat} {sp dp len : Int32} (h1 : tb_in (.methodLink M.1 idx arraycopyName)) (h2 : tb_in (.native arraycopyName)) (h3 : tb_in (.static arraycopyName)) (h4 : tb_in (.initialized "java/lang/System")) (hw : (st.map fun v => v.category).sum ≤ 8)
    (ho0 : a0 < T.1) (ht0 : (T.2.1 a0).1 = 11) (ho1 : a1 < T.1) (ht1 : (T.2.1 a1).1 = 11) (g1 : ¬ sp < 0) (g2 : ¬ dp < 0) (g3 : ¬ len < 0) (g4 : sp.toNatClampNeg + len.toNatClampNeg ≤ (T.2.1 a0).2) (g5 : dp.toNatClampNeg + len.toNatClampNeg ≤ (T.2.1 a1).2) (hd : decode M.2.1 pc = .ok (.invokestatic idx, 3)) (hq : pc + 3 = q)
    (k : WP E false (rm_ (d + 1)) M 0 0 Q q lv st T (tp_cp σ a0 a1 sp.toNatClampNeg dp.toNatClampNeg len.toNatClampNeg)) : WP E false (rm_ (d + 1)) M 0 0 Q pc lv (.int len :: .int dp :: .ref a1 :: .int sp :: .ref a0 :: st) T σ := by
  subst hq
  intro p e s m args below meth c H locs ls A C hK hP hS hA hB hal hl
  have hts := C.2.2.2.2.2.1
  have hw2 := wp_catS (E := E) st hw
  have hw0 := (tp_w_at (E := E) (σ := σ) ho0).trans (by rw [tp_e_prim (c := 0) ht0 (by decide)])
  have hw1 := (tp_w_at (E := E) (σ := σ) ho1).trans (by rw [tp_e_prim (c := 0) ht1 (by decide)])
  refine va_copyi (rest := st.map (tp_v E.2.1)) C.1 C.2.1 (by rw [C.2.2.2.1]; exact hl.1.symm) C.2.2.2.2.1 (hts _ (tb_mem h1)) (hts _ (tb_mem h2)) (hts _ (tb_mem h3)) (hts _ (tb_mem h4)) hK.1 hP (tp_D hB) hS a0 a1 0 0 hw0 hw1 rfl rfl rfl g1 g2 g3 g4 g5 (fun i hi => rfl) (by show 1 ≤ d + 1; omega) (by show _ + (7 + 11) ≤ 32 * (d + 1); omega) hd (fun H1 locs1 hP1 hD1 hS1 => ?_)
  refine k p e s m args below meth c H1 locs1 ls A C hK ?_ hS1 hA hB (fun h => by cases h) hl
  have hw9 : (tp_w E T σ).set a1 (E.2.1 + a1, .inl (E.2.2.2.2 0, (T.2.1 a1).2, .inl (va_cpy (σ a0) (σ a1) sp.toNatClampNeg dp.toNatClampNeg len.toNatClampNeg))) = tp_w E T (tp_cp σ a0 a1 sp.toNatClampNeg dp.toNatClampNeg len.toNatClampNeg) := by
    refine tp_set rfl ?_ (fun j hj => tp_e_ext rfl rfl (by simp [tp_cp, hj]))
    rw [tp_e_prim (c := 0) ht1 (by decide)]
    simp [tp_cp]
  show va_P _ _ (tp_w E T _) H1
  rw [← hw9]
  exact hP1
end WNC
end

theorem dX10_init_0 : decode cX10_init 0 = .ok (.aload_n 0, 1) := by decide +kernel
theorem dX10_init_1 : decode cX10_init 1 = .ok (.invokespecial 1, 3) := by decide +kernel
theorem dX10_init_4 : decode cX10_init 4 = .ok (.aload_n 0, 1) := by decide +kernel
theorem dX10_init_5 : decode cX10_init 5 = .ok (.sipush 1416, 3) := by decide +kernel
theorem dX10_init_8 : decode cX10_init 8 = .ok (.newarray .int, 2) := by decide +kernel
theorem dX10_init_10 : decode cX10_init 10 = .ok (.putfield 7, 3) := by decide +kernel
theorem dX10_init_13 : decode cX10_init 13 = .ok (.aload_n 0, 1) := by decide +kernel
theorem dX10_init_14 : decode cX10_init 14 = .ok (.iconst 2, 1) := by decide +kernel
theorem dX10_init_15 : decode cX10_init 15 = .ok (.newarray .boolean, 2) := by decide +kernel
theorem dX10_init_17 : decode cX10_init 17 = .ok (.putfield 13, 3) := by decide +kernel
theorem dX10_init_20 : decode cX10_init 20 = .ok (.aload_n 0, 1) := by decide +kernel
theorem dX10_init_21 : decode cX10_init 21 = .ok (.bipush 8, 2) := by decide +kernel
theorem dX10_init_23 : decode cX10_init 23 = .ok (.newarray .int, 2) := by decide +kernel
theorem dX10_init_25 : decode cX10_init 25 = .ok (.putfield 17, 3) := by decide +kernel
theorem dX10_init_28 : decode cX10_init 28 = .ok (.aload_n 0, 1) := by decide +kernel
theorem dX10_init_29 : decode cX10_init 29 = .ok (.iconst 4, 1) := by decide +kernel
theorem dX10_init_30 : decode cX10_init 30 = .ok (.newarray .int, 2) := by decide +kernel
theorem dX10_init_32 : decode cX10_init 32 = .ok (.putfield 20, 3) := by decide +kernel
theorem dX10_init_35 : decode cX10_init 35 = .ok (.aload_n 0, 1) := by decide +kernel
theorem dX10_init_36 : decode cX10_init 36 = .ok (.bipush 8, 2) := by decide +kernel
theorem dX10_init_38 : decode cX10_init 38 = .ok (.newarray .int, 2) := by decide +kernel
theorem dX10_init_40 : decode cX10_init 40 = .ok (.putfield 23, 3) := by decide +kernel
theorem dX10_init_43 : decode cX10_init 43 = .ok (.aload_n 0, 1) := by decide +kernel
theorem dX10_init_44 : decode cX10_init 44 = .ok (.bipush 8, 2) := by decide +kernel
theorem dX10_init_46 : decode cX10_init 46 = .ok (.newarray .int, 2) := by decide +kernel
theorem dX10_init_48 : decode cX10_init 48 = .ok (.putfield 26, 3) := by decide +kernel
theorem dX10_init_51 : decode cX10_init 51 = .ok (.aload_n 0, 1) := by decide +kernel
theorem dX10_init_52 : decode cX10_init 52 = .ok (.iconst 4, 1) := by decide +kernel
theorem dX10_init_53 : decode cX10_init 53 = .ok (.newarray .int, 2) := by decide +kernel
theorem dX10_init_55 : decode cX10_init 55 = .ok (.putfield 29, 3) := by decide +kernel
theorem dX10_init_58 : decode cX10_init 58 = .ok (.aload_n 0, 1) := by decide +kernel
theorem dX10_init_59 : decode cX10_init 59 = .ok (.iconst 4, 1) := by decide +kernel
theorem dX10_init_60 : decode cX10_init 60 = .ok (.newarray .int, 2) := by decide +kernel
theorem dX10_init_62 : decode cX10_init 62 = .ok (.putfield 32, 3) := by decide +kernel
theorem dX10_init_65 : decode cX10_init 65 = .ok (.aload_n 0, 1) := by decide +kernel
theorem dX10_init_66 : decode cX10_init 66 = .ok (.sipush 240, 3) := by decide +kernel
theorem dX10_init_69 : decode cX10_init 69 = .ok (.newarray .int, 2) := by decide +kernel
theorem dX10_init_71 : decode cX10_init 71 = .ok (.putfield 35, 3) := by decide +kernel
theorem dX10_init_74 : decode cX10_init 74 = .ok (.aload_n 0, 1) := by decide +kernel
theorem dX10_init_75 : decode cX10_init 75 = .ok (.iconst (-1), 1) := by decide +kernel
theorem dX10_init_76 : decode cX10_init 76 = .ok (.putfield 38, 3) := by decide +kernel
theorem dX10_init_79 : decode cX10_init 79 = .ok (.aload_n 0, 1) := by decide +kernel
theorem dX10_init_80 : decode cX10_init 80 = .ok (.bipush 8, 2) := by decide +kernel
theorem dX10_init_82 : decode cX10_init 82 = .ok (.newarray .int, 2) := by decide +kernel
theorem dX10_init_84 : decode cX10_init 84 = .ok (.putfield 42, 3) := by decide +kernel
theorem dX10_init_87 : decode cX10_init 87 = .ok (.aload_n 0, 1) := by decide +kernel
theorem dX10_init_88 : decode cX10_init 88 = .ok (.bipush 8, 2) := by decide +kernel
theorem dX10_init_90 : decode cX10_init 90 = .ok (.newarray .int, 2) := by decide +kernel
theorem dX10_init_92 : decode cX10_init 92 = .ok (.putfield 45, 3) := by decide +kernel
theorem dX10_init_95 : decode cX10_init 95 = .ok (.aload_n 0, 1) := by decide +kernel
theorem dX10_init_96 : decode cX10_init 96 = .ok (.bipush 16, 2) := by decide +kernel
theorem dX10_init_98 : decode cX10_init 98 = .ok (.newarray .int, 2) := by decide +kernel
theorem dX10_init_100 : decode cX10_init 100 = .ok (.putfield 48, 3) := by decide +kernel
theorem dX10_init_103 : decode cX10_init 103 = .ok (.aload_n 0, 1) := by decide +kernel
theorem dX10_init_104 : decode cX10_init 104 = .ok (.bipush 8, 2) := by decide +kernel
theorem dX10_init_106 : decode cX10_init 106 = .ok (.newarray .int, 2) := by decide +kernel
theorem dX10_init_108 : decode cX10_init 108 = .ok (.putfield 51, 3) := by decide +kernel
theorem dX10_init_111 : decode cX10_init 111 = .ok (.aload_n 0, 1) := by decide +kernel
theorem dX10_init_112 : decode cX10_init 112 = .ok (.iconst 4, 1) := by decide +kernel
theorem dX10_init_113 : decode cX10_init 113 = .ok (.newarray .int, 2) := by decide +kernel
theorem dX10_init_115 : decode cX10_init 115 = .ok (.putfield 54, 3) := by decide +kernel
theorem dX10_init_118 : decode cX10_init 118 = .ok (.aload_n 0, 1) := by decide +kernel
theorem dX10_init_119 : decode cX10_init 119 = .ok (.iconst 4, 1) := by decide +kernel
theorem dX10_init_120 : decode cX10_init 120 = .ok (.newarray .boolean, 2) := by decide +kernel
theorem dX10_init_122 : decode cX10_init 122 = .ok (.putfield 57, 3) := by decide +kernel
theorem dX10_init_125 : decode cX10_init 125 = .ok (.aload_n 0, 1) := by decide +kernel
theorem dX10_init_126 : decode cX10_init 126 = .ok (.bipush 9, 2) := by decide +kernel
theorem dX10_init_128 : decode cX10_init 128 = .ok (.newarray .int, 2) := by decide +kernel
theorem dX10_init_130 : decode cX10_init 130 = .ok (.putfield 60, 3) := by decide +kernel
theorem dX10_init_133 : decode cX10_init 133 = .ok (.aload_n 0, 1) := by decide +kernel
theorem dX10_init_134 : decode cX10_init 134 = .ok (.iconst 4, 1) := by decide +kernel
theorem dX10_init_135 : decode cX10_init 135 = .ok (.newarray .int, 2) := by decide +kernel
theorem dX10_init_137 : decode cX10_init 137 = .ok (.putfield 63, 3) := by decide +kernel
theorem dX10_init_140 : decode cX10_init 140 = .ok (.aload_n 0, 1) := by decide +kernel
theorem dX10_init_141 : decode cX10_init 141 = .ok (.iconst 4, 1) := by decide +kernel
theorem dX10_init_142 : decode cX10_init 142 = .ok (.newarray .int, 2) := by decide +kernel
theorem dX10_init_144 : decode cX10_init 144 = .ok (.putfield 66, 3) := by decide +kernel
theorem dX10_init_147 : decode cX10_init 147 = .ok (.aload_n 0, 1) := by decide +kernel
theorem dX10_init_148 : decode cX10_init 148 = .ok (.iconst 4, 1) := by decide +kernel
theorem dX10_init_149 : decode cX10_init 149 = .ok (.newarray .int, 2) := by decide +kernel
theorem dX10_init_151 : decode cX10_init 151 = .ok (.putfield 69, 3) := by decide +kernel
theorem dX10_init_154 : decode cX10_init 154 = .ok (.aload_n 0, 1) := by decide +kernel
theorem dX10_init_155 : decode cX10_init 155 = .ok (.iconst 4, 1) := by decide +kernel
theorem dX10_init_156 : decode cX10_init 156 = .ok (.newarray .int, 2) := by decide +kernel
theorem dX10_init_158 : decode cX10_init 158 = .ok (.putfield 72, 3) := by decide +kernel
theorem dX10_init_161 : decode cX10_init 161 = .ok (.aload_n 0, 1) := by decide +kernel
theorem dX10_init_162 : decode cX10_init 162 = .ok (.bipush 6, 2) := by decide +kernel
theorem dX10_init_164 : decode cX10_init 164 = .ok (.newarray .int, 2) := by decide +kernel
theorem dX10_init_166 : decode cX10_init 166 = .ok (.putfield 75, 3) := by decide +kernel
theorem dX10_init_169 : decode cX10_init 169 = .ok (.aload_n 0, 1) := by decide +kernel
theorem dX10_init_170 : decode cX10_init 170 = .ok (.bipush 6, 2) := by decide +kernel
theorem dX10_init_172 : decode cX10_init 172 = .ok (.newarray .int, 2) := by decide +kernel
theorem dX10_init_174 : decode cX10_init 174 = .ok (.putfield 78, 3) := by decide +kernel
theorem dX10_init_177 : decode cX10_init 177 = .ok (.aload_n 0, 1) := by decide +kernel
theorem dX10_init_178 : decode cX10_init 178 = .ok (.bipush 6, 2) := by decide +kernel
theorem dX10_init_180 : decode cX10_init 180 = .ok (.newarray .boolean, 2) := by decide +kernel
theorem dX10_init_182 : decode cX10_init 182 = .ok (.putfield 81, 3) := by decide +kernel
theorem dX10_init_185 : decode cX10_init 185 = .ok (.aload_n 0, 1) := by decide +kernel
theorem dX10_init_186 : decode cX10_init 186 = .ok (.bipush 15, 2) := by decide +kernel
theorem dX10_init_188 : decode cX10_init 188 = .ok (.newarray .int, 2) := by decide +kernel
theorem dX10_init_190 : decode cX10_init 190 = .ok (.putfield 84, 3) := by decide +kernel
theorem dX10_init_193 : decode cX10_init 193 = .ok (.aload_n 0, 1) := by decide +kernel
theorem dX10_init_194 : decode cX10_init 194 = .ok (.bipush 15, 2) := by decide +kernel
theorem dX10_init_196 : decode cX10_init 196 = .ok (.newarray .int, 2) := by decide +kernel
theorem dX10_init_198 : decode cX10_init 198 = .ok (.putfield 87, 3) := by decide +kernel
theorem dX10_init_201 : decode cX10_init 201 = .ok (.aload_n 0, 1) := by decide +kernel
theorem dX10_init_202 : decode cX10_init 202 = .ok (.iconst 0, 1) := by decide +kernel
theorem dX10_init_203 : decode cX10_init 203 = .ok (.putfield 90, 3) := by decide +kernel
theorem dX10_init_206 : decode cX10_init 206 = .ok (.return_, 1) := by decide +kernel
theorem dX10_in_0 : decode cX10_in 0 = .ok (.lload_n 0, 1) := by decide +kernel
theorem dX10_in_1 : decode cX10_in 1 = .ok (.lload_n 2, 1) := by decide +kernel
theorem dX10_in_2 : decode cX10_in 2 = .ok (.lcmp, 1) := by decide +kernel
theorem dX10_in_3 : decode cX10_in 3 = .ok (.ifCond .lt 14, 3) := by decide +kernel
theorem dX10_in_6 : decode cX10_in 6 = .ok (.lload_n 0, 1) := by decide +kernel
theorem dX10_in_7 : decode cX10_in 7 = .ok (.lload 4, 2) := by decide +kernel
theorem dX10_in_9 : decode cX10_in 9 = .ok (.lcmp, 1) := by decide +kernel
theorem dX10_in_10 : decode cX10_in 10 = .ok (.ifCond .gt 7, 3) := by decide +kernel
theorem dX10_in_13 : decode cX10_in 13 = .ok (.iconst 1, 1) := by decide +kernel
theorem dX10_in_14 : decode cX10_in 14 = .ok (.goto 4, 3) := by decide +kernel
theorem dX10_in_17 : decode cX10_in 17 = .ok (.iconst 0, 1) := by decide +kernel
theorem dX10_in_18 : decode cX10_in 18 = .ok (.ireturn, 1) := by decide +kernel
theorem dX10_has_0 : decode cX10_has 0 = .ok (.iload_n 0, 1) := by decide +kernel
theorem dX10_has_1 : decode cX10_has 1 = .ok (.iload_n 1, 1) := by decide +kernel
theorem dX10_has_2 : decode cX10_has 2 = .ok (.ishr, 1) := by decide +kernel
theorem dX10_has_3 : decode cX10_has 3 = .ok (.iconst 1, 1) := by decide +kernel
theorem dX10_has_4 : decode cX10_has 4 = .ok (.iand, 1) := by decide +kernel
theorem dX10_has_5 : decode cX10_has 5 = .ok (.iconst 1, 1) := by decide +kernel
theorem dX10_has_6 : decode cX10_has 6 = .ok (.if_icmp .ne 7, 3) := by decide +kernel
theorem dX10_has_9 : decode cX10_has 9 = .ok (.iconst 1, 1) := by decide +kernel
theorem dX10_has_10 : decode cX10_has 10 = .ok (.goto 4, 3) := by decide +kernel
theorem dX10_has_13 : decode cX10_has 13 = .ok (.iconst 0, 1) := by decide +kernel
theorem dX10_has_14 : decode cX10_has 14 = .ok (.ireturn, 1) := by decide +kernel
theorem dX10_ones_0 : decode cX10_ones 0 = .ok (.iconst 0, 1) := by decide +kernel
theorem dX10_ones_1 : decode cX10_ones 1 = .ok (.istore_n 1, 1) := by decide +kernel
theorem dX10_ones_2 : decode cX10_ones 2 = .ok (.iconst 0, 1) := by decide +kernel
theorem dX10_ones_3 : decode cX10_ones 3 = .ok (.istore_n 2, 1) := by decide +kernel
theorem dX10_ones_4 : decode cX10_ones 4 = .ok (.iload_n 2, 1) := by decide +kernel
theorem dX10_ones_5 : decode cX10_ones 5 = .ok (.bipush 8, 2) := by decide +kernel
theorem dX10_ones_7 : decode cX10_ones 7 = .ok (.if_icmp .ge 17, 3) := by decide +kernel
theorem dX10_ones_10 : decode cX10_ones 10 = .ok (.iload_n 1, 1) := by decide +kernel
theorem dX10_ones_11 : decode cX10_ones 11 = .ok (.iload_n 0, 1) := by decide +kernel
theorem dX10_ones_12 : decode cX10_ones 12 = .ok (.iload_n 2, 1) := by decide +kernel
theorem dX10_ones_13 : decode cX10_ones 13 = .ok (.ishr, 1) := by decide +kernel
theorem dX10_ones_14 : decode cX10_ones 14 = .ok (.iconst 1, 1) := by decide +kernel
theorem dX10_ones_15 : decode cX10_ones 15 = .ok (.iand, 1) := by decide +kernel
theorem dX10_ones_16 : decode cX10_ones 16 = .ok (.iadd, 1) := by decide +kernel
theorem dX10_ones_17 : decode cX10_ones 17 = .ok (.istore_n 1, 1) := by decide +kernel
theorem dX10_ones_18 : decode cX10_ones 18 = .ok (.iinc 2 1, 3) := by decide +kernel
theorem dX10_ones_21 : decode cX10_ones 21 = .ok (.goto (-17), 3) := by decide +kernel
theorem dX10_ones_24 : decode cX10_ones 24 = .ok (.iload_n 1, 1) := by decide +kernel
theorem dX10_ones_25 : decode cX10_ones 25 = .ok (.ireturn, 1) := by decide +kernel
theorem dX10_copy_0 : decode cX10_copy 0 = .ok (.iconst 0, 1) := by decide +kernel
theorem dX10_copy_1 : decode cX10_copy 1 = .ok (.istore_n 3, 1) := by decide +kernel
theorem dX10_copy_2 : decode cX10_copy 2 = .ok (.iload_n 3, 1) := by decide +kernel
theorem dX10_copy_3 : decode cX10_copy 3 = .ok (.bipush 59, 2) := by decide +kernel
theorem dX10_copy_5 : decode cX10_copy 5 = .ok (.if_icmp .ge 25, 3) := by decide +kernel
theorem dX10_copy_8 : decode cX10_copy 8 = .ok (.aload_n 0, 1) := by decide +kernel
theorem dX10_copy_9 : decode cX10_copy 9 = .ok (.getfield 7, 3) := by decide +kernel
theorem dX10_copy_12 : decode cX10_copy 12 = .ok (.iload_n 2, 1) := by decide +kernel
theorem dX10_copy_13 : decode cX10_copy 13 = .ok (.iload_n 3, 1) := by decide +kernel
theorem dX10_copy_14 : decode cX10_copy 14 = .ok (.iadd, 1) := by decide +kernel
theorem dX10_copy_15 : decode cX10_copy 15 = .ok (.aload_n 0, 1) := by decide +kernel
theorem dX10_copy_16 : decode cX10_copy 16 = .ok (.getfield 7, 3) := by decide +kernel
theorem dX10_copy_19 : decode cX10_copy 19 = .ok (.iload_n 1, 1) := by decide +kernel
theorem dX10_copy_20 : decode cX10_copy 20 = .ok (.iload_n 3, 1) := by decide +kernel
theorem dX10_copy_21 : decode cX10_copy 21 = .ok (.iadd, 1) := by decide +kernel
theorem dX10_copy_22 : decode cX10_copy 22 = .ok (.iaload, 1) := by decide +kernel
theorem dX10_copy_23 : decode cX10_copy 23 = .ok (.iastore, 1) := by decide +kernel
theorem dX10_copy_24 : decode cX10_copy 24 = .ok (.iinc 3 1, 3) := by decide +kernel
theorem dX10_copy_27 : decode cX10_copy 27 = .ok (.goto (-25), 3) := by decide +kernel
theorem dX10_copy_30 : decode cX10_copy 30 = .ok (.return_, 1) := by decide +kernel
theorem dX10_isRoom_0 : decode cX10_isRoom 0 = .ok (.iload_n 1, 1) := by decide +kernel
theorem dX10_isRoom_1 : decode cX10_isRoom 1 = .ok (.i2l, 1) := by decide +kernel
theorem dX10_isRoom_2 : decode cX10_isRoom 2 = .ok (.lconst 0, 1) := by decide +kernel
theorem dX10_isRoom_3 : decode cX10_isRoom 3 = .ok (.aload_n 0, 1) := by decide +kernel
theorem dX10_isRoom_4 : decode cX10_isRoom 4 = .ok (.getfield 90, 3) := by decide +kernel
theorem dX10_isRoom_7 : decode cX10_isRoom 7 = .ok (.iconst 1, 1) := by decide +kernel
theorem dX10_isRoom_8 : decode cX10_isRoom 8 = .ok (.isub, 1) := by decide +kernel
theorem dX10_isRoom_9 : decode cX10_isRoom 9 = .ok (.i2l, 1) := by decide +kernel
theorem dX10_isRoom_10 : decode cX10_isRoom 10 = .ok (.invokestatic 93, 3) := by decide +kernel
theorem dX10_isRoom_13 : decode cX10_isRoom 13 = .ok (.ireturn, 1) := by decide +kernel
theorem dX10_isWaiter_0 : decode cX10_isWaiter 0 = .ok (.iload_n 1, 1) := by decide +kernel
theorem dX10_isWaiter_1 : decode cX10_isWaiter 1 = .ok (.i2l, 1) := by decide +kernel
theorem dX10_isWaiter_2 : decode cX10_isWaiter 2 = .ok (.lconst 0, 1) := by decide +kernel
theorem dX10_isWaiter_3 : decode cX10_isWaiter 3 = .ok (.aload_n 0, 1) := by decide +kernel
theorem dX10_isWaiter_4 : decode cX10_isWaiter 4 = .ok (.getfield 97, 3) := by decide +kernel
theorem dX10_isWaiter_7 : decode cX10_isWaiter 7 = .ok (.iconst 1, 1) := by decide +kernel
theorem dX10_isWaiter_8 : decode cX10_isWaiter 8 = .ok (.isub, 1) := by decide +kernel
theorem dX10_isWaiter_9 : decode cX10_isWaiter 9 = .ok (.i2l, 1) := by decide +kernel
theorem dX10_isWaiter_10 : decode cX10_isWaiter 10 = .ok (.invokestatic 93, 3) := by decide +kernel
theorem dX10_isWaiter_13 : decode cX10_isWaiter 13 = .ok (.ireturn, 1) := by decide +kernel
theorem dX10_areTwo_0 : decode cX10_areTwo 0 = .ok (.aload_n 0, 1) := by decide +kernel
theorem dX10_areTwo_1 : decode cX10_areTwo 1 = .ok (.iload_n 1, 1) := by decide +kernel
theorem dX10_areTwo_2 : decode cX10_areTwo 2 = .ok (.invokevirtual 100, 3) := by decide +kernel
theorem dX10_areTwo_5 : decode cX10_areTwo 5 = .ok (.ifCond .eq 20, 3) := by decide +kernel
theorem dX10_areTwo_8 : decode cX10_areTwo 8 = .ok (.aload_n 0, 1) := by decide +kernel
theorem dX10_areTwo_9 : decode cX10_areTwo 9 = .ok (.iload_n 2, 1) := by decide +kernel
theorem dX10_areTwo_10 : decode cX10_areTwo 10 = .ok (.invokevirtual 100, 3) := by decide +kernel
theorem dX10_areTwo_13 : decode cX10_areTwo 13 = .ok (.ifCond .eq 12, 3) := by decide +kernel
theorem dX10_areTwo_16 : decode cX10_areTwo 16 = .ok (.iload_n 1, 1) := by decide +kernel
theorem dX10_areTwo_17 : decode cX10_areTwo 17 = .ok (.iload_n 2, 1) := by decide +kernel
theorem dX10_areTwo_18 : decode cX10_areTwo 18 = .ok (.if_icmp .eq 7, 3) := by decide +kernel
theorem dX10_areTwo_21 : decode cX10_areTwo 21 = .ok (.iconst 1, 1) := by decide +kernel
theorem dX10_areTwo_22 : decode cX10_areTwo 22 = .ok (.goto 4, 3) := by decide +kernel
theorem dX10_areTwo_25 : decode cX10_areTwo 25 = .ok (.iconst 0, 1) := by decide +kernel
theorem dX10_areTwo_26 : decode cX10_areTwo 26 = .ok (.ireturn, 1) := by decide +kernel
theorem dX10_isThing_0 : decode cX10_isThing 0 = .ok (.iload_n 1, 1) := by decide +kernel
theorem dX10_isThing_1 : decode cX10_isThing 1 = .ok (.i2l, 1) := by decide +kernel
theorem dX10_isThing_2 : decode cX10_isThing 2 = .ok (.lconst 0, 1) := by decide +kernel
theorem dX10_isThing_3 : decode cX10_isThing 3 = .ok (.aload_n 0, 1) := by decide +kernel
theorem dX10_isThing_4 : decode cX10_isThing 4 = .ok (.getfield 104, 3) := by decide +kernel
theorem dX10_isThing_7 : decode cX10_isThing 7 = .ok (.iconst 1, 1) := by decide +kernel
theorem dX10_isThing_8 : decode cX10_isThing 8 = .ok (.isub, 1) := by decide +kernel
theorem dX10_isThing_9 : decode cX10_isThing 9 = .ok (.i2l, 1) := by decide +kernel
theorem dX10_isThing_10 : decode cX10_isThing 10 = .ok (.invokestatic 93, 3) := by decide +kernel
theorem dX10_isThing_13 : decode cX10_isThing 13 = .ok (.ireturn, 1) := by decide +kernel
theorem dX10_feed_0 : decode cX10_feed 0 = .ok (.iload_n 1, 1) := by decide +kernel
theorem dX10_feed_1 : decode cX10_feed 1 = .ok (.i2l, 1) := by decide +kernel
theorem dX10_feed_2 : decode cX10_feed 2 = .ok (.lconst 0, 1) := by decide +kernel
theorem dX10_feed_3 : decode cX10_feed 3 = .ok (.ldc2_w 107, 3) := by decide +kernel
theorem dX10_feed_6 : decode cX10_feed 6 = .ok (.invokestatic 93, 3) := by decide +kernel
theorem dX10_feed_9 : decode cX10_feed 9 = .ok (.ifCond .ne 6, 3) := by decide +kernel
theorem dX10_feed_12 : decode cX10_feed 12 = .ok (.ldc 109, 2) := by decide +kernel
theorem dX10_feed_14 : decode cX10_feed 14 = .ok (.ireturn, 1) := by decide +kernel
theorem dX10_feed_15 : decode cX10_feed 15 = .ok (.aload_n 0, 1) := by decide +kernel
theorem dX10_feed_16 : decode cX10_feed 16 = .ok (.getfield 110, 3) := by decide +kernel
theorem dX10_feed_19 : decode cX10_feed 19 = .ok (.sipush 240, 3) := by decide +kernel
theorem dX10_feed_22 : decode cX10_feed 22 = .ok (.if_icmp .ne 6, 3) := by decide +kernel
theorem dX10_feed_25 : decode cX10_feed 25 = .ok (.ldc 113, 2) := by decide +kernel
theorem dX10_feed_27 : decode cX10_feed 27 = .ok (.ireturn, 1) := by decide +kernel
theorem dX10_feed_28 : decode cX10_feed 28 = .ok (.aload_n 0, 1) := by decide +kernel
theorem dX10_feed_29 : decode cX10_feed 29 = .ok (.getfield 35, 3) := by decide +kernel
theorem dX10_feed_32 : decode cX10_feed 32 = .ok (.aload_n 0, 1) := by decide +kernel
theorem dX10_feed_33 : decode cX10_feed 33 = .ok (.getfield 110, 3) := by decide +kernel
theorem dX10_feed_36 : decode cX10_feed 36 = .ok (.iload_n 1, 1) := by decide +kernel
theorem dX10_feed_37 : decode cX10_feed 37 = .ok (.iastore, 1) := by decide +kernel
theorem dX10_feed_38 : decode cX10_feed 38 = .ok (.aload_n 0, 1) := by decide +kernel
theorem dX10_feed_39 : decode cX10_feed 39 = .ok (.dup, 1) := by decide +kernel
theorem dX10_feed_40 : decode cX10_feed 40 = .ok (.getfield 110, 3) := by decide +kernel
theorem dX10_feed_43 : decode cX10_feed 43 = .ok (.iconst 1, 1) := by decide +kernel
theorem dX10_feed_44 : decode cX10_feed 44 = .ok (.iadd, 1) := by decide +kernel
theorem dX10_feed_45 : decode cX10_feed 45 = .ok (.putfield 110, 3) := by decide +kernel
theorem dX10_feed_48 : decode cX10_feed 48 = .ok (.aload_n 0, 1) := by decide +kernel
theorem dX10_feed_49 : decode cX10_feed 49 = .ok (.getfield 110, 3) := by decide +kernel
theorem dX10_feed_52 : decode cX10_feed 52 = .ok (.ireturn, 1) := by decide +kernel
theorem dX10_letterAt_0 : decode cX10_letterAt 0 = .ok (.iload_n 1, 1) := by decide +kernel
theorem dX10_letterAt_1 : decode cX10_letterAt 1 = .ok (.aload_n 0, 1) := by decide +kernel
theorem dX10_letterAt_2 : decode cX10_letterAt 2 = .ok (.getfield 110, 3) := by decide +kernel
theorem dX10_letterAt_5 : decode cX10_letterAt 5 = .ok (.if_icmp .ge 12, 3) := by decide +kernel
theorem dX10_letterAt_8 : decode cX10_letterAt 8 = .ok (.aload_n 0, 1) := by decide +kernel
theorem dX10_letterAt_9 : decode cX10_letterAt 9 = .ok (.getfield 35, 3) := by decide +kernel
theorem dX10_letterAt_12 : decode cX10_letterAt 12 = .ok (.iload_n 1, 1) := by decide +kernel
theorem dX10_letterAt_13 : decode cX10_letterAt 13 = .ok (.iaload, 1) := by decide +kernel
theorem dX10_letterAt_14 : decode cX10_letterAt 14 = .ok (.goto 4, 3) := by decide +kernel
theorem dX10_letterAt_17 : decode cX10_letterAt 17 = .ok (.iconst (-1), 1) := by decide +kernel
theorem dX10_letterAt_18 : decode cX10_letterAt 18 = .ok (.ireturn, 1) := by decide +kernel
theorem dX10_here_0 : decode cX10_here 0 = .ok (.aload_n 0, 1) := by decide +kernel
theorem dX10_here_1 : decode cX10_here 1 = .ok (.aload_n 0, 1) := by decide +kernel
theorem dX10_here_2 : decode cX10_here 2 = .ok (.getfield 114, 3) := by decide +kernel
theorem dX10_here_5 : decode cX10_here 5 = .ok (.invokevirtual 117, 3) := by decide +kernel
theorem dX10_here_8 : decode cX10_here 8 = .ok (.bipush 32, 2) := by decide +kernel
theorem dX10_here_10 : decode cX10_here 10 = .ok (.if_icmp .ne 16, 3) := by decide +kernel
theorem dX10_here_13 : decode cX10_here 13 = .ok (.aload_n 0, 1) := by decide +kernel
theorem dX10_here_14 : decode cX10_here 14 = .ok (.dup, 1) := by decide +kernel
theorem dX10_here_15 : decode cX10_here 15 = .ok (.getfield 114, 3) := by decide +kernel
theorem dX10_here_18 : decode cX10_here 18 = .ok (.iconst 1, 1) := by decide +kernel
theorem dX10_here_19 : decode cX10_here 19 = .ok (.iadd, 1) := by decide +kernel
theorem dX10_here_20 : decode cX10_here 20 = .ok (.putfield 114, 3) := by decide +kernel
theorem dX10_here_23 : decode cX10_here 23 = .ok (.goto (-23), 3) := by decide +kernel
theorem dX10_here_26 : decode cX10_here 26 = .ok (.aload_n 0, 1) := by decide +kernel
theorem dX10_here_27 : decode cX10_here 27 = .ok (.aload_n 0, 1) := by decide +kernel
theorem dX10_here_28 : decode cX10_here 28 = .ok (.getfield 114, 3) := by decide +kernel
theorem dX10_here_31 : decode cX10_here 31 = .ok (.putfield 121, 3) := by decide +kernel
theorem dX10_here_34 : decode cX10_here 34 = .ok (.aload_n 0, 1) := by decide +kernel
theorem dX10_here_35 : decode cX10_here 35 = .ok (.aload_n 0, 1) := by decide +kernel
theorem dX10_here_36 : decode cX10_here 36 = .ok (.getfield 114, 3) := by decide +kernel
theorem dX10_here_39 : decode cX10_here 39 = .ok (.invokevirtual 117, 3) := by decide +kernel
theorem dX10_here_42 : decode cX10_here 42 = .ok (.ireturn, 1) := by decide +kernel
theorem dX10_fails_0 : decode cX10_fails 0 = .ok (.aload_n 0, 1) := by decide +kernel
theorem dX10_fails_1 : decode cX10_fails 1 = .ok (.iload_n 1, 1) := by decide +kernel
theorem dX10_fails_2 : decode cX10_fails 2 = .ok (.putfield 124, 3) := by decide +kernel
theorem dX10_fails_5 : decode cX10_fails 5 = .ok (.aload_n 0, 1) := by decide +kernel
theorem dX10_fails_6 : decode cX10_fails 6 = .ok (.iload_n 2, 1) := by decide +kernel
theorem dX10_fails_7 : decode cX10_fails 7 = .ok (.putfield 38, 3) := by decide +kernel
theorem dX10_fails_10 : decode cX10_fails 10 = .ok (.iconst 0, 1) := by decide +kernel
theorem dX10_fails_11 : decode cX10_fails 11 = .ok (.ireturn, 1) := by decide +kernel
theorem dX10_takes_0 : decode cX10_takes 0 = .ok (.aload_n 0, 1) := by decide +kernel
theorem dX10_takes_1 : decode cX10_takes 1 = .ok (.invokevirtual 127, 3) := by decide +kernel
theorem dX10_takes_4 : decode cX10_takes 4 = .ok (.iload_n 1, 1) := by decide +kernel
theorem dX10_takes_5 : decode cX10_takes 5 = .ok (.if_icmp .eq 13, 3) := by decide +kernel
theorem dX10_takes_8 : decode cX10_takes 8 = .ok (.aload_n 0, 1) := by decide +kernel
theorem dX10_takes_9 : decode cX10_takes 9 = .ok (.iconst 1, 1) := by decide +kernel
theorem dX10_takes_10 : decode cX10_takes 10 = .ok (.aload_n 0, 1) := by decide +kernel
theorem dX10_takes_11 : decode cX10_takes 11 = .ok (.getfield 121, 3) := by decide +kernel
theorem dX10_takes_14 : decode cX10_takes 14 = .ok (.invokevirtual 131, 3) := by decide +kernel
theorem dX10_takes_17 : decode cX10_takes 17 = .ok (.ireturn, 1) := by decide +kernel
theorem dX10_takes_18 : decode cX10_takes 18 = .ok (.aload_n 0, 1) := by decide +kernel
theorem dX10_takes_19 : decode cX10_takes 19 = .ok (.dup, 1) := by decide +kernel
theorem dX10_takes_20 : decode cX10_takes 20 = .ok (.getfield 114, 3) := by decide +kernel
theorem dX10_takes_23 : decode cX10_takes 23 = .ok (.iconst 1, 1) := by decide +kernel
theorem dX10_takes_24 : decode cX10_takes 24 = .ok (.iadd, 1) := by decide +kernel
theorem dX10_takes_25 : decode cX10_takes 25 = .ok (.putfield 114, 3) := by decide +kernel
theorem dX10_takes_28 : decode cX10_takes 28 = .ok (.iconst 1, 1) := by decide +kernel
theorem dX10_takes_29 : decode cX10_takes 29 = .ok (.ireturn, 1) := by decide +kernel
theorem dX10_takesNumber_0 : decode cX10_takesNumber 0 = .ok (.aload_n 0, 1) := by decide +kernel
theorem dX10_takesNumber_1 : decode cX10_takesNumber 1 = .ok (.invokevirtual 127, 3) := by decide +kernel
theorem dX10_takesNumber_4 : decode cX10_takesNumber 4 = .ok (.i2l, 1) := by decide +kernel
theorem dX10_takesNumber_5 : decode cX10_takesNumber 5 = .ok (.ldc2_w 135, 3) := by decide +kernel
theorem dX10_takesNumber_8 : decode cX10_takesNumber 8 = .ok (.ldc2_w 137, 3) := by decide +kernel
theorem dX10_takesNumber_11 : decode cX10_takesNumber 11 = .ok (.invokestatic 93, 3) := by decide +kernel
theorem dX10_takesNumber_14 : decode cX10_takesNumber 14 = .ok (.ifCond .ne 13, 3) := by decide +kernel
theorem dX10_takesNumber_17 : decode cX10_takesNumber 17 = .ok (.aload_n 0, 1) := by decide +kernel
theorem dX10_takesNumber_18 : decode cX10_takesNumber 18 = .ok (.iconst 1, 1) := by decide +kernel
theorem dX10_takesNumber_19 : decode cX10_takesNumber 19 = .ok (.aload_n 0, 1) := by decide +kernel
theorem dX10_takesNumber_20 : decode cX10_takesNumber 20 = .ok (.getfield 121, 3) := by decide +kernel
theorem dX10_takesNumber_23 : decode cX10_takesNumber 23 = .ok (.invokevirtual 131, 3) := by decide +kernel
theorem dX10_takesNumber_26 : decode cX10_takesNumber 26 = .ok (.ireturn, 1) := by decide +kernel
theorem dX10_takesNumber_27 : decode cX10_takesNumber 27 = .ok (.aload_n 0, 1) := by decide +kernel
theorem dX10_takesNumber_28 : decode cX10_takesNumber 28 = .ok (.iconst 0, 1) := by decide +kernel
theorem dX10_takesNumber_29 : decode cX10_takesNumber 29 = .ok (.putfield 139, 3) := by decide +kernel
theorem dX10_takesNumber_32 : decode cX10_takesNumber 32 = .ok (.aload_n 0, 1) := by decide +kernel
theorem dX10_takesNumber_33 : decode cX10_takesNumber 33 = .ok (.aload_n 0, 1) := by decide +kernel
theorem dX10_takesNumber_34 : decode cX10_takesNumber 34 = .ok (.getfield 114, 3) := by decide +kernel
theorem dX10_takesNumber_37 : decode cX10_takesNumber 37 = .ok (.invokevirtual 117, 3) := by decide +kernel
theorem dX10_takesNumber_40 : decode cX10_takesNumber 40 = .ok (.i2l, 1) := by decide +kernel
theorem dX10_takesNumber_41 : decode cX10_takesNumber 41 = .ok (.ldc2_w 135, 3) := by decide +kernel
theorem dX10_takesNumber_44 : decode cX10_takesNumber 44 = .ok (.ldc2_w 137, 3) := by decide +kernel
theorem dX10_takesNumber_47 : decode cX10_takesNumber 47 = .ok (.invokestatic 93, 3) := by decide +kernel
theorem dX10_takesNumber_50 : decode cX10_takesNumber 50 = .ok (.ifCond .eq 59, 3) := by decide +kernel
theorem dX10_takesNumber_53 : decode cX10_takesNumber 53 = .ok (.aload_n 0, 1) := by decide +kernel
theorem dX10_takesNumber_54 : decode cX10_takesNumber 54 = .ok (.aload_n 0, 1) := by decide +kernel
theorem dX10_takesNumber_55 : decode cX10_takesNumber 55 = .ok (.getfield 114, 3) := by decide +kernel
theorem dX10_takesNumber_58 : decode cX10_takesNumber 58 = .ok (.aload_n 0, 1) := by decide +kernel
theorem dX10_takesNumber_59 : decode cX10_takesNumber 59 = .ok (.getfield 121, 3) := by decide +kernel
theorem dX10_takesNumber_62 : decode cX10_takesNumber 62 = .ok (.isub, 1) := by decide +kernel
theorem dX10_takesNumber_63 : decode cX10_takesNumber 63 = .ok (.iconst 3, 1) := by decide +kernel
theorem dX10_takesNumber_64 : decode cX10_takesNumber 64 = .ok (.if_icmp .ge 25, 3) := by decide +kernel
theorem dX10_takesNumber_67 : decode cX10_takesNumber 67 = .ok (.bipush 10, 2) := by decide +kernel
theorem dX10_takesNumber_69 : decode cX10_takesNumber 69 = .ok (.aload_n 0, 1) := by decide +kernel
theorem dX10_takesNumber_70 : decode cX10_takesNumber 70 = .ok (.getfield 139, 3) := by decide +kernel
theorem dX10_takesNumber_73 : decode cX10_takesNumber 73 = .ok (.imul, 1) := by decide +kernel
theorem dX10_takesNumber_74 : decode cX10_takesNumber 74 = .ok (.aload_n 0, 1) := by decide +kernel
theorem dX10_takesNumber_75 : decode cX10_takesNumber 75 = .ok (.aload_n 0, 1) := by decide +kernel
theorem dX10_takesNumber_76 : decode cX10_takesNumber 76 = .ok (.getfield 114, 3) := by decide +kernel
theorem dX10_takesNumber_79 : decode cX10_takesNumber 79 = .ok (.invokevirtual 117, 3) := by decide +kernel
theorem dX10_takesNumber_82 : decode cX10_takesNumber 82 = .ok (.iadd, 1) := by decide +kernel
theorem dX10_takesNumber_83 : decode cX10_takesNumber 83 = .ok (.bipush 48, 2) := by decide +kernel
theorem dX10_takesNumber_85 : decode cX10_takesNumber 85 = .ok (.isub, 1) := by decide +kernel
theorem dX10_takesNumber_86 : decode cX10_takesNumber 86 = .ok (.goto 7, 3) := by decide +kernel
theorem dX10_takesNumber_89 : decode cX10_takesNumber 89 = .ok (.aload_n 0, 1) := by decide +kernel
theorem dX10_takesNumber_90 : decode cX10_takesNumber 90 = .ok (.getfield 139, 3) := by decide +kernel
theorem dX10_takesNumber_93 : decode cX10_takesNumber 93 = .ok (.putfield 139, 3) := by decide +kernel
theorem dX10_takesNumber_96 : decode cX10_takesNumber 96 = .ok (.aload_n 0, 1) := by decide +kernel
theorem dX10_takesNumber_97 : decode cX10_takesNumber 97 = .ok (.dup, 1) := by decide +kernel
theorem dX10_takesNumber_98 : decode cX10_takesNumber 98 = .ok (.getfield 114, 3) := by decide +kernel
theorem dX10_takesNumber_101 : decode cX10_takesNumber 101 = .ok (.iconst 1, 1) := by decide +kernel
theorem dX10_takesNumber_102 : decode cX10_takesNumber 102 = .ok (.iadd, 1) := by decide +kernel
theorem dX10_takesNumber_103 : decode cX10_takesNumber 103 = .ok (.putfield 114, 3) := by decide +kernel
theorem dX10_takesNumber_106 : decode cX10_takesNumber 106 = .ok (.goto (-74), 3) := by decide +kernel
theorem dX10_takesNumber_109 : decode cX10_takesNumber 109 = .ok (.aload_n 0, 1) := by decide +kernel
theorem dX10_takesNumber_110 : decode cX10_takesNumber 110 = .ok (.getfield 114, 3) := by decide +kernel
theorem dX10_takesNumber_113 : decode cX10_takesNumber 113 = .ok (.aload_n 0, 1) := by decide +kernel
theorem dX10_takesNumber_114 : decode cX10_takesNumber 114 = .ok (.getfield 121, 3) := by decide +kernel
theorem dX10_takesNumber_117 : decode cX10_takesNumber 117 = .ok (.isub, 1) := by decide +kernel
theorem dX10_takesNumber_118 : decode cX10_takesNumber 118 = .ok (.iconst 4, 1) := by decide +kernel
theorem dX10_takesNumber_119 : decode cX10_takesNumber 119 = .ok (.if_icmp .ge 18, 3) := by decide +kernel
theorem dX10_takesNumber_122 : decode cX10_takesNumber 122 = .ok (.aload_n 0, 1) := by decide +kernel
theorem dX10_takesNumber_123 : decode cX10_takesNumber 123 = .ok (.getfield 139, 3) := by decide +kernel
theorem dX10_takesNumber_126 : decode cX10_takesNumber 126 = .ok (.i2l, 1) := by decide +kernel
theorem dX10_takesNumber_127 : decode cX10_takesNumber 127 = .ok (.iload_n 1, 1) := by decide +kernel
theorem dX10_takesNumber_128 : decode cX10_takesNumber 128 = .ok (.i2l, 1) := by decide +kernel
theorem dX10_takesNumber_129 : decode cX10_takesNumber 129 = .ok (.iload_n 2, 1) := by decide +kernel
theorem dX10_takesNumber_130 : decode cX10_takesNumber 130 = .ok (.i2l, 1) := by decide +kernel
theorem dX10_takesNumber_131 : decode cX10_takesNumber 131 = .ok (.invokestatic 93, 3) := by decide +kernel
theorem dX10_takesNumber_134 : decode cX10_takesNumber 134 = .ok (.ifCond .ne 15, 3) := by decide +kernel
theorem dX10_takesNumber_137 : decode cX10_takesNumber 137 = .ok (.aload_n 0, 1) := by decide +kernel
theorem dX10_takesNumber_138 : decode cX10_takesNumber 138 = .ok (.iconst 2, 1) := by decide +kernel
theorem dX10_takesNumber_139 : decode cX10_takesNumber 139 = .ok (.aload_n 0, 1) := by decide +kernel
theorem dX10_takesNumber_140 : decode cX10_takesNumber 140 = .ok (.getfield 121, 3) := by decide +kernel
theorem dX10_takesNumber_143 : decode cX10_takesNumber 143 = .ok (.invokevirtual 131, 3) := by decide +kernel
theorem dX10_takesNumber_146 : decode cX10_takesNumber 146 = .ok (.ifCond .eq 7, 3) := by decide +kernel
theorem dX10_takesNumber_149 : decode cX10_takesNumber 149 = .ok (.iconst 1, 1) := by decide +kernel
theorem dX10_takesNumber_150 : decode cX10_takesNumber 150 = .ok (.goto 4, 3) := by decide +kernel
theorem dX10_takesNumber_153 : decode cX10_takesNumber 153 = .ok (.iconst 0, 1) := by decide +kernel
theorem dX10_takesNumber_154 : decode cX10_takesNumber 154 = .ok (.ireturn, 1) := by decide +kernel
theorem dX10_takesHotel_0 : decode cX10_takesHotel 0 = .ok (.aload_n 0, 1) := by decide +kernel
theorem dX10_takesHotel_1 : decode cX10_takesHotel 1 = .ok (.iconst 1, 1) := by decide +kernel
theorem dX10_takesHotel_2 : decode cX10_takesHotel 2 = .ok (.bipush 8, 2) := by decide +kernel
theorem dX10_takesHotel_4 : decode cX10_takesHotel 4 = .ok (.invokevirtual 142, 3) := by decide +kernel
theorem dX10_takesHotel_7 : decode cX10_takesHotel 7 = .ok (.ifCond .ne 5, 3) := by decide +kernel
theorem dX10_takesHotel_10 : decode cX10_takesHotel 10 = .ok (.iconst 0, 1) := by decide +kernel
theorem dX10_takesHotel_11 : decode cX10_takesHotel 11 = .ok (.ireturn, 1) := by decide +kernel
theorem dX10_takesHotel_12 : decode cX10_takesHotel 12 = .ok (.aload_n 0, 1) := by decide +kernel
theorem dX10_takesHotel_13 : decode cX10_takesHotel 13 = .ok (.aload_n 0, 1) := by decide +kernel
theorem dX10_takesHotel_14 : decode cX10_takesHotel 14 = .ok (.getfield 139, 3) := by decide +kernel
theorem dX10_takesHotel_17 : decode cX10_takesHotel 17 = .ok (.putfield 145, 3) := by decide +kernel
theorem dX10_takesHotel_20 : decode cX10_takesHotel 20 = .ok (.aload_n 0, 1) := by decide +kernel
theorem dX10_takesHotel_21 : decode cX10_takesHotel 21 = .ok (.iconst 0, 1) := by decide +kernel
theorem dX10_takesHotel_22 : decode cX10_takesHotel 22 = .ok (.bipush 99, 2) := by decide +kernel
theorem dX10_takesHotel_24 : decode cX10_takesHotel 24 = .ok (.invokevirtual 142, 3) := by decide +kernel
theorem dX10_takesHotel_27 : decode cX10_takesHotel 27 = .ok (.ifCond .ne 5, 3) := by decide +kernel
theorem dX10_takesHotel_30 : decode cX10_takesHotel 30 = .ok (.iconst 0, 1) := by decide +kernel
theorem dX10_takesHotel_31 : decode cX10_takesHotel 31 = .ok (.ireturn, 1) := by decide +kernel
theorem dX10_takesHotel_32 : decode cX10_takesHotel 32 = .ok (.aload_n 0, 1) := by decide +kernel
theorem dX10_takesHotel_33 : decode cX10_takesHotel 33 = .ok (.aload_n 0, 1) := by decide +kernel
theorem dX10_takesHotel_34 : decode cX10_takesHotel 34 = .ok (.getfield 139, 3) := by decide +kernel
theorem dX10_takesHotel_37 : decode cX10_takesHotel 37 = .ok (.putfield 148, 3) := by decide +kernel
theorem dX10_takesHotel_40 : decode cX10_takesHotel 40 = .ok (.iconst 1, 1) := by decide +kernel
theorem dX10_takesHotel_41 : decode cX10_takesHotel 41 = .ok (.ireturn, 1) := by decide +kernel
theorem dX10_takesPassage_0 : decode cX10_takesPassage 0 = .ok (.aload_n 0, 1) := by decide +kernel
theorem dX10_takesPassage_1 : decode cX10_takesPassage 1 = .ok (.iconst 0, 1) := by decide +kernel
theorem dX10_takesPassage_2 : decode cX10_takesPassage 2 = .ok (.aload_n 0, 1) := by decide +kernel
theorem dX10_takesPassage_3 : decode cX10_takesPassage 3 = .ok (.getfield 145, 3) := by decide +kernel
theorem dX10_takesPassage_6 : decode cX10_takesPassage 6 = .ok (.iconst 1, 1) := by decide +kernel
theorem dX10_takesPassage_7 : decode cX10_takesPassage 7 = .ok (.isub, 1) := by decide +kernel
theorem dX10_takesPassage_8 : decode cX10_takesPassage 8 = .ok (.invokevirtual 142, 3) := by decide +kernel
theorem dX10_takesPassage_11 : decode cX10_takesPassage 11 = .ok (.ifCond .ne 5, 3) := by decide +kernel
theorem dX10_takesPassage_14 : decode cX10_takesPassage 14 = .ok (.iconst 0, 1) := by decide +kernel
theorem dX10_takesPassage_15 : decode cX10_takesPassage 15 = .ok (.ireturn, 1) := by decide +kernel
theorem dX10_takesPassage_16 : decode cX10_takesPassage 16 = .ok (.aload_n 0, 1) := by decide +kernel
theorem dX10_takesPassage_17 : decode cX10_takesPassage 17 = .ok (.getfield 139, 3) := by decide +kernel
theorem dX10_takesPassage_20 : decode cX10_takesPassage 20 = .ok (.istore_n 1, 1) := by decide +kernel
theorem dX10_takesPassage_21 : decode cX10_takesPassage 21 = .ok (.aload_n 0, 1) := by decide +kernel
theorem dX10_takesPassage_22 : decode cX10_takesPassage 22 = .ok (.iconst 0, 1) := by decide +kernel
theorem dX10_takesPassage_23 : decode cX10_takesPassage 23 = .ok (.aload_n 0, 1) := by decide +kernel
theorem dX10_takesPassage_24 : decode cX10_takesPassage 24 = .ok (.getfield 145, 3) := by decide +kernel
theorem dX10_takesPassage_27 : decode cX10_takesPassage 27 = .ok (.iconst 1, 1) := by decide +kernel
theorem dX10_takesPassage_28 : decode cX10_takesPassage 28 = .ok (.isub, 1) := by decide +kernel
theorem dX10_takesPassage_29 : decode cX10_takesPassage 29 = .ok (.invokevirtual 142, 3) := by decide +kernel
theorem dX10_takesPassage_32 : decode cX10_takesPassage 32 = .ok (.ifCond .ne 5, 3) := by decide +kernel
theorem dX10_takesPassage_35 : decode cX10_takesPassage 35 = .ok (.iconst 0, 1) := by decide +kernel
theorem dX10_takesPassage_36 : decode cX10_takesPassage 36 = .ok (.ireturn, 1) := by decide +kernel
theorem dX10_takesPassage_37 : decode cX10_takesPassage 37 = .ok (.aload_n 0, 1) := by decide +kernel
theorem dX10_takesPassage_38 : decode cX10_takesPassage 38 = .ok (.getfield 139, 3) := by decide +kernel
theorem dX10_takesPassage_41 : decode cX10_takesPassage 41 = .ok (.iload_n 1, 1) := by decide +kernel
theorem dX10_takesPassage_42 : decode cX10_takesPassage 42 = .ok (.if_icmp .eq 19, 3) := by decide +kernel
theorem dX10_takesPassage_45 : decode cX10_takesPassage 45 = .ok (.aload_n 0, 1) := by decide +kernel
theorem dX10_takesPassage_46 : decode cX10_takesPassage 46 = .ok (.getfield 42, 3) := by decide +kernel
theorem dX10_takesPassage_49 : decode cX10_takesPassage 49 = .ok (.iload_n 1, 1) := by decide +kernel
theorem dX10_takesPassage_50 : decode cX10_takesPassage 50 = .ok (.iaload, 1) := by decide +kernel
theorem dX10_takesPassage_51 : decode cX10_takesPassage 51 = .ok (.aload_n 0, 1) := by decide +kernel
theorem dX10_takesPassage_52 : decode cX10_takesPassage 52 = .ok (.getfield 139, 3) := by decide +kernel
theorem dX10_takesPassage_55 : decode cX10_takesPassage 55 = .ok (.invokestatic 151, 3) := by decide +kernel
theorem dX10_takesPassage_58 : decode cX10_takesPassage 58 = .ok (.ifCond .eq 13, 3) := by decide +kernel
theorem dX10_takesPassage_61 : decode cX10_takesPassage 61 = .ok (.aload_n 0, 1) := by decide +kernel
theorem dX10_takesPassage_62 : decode cX10_takesPassage 62 = .ok (.iconst 4, 1) := by decide +kernel
theorem dX10_takesPassage_63 : decode cX10_takesPassage 63 = .ok (.aload_n 0, 1) := by decide +kernel
theorem dX10_takesPassage_64 : decode cX10_takesPassage 64 = .ok (.getfield 121, 3) := by decide +kernel
theorem dX10_takesPassage_67 : decode cX10_takesPassage 67 = .ok (.invokevirtual 131, 3) := by decide +kernel
theorem dX10_takesPassage_70 : decode cX10_takesPassage 70 = .ok (.ireturn, 1) := by decide +kernel
theorem dX10_takesPassage_71 : decode cX10_takesPassage 71 = .ok (.aload_n 0, 1) := by decide +kernel
theorem dX10_takesPassage_72 : decode cX10_takesPassage 72 = .ok (.getfield 42, 3) := by decide +kernel
theorem dX10_takesPassage_75 : decode cX10_takesPassage 75 = .ok (.iload_n 1, 1) := by decide +kernel
theorem dX10_takesPassage_76 : decode cX10_takesPassage 76 = .ok (.dup2, 1) := by decide +kernel
theorem dX10_takesPassage_77 : decode cX10_takesPassage 77 = .ok (.iaload, 1) := by decide +kernel
theorem dX10_takesPassage_78 : decode cX10_takesPassage 78 = .ok (.iconst 1, 1) := by decide +kernel
theorem dX10_takesPassage_79 : decode cX10_takesPassage 79 = .ok (.aload_n 0, 1) := by decide +kernel
theorem dX10_takesPassage_80 : decode cX10_takesPassage 80 = .ok (.getfield 139, 3) := by decide +kernel
theorem dX10_takesPassage_83 : decode cX10_takesPassage 83 = .ok (.ishl, 1) := by decide +kernel
theorem dX10_takesPassage_84 : decode cX10_takesPassage 84 = .ok (.ior, 1) := by decide +kernel
theorem dX10_takesPassage_85 : decode cX10_takesPassage 85 = .ok (.iastore, 1) := by decide +kernel
theorem dX10_takesPassage_86 : decode cX10_takesPassage 86 = .ok (.aload_n 0, 1) := by decide +kernel
theorem dX10_takesPassage_87 : decode cX10_takesPassage 87 = .ok (.getfield 42, 3) := by decide +kernel
theorem dX10_takesPassage_90 : decode cX10_takesPassage 90 = .ok (.aload_n 0, 1) := by decide +kernel
theorem dX10_takesPassage_91 : decode cX10_takesPassage 91 = .ok (.getfield 139, 3) := by decide +kernel
theorem dX10_takesPassage_94 : decode cX10_takesPassage 94 = .ok (.dup2, 1) := by decide +kernel
theorem dX10_takesPassage_95 : decode cX10_takesPassage 95 = .ok (.iaload, 1) := by decide +kernel
theorem dX10_takesPassage_96 : decode cX10_takesPassage 96 = .ok (.iconst 1, 1) := by decide +kernel
theorem dX10_takesPassage_97 : decode cX10_takesPassage 97 = .ok (.iload_n 1, 1) := by decide +kernel
theorem dX10_takesPassage_98 : decode cX10_takesPassage 98 = .ok (.ishl, 1) := by decide +kernel
theorem dX10_takesPassage_99 : decode cX10_takesPassage 99 = .ok (.ior, 1) := by decide +kernel
theorem dX10_takesPassage_100 : decode cX10_takesPassage 100 = .ok (.iastore, 1) := by decide +kernel
theorem dX10_takesPassage_101 : decode cX10_takesPassage 101 = .ok (.aload_n 0, 1) := by decide +kernel
theorem dX10_takesPassage_102 : decode cX10_takesPassage 102 = .ok (.dup, 1) := by decide +kernel
theorem dX10_takesPassage_103 : decode cX10_takesPassage 103 = .ok (.getfield 154, 3) := by decide +kernel
theorem dX10_takesPassage_106 : decode cX10_takesPassage 106 = .ok (.iconst 1, 1) := by decide +kernel
theorem dX10_takesPassage_107 : decode cX10_takesPassage 107 = .ok (.iadd, 1) := by decide +kernel
theorem dX10_takesPassage_108 : decode cX10_takesPassage 108 = .ok (.putfield 154, 3) := by decide +kernel
theorem dX10_takesPassage_111 : decode cX10_takesPassage 111 = .ok (.iconst 1, 1) := by decide +kernel
theorem dX10_takesPassage_112 : decode cX10_takesPassage 112 = .ok (.ireturn, 1) := by decide +kernel
theorem dX10_takesWaiter_0 : decode cX10_takesWaiter 0 = .ok (.aload_n 0, 1) := by decide +kernel
theorem dX10_takesWaiter_1 : decode cX10_takesWaiter 1 = .ok (.iconst 0, 1) := by decide +kernel
theorem dX10_takesWaiter_2 : decode cX10_takesWaiter 2 = .ok (.aload_n 0, 1) := by decide +kernel
theorem dX10_takesWaiter_3 : decode cX10_takesWaiter 3 = .ok (.getfield 145, 3) := by decide +kernel
theorem dX10_takesWaiter_6 : decode cX10_takesWaiter 6 = .ok (.iconst 1, 1) := by decide +kernel
theorem dX10_takesWaiter_7 : decode cX10_takesWaiter 7 = .ok (.isub, 1) := by decide +kernel
theorem dX10_takesWaiter_8 : decode cX10_takesWaiter 8 = .ok (.invokevirtual 142, 3) := by decide +kernel
theorem dX10_takesWaiter_11 : decode cX10_takesWaiter 11 = .ok (.ifCond .ne 5, 3) := by decide +kernel
theorem dX10_takesWaiter_14 : decode cX10_takesWaiter 14 = .ok (.iconst 0, 1) := by decide +kernel
theorem dX10_takesWaiter_15 : decode cX10_takesWaiter 15 = .ok (.ireturn, 1) := by decide +kernel
theorem dX10_takesWaiter_16 : decode cX10_takesWaiter 16 = .ok (.aload_n 0, 1) := by decide +kernel
theorem dX10_takesWaiter_17 : decode cX10_takesWaiter 17 = .ok (.getfield 45, 3) := by decide +kernel
theorem dX10_takesWaiter_20 : decode cX10_takesWaiter 20 = .ok (.iconst 2, 1) := by decide +kernel
theorem dX10_takesWaiter_21 : decode cX10_takesWaiter 21 = .ok (.aload_n 0, 1) := by decide +kernel
theorem dX10_takesWaiter_22 : decode cX10_takesWaiter 22 = .ok (.getfield 157, 3) := by decide +kernel
theorem dX10_takesWaiter_25 : decode cX10_takesWaiter 25 = .ok (.imul, 1) := by decide +kernel
theorem dX10_takesWaiter_26 : decode cX10_takesWaiter 26 = .ok (.aload_n 0, 1) := by decide +kernel
theorem dX10_takesWaiter_27 : decode cX10_takesWaiter 27 = .ok (.getfield 139, 3) := by decide +kernel
theorem dX10_takesWaiter_30 : decode cX10_takesWaiter 30 = .ok (.iastore, 1) := by decide +kernel
theorem dX10_takesWaiter_31 : decode cX10_takesWaiter 31 = .ok (.aload_n 0, 1) := by decide +kernel
theorem dX10_takesWaiter_32 : decode cX10_takesWaiter 32 = .ok (.iconst 1, 1) := by decide +kernel
theorem dX10_takesWaiter_33 : decode cX10_takesWaiter 33 = .ok (.sipush 999, 3) := by decide +kernel
theorem dX10_takesWaiter_36 : decode cX10_takesWaiter 36 = .ok (.invokevirtual 142, 3) := by decide +kernel
theorem dX10_takesWaiter_39 : decode cX10_takesWaiter 39 = .ok (.ifCond .ne 5, 3) := by decide +kernel
theorem dX10_takesWaiter_42 : decode cX10_takesWaiter 42 = .ok (.iconst 0, 1) := by decide +kernel
theorem dX10_takesWaiter_43 : decode cX10_takesWaiter 43 = .ok (.ireturn, 1) := by decide +kernel
theorem dX10_takesWaiter_44 : decode cX10_takesWaiter 44 = .ok (.aload_n 0, 1) := by decide +kernel
theorem dX10_takesWaiter_45 : decode cX10_takesWaiter 45 = .ok (.getfield 45, 3) := by decide +kernel
theorem dX10_takesWaiter_48 : decode cX10_takesWaiter 48 = .ok (.iconst 2, 1) := by decide +kernel
theorem dX10_takesWaiter_49 : decode cX10_takesWaiter 49 = .ok (.aload_n 0, 1) := by decide +kernel
theorem dX10_takesWaiter_50 : decode cX10_takesWaiter 50 = .ok (.getfield 157, 3) := by decide +kernel
theorem dX10_takesWaiter_53 : decode cX10_takesWaiter 53 = .ok (.imul, 1) := by decide +kernel
theorem dX10_takesWaiter_54 : decode cX10_takesWaiter 54 = .ok (.iconst 1, 1) := by decide +kernel
theorem dX10_takesWaiter_55 : decode cX10_takesWaiter 55 = .ok (.iadd, 1) := by decide +kernel
theorem dX10_takesWaiter_56 : decode cX10_takesWaiter 56 = .ok (.aload_n 0, 1) := by decide +kernel
theorem dX10_takesWaiter_57 : decode cX10_takesWaiter 57 = .ok (.getfield 139, 3) := by decide +kernel
theorem dX10_takesWaiter_60 : decode cX10_takesWaiter 60 = .ok (.iastore, 1) := by decide +kernel
theorem dX10_takesWaiter_61 : decode cX10_takesWaiter 61 = .ok (.aload_n 0, 1) := by decide +kernel
theorem dX10_takesWaiter_62 : decode cX10_takesWaiter 62 = .ok (.dup, 1) := by decide +kernel
theorem dX10_takesWaiter_63 : decode cX10_takesWaiter 63 = .ok (.getfield 157, 3) := by decide +kernel
theorem dX10_takesWaiter_66 : decode cX10_takesWaiter 66 = .ok (.iconst 1, 1) := by decide +kernel
theorem dX10_takesWaiter_67 : decode cX10_takesWaiter 67 = .ok (.iadd, 1) := by decide +kernel
theorem dX10_takesWaiter_68 : decode cX10_takesWaiter 68 = .ok (.putfield 157, 3) := by decide +kernel
theorem dX10_takesWaiter_71 : decode cX10_takesWaiter 71 = .ok (.iconst 1, 1) := by decide +kernel
theorem dX10_takesWaiter_72 : decode cX10_takesWaiter 72 = .ok (.ireturn, 1) := by decide +kernel
theorem dX10_takesThing_0 : decode cX10_takesThing 0 = .ok (.aload_n 0, 1) := by decide +kernel
theorem dX10_takesThing_1 : decode cX10_takesThing 1 = .ok (.iconst 1, 1) := by decide +kernel
theorem dX10_takesThing_2 : decode cX10_takesThing 2 = .ok (.bipush 99, 2) := by decide +kernel
theorem dX10_takesThing_4 : decode cX10_takesThing 4 = .ok (.invokevirtual 142, 3) := by decide +kernel
theorem dX10_takesThing_7 : decode cX10_takesThing 7 = .ok (.ifCond .ne 5, 3) := by decide +kernel
theorem dX10_takesThing_10 : decode cX10_takesThing 10 = .ok (.iconst 0, 1) := by decide +kernel
theorem dX10_takesThing_11 : decode cX10_takesThing 11 = .ok (.ireturn, 1) := by decide +kernel
theorem dX10_takesThing_12 : decode cX10_takesThing 12 = .ok (.aload_n 0, 1) := by decide +kernel
theorem dX10_takesThing_13 : decode cX10_takesThing 13 = .ok (.getfield 48, 3) := by decide +kernel
theorem dX10_takesThing_16 : decode cX10_takesThing 16 = .ok (.iconst 2, 1) := by decide +kernel
theorem dX10_takesThing_17 : decode cX10_takesThing 17 = .ok (.aload_n 0, 1) := by decide +kernel
theorem dX10_takesThing_18 : decode cX10_takesThing 18 = .ok (.getfield 160, 3) := by decide +kernel
theorem dX10_takesThing_21 : decode cX10_takesThing 21 = .ok (.imul, 1) := by decide +kernel
theorem dX10_takesThing_22 : decode cX10_takesThing 22 = .ok (.aload_n 0, 1) := by decide +kernel
theorem dX10_takesThing_23 : decode cX10_takesThing 23 = .ok (.getfield 139, 3) := by decide +kernel
theorem dX10_takesThing_26 : decode cX10_takesThing 26 = .ok (.iastore, 1) := by decide +kernel
theorem dX10_takesThing_27 : decode cX10_takesThing 27 = .ok (.aload_n 0, 1) := by decide +kernel
theorem dX10_takesThing_28 : decode cX10_takesThing 28 = .ok (.iconst 0, 1) := by decide +kernel
theorem dX10_takesThing_29 : decode cX10_takesThing 29 = .ok (.bipush 99, 2) := by decide +kernel
theorem dX10_takesThing_31 : decode cX10_takesThing 31 = .ok (.invokevirtual 142, 3) := by decide +kernel
theorem dX10_takesThing_34 : decode cX10_takesThing 34 = .ok (.ifCond .ne 5, 3) := by decide +kernel
theorem dX10_takesThing_37 : decode cX10_takesThing 37 = .ok (.iconst 0, 1) := by decide +kernel
theorem dX10_takesThing_38 : decode cX10_takesThing 38 = .ok (.ireturn, 1) := by decide +kernel
theorem dX10_takesThing_39 : decode cX10_takesThing 39 = .ok (.aload_n 0, 1) := by decide +kernel
theorem dX10_takesThing_40 : decode cX10_takesThing 40 = .ok (.getfield 48, 3) := by decide +kernel
theorem dX10_takesThing_43 : decode cX10_takesThing 43 = .ok (.iconst 2, 1) := by decide +kernel
theorem dX10_takesThing_44 : decode cX10_takesThing 44 = .ok (.aload_n 0, 1) := by decide +kernel
theorem dX10_takesThing_45 : decode cX10_takesThing 45 = .ok (.getfield 160, 3) := by decide +kernel
theorem dX10_takesThing_48 : decode cX10_takesThing 48 = .ok (.imul, 1) := by decide +kernel
theorem dX10_takesThing_49 : decode cX10_takesThing 49 = .ok (.iconst 1, 1) := by decide +kernel
theorem dX10_takesThing_50 : decode cX10_takesThing 50 = .ok (.iadd, 1) := by decide +kernel
theorem dX10_takesThing_51 : decode cX10_takesThing 51 = .ok (.aload_n 0, 1) := by decide +kernel
theorem dX10_takesThing_52 : decode cX10_takesThing 52 = .ok (.getfield 139, 3) := by decide +kernel
theorem dX10_takesThing_55 : decode cX10_takesThing 55 = .ok (.iastore, 1) := by decide +kernel
theorem dX10_takesThing_56 : decode cX10_takesThing 56 = .ok (.aload_n 0, 1) := by decide +kernel
theorem dX10_takesThing_57 : decode cX10_takesThing 57 = .ok (.dup, 1) := by decide +kernel
theorem dX10_takesThing_58 : decode cX10_takesThing 58 = .ok (.getfield 160, 3) := by decide +kernel
theorem dX10_takesThing_61 : decode cX10_takesThing 61 = .ok (.iconst 1, 1) := by decide +kernel
theorem dX10_takesThing_62 : decode cX10_takesThing 62 = .ok (.iadd, 1) := by decide +kernel
theorem dX10_takesThing_63 : decode cX10_takesThing 63 = .ok (.putfield 160, 3) := by decide +kernel
theorem dX10_takesThing_66 : decode cX10_takesThing 66 = .ok (.iconst 1, 1) := by decide +kernel
theorem dX10_takesThing_67 : decode cX10_takesThing 67 = .ok (.ireturn, 1) := by decide +kernel
theorem dX10_takesOrder_0 : decode cX10_takesOrder 0 = .ok (.aload_n 0, 1) := by decide +kernel
theorem dX10_takesOrder_1 : decode cX10_takesOrder 1 = .ok (.iconst 0, 1) := by decide +kernel
theorem dX10_takesOrder_2 : decode cX10_takesOrder 2 = .ok (.aload_n 0, 1) := by decide +kernel
theorem dX10_takesOrder_3 : decode cX10_takesOrder 3 = .ok (.getfield 145, 3) := by decide +kernel
theorem dX10_takesOrder_6 : decode cX10_takesOrder 6 = .ok (.iconst 1, 1) := by decide +kernel
theorem dX10_takesOrder_7 : decode cX10_takesOrder 7 = .ok (.isub, 1) := by decide +kernel
theorem dX10_takesOrder_8 : decode cX10_takesOrder 8 = .ok (.invokevirtual 142, 3) := by decide +kernel
theorem dX10_takesOrder_11 : decode cX10_takesOrder 11 = .ok (.ifCond .ne 5, 3) := by decide +kernel
theorem dX10_takesOrder_14 : decode cX10_takesOrder 14 = .ok (.iconst 0, 1) := by decide +kernel
theorem dX10_takesOrder_15 : decode cX10_takesOrder 15 = .ok (.ireturn, 1) := by decide +kernel
theorem dX10_takesOrder_16 : decode cX10_takesOrder 16 = .ok (.aload_n 0, 1) := by decide +kernel
theorem dX10_takesOrder_17 : decode cX10_takesOrder 17 = .ok (.getfield 51, 3) := by decide +kernel
theorem dX10_takesOrder_20 : decode cX10_takesOrder 20 = .ok (.iconst 2, 1) := by decide +kernel
theorem dX10_takesOrder_21 : decode cX10_takesOrder 21 = .ok (.aload_n 0, 1) := by decide +kernel
theorem dX10_takesOrder_22 : decode cX10_takesOrder 22 = .ok (.getfield 163, 3) := by decide +kernel
theorem dX10_takesOrder_25 : decode cX10_takesOrder 25 = .ok (.imul, 1) := by decide +kernel
theorem dX10_takesOrder_26 : decode cX10_takesOrder 26 = .ok (.aload_n 0, 1) := by decide +kernel
theorem dX10_takesOrder_27 : decode cX10_takesOrder 27 = .ok (.getfield 139, 3) := by decide +kernel
theorem dX10_takesOrder_30 : decode cX10_takesOrder 30 = .ok (.iastore, 1) := by decide +kernel
theorem dX10_takesOrder_31 : decode cX10_takesOrder 31 = .ok (.aload_n 0, 1) := by decide +kernel
theorem dX10_takesOrder_32 : decode cX10_takesOrder 32 = .ok (.iconst 0, 1) := by decide +kernel
theorem dX10_takesOrder_33 : decode cX10_takesOrder 33 = .ok (.bipush 99, 2) := by decide +kernel
theorem dX10_takesOrder_35 : decode cX10_takesOrder 35 = .ok (.invokevirtual 142, 3) := by decide +kernel
theorem dX10_takesOrder_38 : decode cX10_takesOrder 38 = .ok (.ifCond .ne 5, 3) := by decide +kernel
theorem dX10_takesOrder_41 : decode cX10_takesOrder 41 = .ok (.iconst 0, 1) := by decide +kernel
theorem dX10_takesOrder_42 : decode cX10_takesOrder 42 = .ok (.ireturn, 1) := by decide +kernel
theorem dX10_takesOrder_43 : decode cX10_takesOrder 43 = .ok (.aload_n 0, 1) := by decide +kernel
theorem dX10_takesOrder_44 : decode cX10_takesOrder 44 = .ok (.getfield 51, 3) := by decide +kernel
theorem dX10_takesOrder_47 : decode cX10_takesOrder 47 = .ok (.iconst 2, 1) := by decide +kernel
theorem dX10_takesOrder_48 : decode cX10_takesOrder 48 = .ok (.aload_n 0, 1) := by decide +kernel
theorem dX10_takesOrder_49 : decode cX10_takesOrder 49 = .ok (.getfield 163, 3) := by decide +kernel
theorem dX10_takesOrder_52 : decode cX10_takesOrder 52 = .ok (.imul, 1) := by decide +kernel
theorem dX10_takesOrder_53 : decode cX10_takesOrder 53 = .ok (.iconst 1, 1) := by decide +kernel
theorem dX10_takesOrder_54 : decode cX10_takesOrder 54 = .ok (.iadd, 1) := by decide +kernel
theorem dX10_takesOrder_55 : decode cX10_takesOrder 55 = .ok (.aload_n 0, 1) := by decide +kernel
theorem dX10_takesOrder_56 : decode cX10_takesOrder 56 = .ok (.getfield 139, 3) := by decide +kernel
theorem dX10_takesOrder_59 : decode cX10_takesOrder 59 = .ok (.iastore, 1) := by decide +kernel
theorem dX10_takesOrder_60 : decode cX10_takesOrder 60 = .ok (.aload_n 0, 1) := by decide +kernel
theorem dX10_takesOrder_61 : decode cX10_takesOrder 61 = .ok (.dup, 1) := by decide +kernel
theorem dX10_takesOrder_62 : decode cX10_takesOrder 62 = .ok (.getfield 163, 3) := by decide +kernel
theorem dX10_takesOrder_65 : decode cX10_takesOrder 65 = .ok (.iconst 1, 1) := by decide +kernel
theorem dX10_takesOrder_66 : decode cX10_takesOrder 66 = .ok (.iadd, 1) := by decide +kernel
theorem dX10_takesOrder_67 : decode cX10_takesOrder 67 = .ok (.putfield 163, 3) := by decide +kernel
theorem dX10_takesOrder_70 : decode cX10_takesOrder 70 = .ok (.iconst 1, 1) := by decide +kernel
theorem dX10_takesOrder_71 : decode cX10_takesOrder 71 = .ok (.ireturn, 1) := by decide +kernel
theorem dX10_takesWords_0 : decode cX10_takesWords 0 = .ok (.iload_n 1, 1) := by decide +kernel
theorem dX10_takesWords_1 : decode cX10_takesWords 1 = .ok (.lookupswitch 63 #[(104, 43), (112, 48), (116, 58), (119, 53)], 43) := by decide +kernel
theorem dX10_takesWords_44 : decode cX10_takesWords 44 = .ok (.aload_n 0, 1) := by decide +kernel
theorem dX10_takesWords_45 : decode cX10_takesWords 45 = .ok (.invokevirtual 166, 3) := by decide +kernel
theorem dX10_takesWords_48 : decode cX10_takesWords 48 = .ok (.ireturn, 1) := by decide +kernel
theorem dX10_takesWords_49 : decode cX10_takesWords 49 = .ok (.aload_n 0, 1) := by decide +kernel
theorem dX10_takesWords_50 : decode cX10_takesWords 50 = .ok (.invokevirtual 170, 3) := by decide +kernel
theorem dX10_takesWords_53 : decode cX10_takesWords 53 = .ok (.ireturn, 1) := by decide +kernel
theorem dX10_takesWords_54 : decode cX10_takesWords 54 = .ok (.aload_n 0, 1) := by decide +kernel
theorem dX10_takesWords_55 : decode cX10_takesWords 55 = .ok (.invokevirtual 173, 3) := by decide +kernel
theorem dX10_takesWords_58 : decode cX10_takesWords 58 = .ok (.ireturn, 1) := by decide +kernel
theorem dX10_takesWords_59 : decode cX10_takesWords 59 = .ok (.aload_n 0, 1) := by decide +kernel
theorem dX10_takesWords_60 : decode cX10_takesWords 60 = .ok (.invokevirtual 176, 3) := by decide +kernel
theorem dX10_takesWords_63 : decode cX10_takesWords 63 = .ok (.ireturn, 1) := by decide +kernel
theorem dX10_takesWords_64 : decode cX10_takesWords 64 = .ok (.aload_n 0, 1) := by decide +kernel
theorem dX10_takesWords_65 : decode cX10_takesWords 65 = .ok (.invokevirtual 179, 3) := by decide +kernel
theorem dX10_takesWords_68 : decode cX10_takesWords 68 = .ok (.ireturn, 1) := by decide +kernel
theorem dX10_takesClause_0 : decode cX10_takesClause 0 = .ok (.aload_n 0, 1) := by decide +kernel
theorem dX10_takesClause_1 : decode cX10_takesClause 1 = .ok (.invokevirtual 127, 3) := by decide +kernel
theorem dX10_takesClause_4 : decode cX10_takesClause 4 = .ok (.istore_n 1, 1) := by decide +kernel
theorem dX10_takesClause_5 : decode cX10_takesClause 5 = .ok (.iload_n 1, 1) := by decide +kernel
theorem dX10_takesClause_6 : decode cX10_takesClause 6 = .ok (.bipush 104, 2) := by decide +kernel
theorem dX10_takesClause_8 : decode cX10_takesClause 8 = .ok (.if_icmp .eq 34, 3) := by decide +kernel
theorem dX10_takesClause_11 : decode cX10_takesClause 11 = .ok (.aload_n 0, 1) := by decide +kernel
theorem dX10_takesClause_12 : decode cX10_takesClause 12 = .ok (.getfield 145, 3) := by decide +kernel
theorem dX10_takesClause_15 : decode cX10_takesClause 15 = .ok (.ifCond .le 31, 3) := by decide +kernel
theorem dX10_takesClause_18 : decode cX10_takesClause 18 = .ok (.iload_n 1, 1) := by decide +kernel
theorem dX10_takesClause_19 : decode cX10_takesClause 19 = .ok (.bipush 112, 2) := by decide +kernel
theorem dX10_takesClause_21 : decode cX10_takesClause 21 = .ok (.if_icmp .eq 21, 3) := by decide +kernel
theorem dX10_takesClause_24 : decode cX10_takesClause 24 = .ok (.iload_n 1, 1) := by decide +kernel
theorem dX10_takesClause_25 : decode cX10_takesClause 25 = .ok (.bipush 119, 2) := by decide +kernel
theorem dX10_takesClause_27 : decode cX10_takesClause 27 = .ok (.if_icmp .eq 15, 3) := by decide +kernel
theorem dX10_takesClause_30 : decode cX10_takesClause 30 = .ok (.iload_n 1, 1) := by decide +kernel
theorem dX10_takesClause_31 : decode cX10_takesClause 31 = .ok (.bipush 116, 2) := by decide +kernel
theorem dX10_takesClause_33 : decode cX10_takesClause 33 = .ok (.if_icmp .eq 9, 3) := by decide +kernel
theorem dX10_takesClause_36 : decode cX10_takesClause 36 = .ok (.iload_n 1, 1) := by decide +kernel
theorem dX10_takesClause_37 : decode cX10_takesClause 37 = .ok (.bipush 111, 2) := by decide +kernel
theorem dX10_takesClause_39 : decode cX10_takesClause 39 = .ok (.if_icmp .ne 7, 3) := by decide +kernel
theorem dX10_takesClause_42 : decode cX10_takesClause 42 = .ok (.iconst 1, 1) := by decide +kernel
theorem dX10_takesClause_43 : decode cX10_takesClause 43 = .ok (.goto 4, 3) := by decide +kernel
theorem dX10_takesClause_46 : decode cX10_takesClause 46 = .ok (.iconst 0, 1) := by decide +kernel
theorem dX10_takesClause_47 : decode cX10_takesClause 47 = .ok (.istore_n 2, 1) := by decide +kernel
theorem dX10_takesClause_48 : decode cX10_takesClause 48 = .ok (.iload_n 2, 1) := by decide +kernel
theorem dX10_takesClause_49 : decode cX10_takesClause 49 = .ok (.ifCond .ne 13, 3) := by decide +kernel
theorem dX10_takesClause_52 : decode cX10_takesClause 52 = .ok (.aload_n 0, 1) := by decide +kernel
theorem dX10_takesClause_53 : decode cX10_takesClause 53 = .ok (.iconst 1, 1) := by decide +kernel
theorem dX10_takesClause_54 : decode cX10_takesClause 54 = .ok (.aload_n 0, 1) := by decide +kernel
theorem dX10_takesClause_55 : decode cX10_takesClause 55 = .ok (.getfield 121, 3) := by decide +kernel
theorem dX10_takesClause_58 : decode cX10_takesClause 58 = .ok (.invokevirtual 131, 3) := by decide +kernel
theorem dX10_takesClause_61 : decode cX10_takesClause 61 = .ok (.ireturn, 1) := by decide +kernel
theorem dX10_takesClause_62 : decode cX10_takesClause 62 = .ok (.iload_n 1, 1) := by decide +kernel
theorem dX10_takesClause_63 : decode cX10_takesClause 63 = .ok (.bipush 104, 2) := by decide +kernel
theorem dX10_takesClause_65 : decode cX10_takesClause 65 = .ok (.if_icmp .ne 18, 3) := by decide +kernel
theorem dX10_takesClause_68 : decode cX10_takesClause 68 = .ok (.aload_n 0, 1) := by decide +kernel
theorem dX10_takesClause_69 : decode cX10_takesClause 69 = .ok (.getfield 145, 3) := by decide +kernel
theorem dX10_takesClause_72 : decode cX10_takesClause 72 = .ok (.ifCond .le 7, 3) := by decide +kernel
theorem dX10_takesClause_75 : decode cX10_takesClause 75 = .ok (.iconst 1, 1) := by decide +kernel
theorem dX10_takesClause_76 : decode cX10_takesClause 76 = .ok (.goto 88, 3) := by decide +kernel
theorem dX10_takesClause_79 : decode cX10_takesClause 79 = .ok (.iconst 0, 1) := by decide +kernel
theorem dX10_takesClause_80 : decode cX10_takesClause 80 = .ok (.goto 84, 3) := by decide +kernel
theorem dX10_takesClause_83 : decode cX10_takesClause 83 = .ok (.iload_n 1, 1) := by decide +kernel
theorem dX10_takesClause_84 : decode cX10_takesClause 84 = .ok (.bipush 112, 2) := by decide +kernel
theorem dX10_takesClause_86 : decode cX10_takesClause 86 = .ok (.if_icmp .ne 20, 3) := by decide +kernel
theorem dX10_takesClause_89 : decode cX10_takesClause 89 = .ok (.aload_n 0, 1) := by decide +kernel
theorem dX10_takesClause_90 : decode cX10_takesClause 90 = .ok (.getfield 154, 3) := by decide +kernel
theorem dX10_takesClause_93 : decode cX10_takesClause 93 = .ok (.bipush 12, 2) := by decide +kernel
theorem dX10_takesClause_95 : decode cX10_takesClause 95 = .ok (.if_icmp .ne 7, 3) := by decide +kernel
theorem dX10_takesClause_98 : decode cX10_takesClause 98 = .ok (.iconst 1, 1) := by decide +kernel
theorem dX10_takesClause_99 : decode cX10_takesClause 99 = .ok (.goto 65, 3) := by decide +kernel
theorem dX10_takesClause_102 : decode cX10_takesClause 102 = .ok (.iconst 0, 1) := by decide +kernel
theorem dX10_takesClause_103 : decode cX10_takesClause 103 = .ok (.goto 61, 3) := by decide +kernel
theorem dX10_takesClause_106 : decode cX10_takesClause 106 = .ok (.iload_n 1, 1) := by decide +kernel
theorem dX10_takesClause_107 : decode cX10_takesClause 107 = .ok (.bipush 119, 2) := by decide +kernel
theorem dX10_takesClause_109 : decode cX10_takesClause 109 = .ok (.if_icmp .ne 19, 3) := by decide +kernel
theorem dX10_takesClause_112 : decode cX10_takesClause 112 = .ok (.aload_n 0, 1) := by decide +kernel
theorem dX10_takesClause_113 : decode cX10_takesClause 113 = .ok (.getfield 157, 3) := by decide +kernel
theorem dX10_takesClause_116 : decode cX10_takesClause 116 = .ok (.iconst 4, 1) := by decide +kernel
theorem dX10_takesClause_117 : decode cX10_takesClause 117 = .ok (.if_icmp .ne 7, 3) := by decide +kernel
theorem dX10_takesClause_120 : decode cX10_takesClause 120 = .ok (.iconst 1, 1) := by decide +kernel
theorem dX10_takesClause_121 : decode cX10_takesClause 121 = .ok (.goto 43, 3) := by decide +kernel
theorem dX10_takesClause_124 : decode cX10_takesClause 124 = .ok (.iconst 0, 1) := by decide +kernel
theorem dX10_takesClause_125 : decode cX10_takesClause 125 = .ok (.goto 39, 3) := by decide +kernel
theorem dX10_takesClause_128 : decode cX10_takesClause 128 = .ok (.iload_n 1, 1) := by decide +kernel
theorem dX10_takesClause_129 : decode cX10_takesClause 129 = .ok (.bipush 116, 2) := by decide +kernel
theorem dX10_takesClause_131 : decode cX10_takesClause 131 = .ok (.if_icmp .ne 20, 3) := by decide +kernel
theorem dX10_takesClause_134 : decode cX10_takesClause 134 = .ok (.aload_n 0, 1) := by decide +kernel
theorem dX10_takesClause_135 : decode cX10_takesClause 135 = .ok (.getfield 160, 3) := by decide +kernel
theorem dX10_takesClause_138 : decode cX10_takesClause 138 = .ok (.bipush 8, 2) := by decide +kernel
theorem dX10_takesClause_140 : decode cX10_takesClause 140 = .ok (.if_icmp .ne 7, 3) := by decide +kernel
theorem dX10_takesClause_143 : decode cX10_takesClause 143 = .ok (.iconst 1, 1) := by decide +kernel
theorem dX10_takesClause_144 : decode cX10_takesClause 144 = .ok (.goto 20, 3) := by decide +kernel
theorem dX10_takesClause_147 : decode cX10_takesClause 147 = .ok (.iconst 0, 1) := by decide +kernel
theorem dX10_takesClause_148 : decode cX10_takesClause 148 = .ok (.goto 16, 3) := by decide +kernel
theorem dX10_takesClause_151 : decode cX10_takesClause 151 = .ok (.aload_n 0, 1) := by decide +kernel
theorem dX10_takesClause_152 : decode cX10_takesClause 152 = .ok (.getfield 163, 3) := by decide +kernel
theorem dX10_takesClause_155 : decode cX10_takesClause 155 = .ok (.iconst 4, 1) := by decide +kernel
theorem dX10_takesClause_156 : decode cX10_takesClause 156 = .ok (.if_icmp .ne 7, 3) := by decide +kernel
theorem dX10_takesClause_159 : decode cX10_takesClause 159 = .ok (.iconst 1, 1) := by decide +kernel
theorem dX10_takesClause_160 : decode cX10_takesClause 160 = .ok (.goto 4, 3) := by decide +kernel
theorem dX10_takesClause_163 : decode cX10_takesClause 163 = .ok (.iconst 0, 1) := by decide +kernel
theorem dX10_takesClause_164 : decode cX10_takesClause 164 = .ok (.istore_n 3, 1) := by decide +kernel
theorem dX10_takesClause_165 : decode cX10_takesClause 165 = .ok (.iload_n 3, 1) := by decide +kernel
theorem dX10_takesClause_166 : decode cX10_takesClause 166 = .ok (.ifCond .eq 13, 3) := by decide +kernel
theorem dX10_takesClause_169 : decode cX10_takesClause 169 = .ok (.aload_n 0, 1) := by decide +kernel
theorem dX10_takesClause_170 : decode cX10_takesClause 170 = .ok (.iconst 3, 1) := by decide +kernel
theorem dX10_takesClause_171 : decode cX10_takesClause 171 = .ok (.aload_n 0, 1) := by decide +kernel
theorem dX10_takesClause_172 : decode cX10_takesClause 172 = .ok (.getfield 121, 3) := by decide +kernel
theorem dX10_takesClause_175 : decode cX10_takesClause 175 = .ok (.invokevirtual 131, 3) := by decide +kernel
theorem dX10_takesClause_178 : decode cX10_takesClause 178 = .ok (.ireturn, 1) := by decide +kernel
theorem dX10_takesClause_179 : decode cX10_takesClause 179 = .ok (.aload_n 0, 1) := by decide +kernel
theorem dX10_takesClause_180 : decode cX10_takesClause 180 = .ok (.dup, 1) := by decide +kernel
theorem dX10_takesClause_181 : decode cX10_takesClause 181 = .ok (.getfield 114, 3) := by decide +kernel
theorem dX10_takesClause_184 : decode cX10_takesClause 184 = .ok (.iconst 1, 1) := by decide +kernel
theorem dX10_takesClause_185 : decode cX10_takesClause 185 = .ok (.iadd, 1) := by decide +kernel
theorem dX10_takesClause_186 : decode cX10_takesClause 186 = .ok (.putfield 114, 3) := by decide +kernel
theorem dX10_takesClause_189 : decode cX10_takesClause 189 = .ok (.aload_n 0, 1) := by decide +kernel
theorem dX10_takesClause_190 : decode cX10_takesClause 190 = .ok (.iload_n 1, 1) := by decide +kernel
theorem dX10_takesClause_191 : decode cX10_takesClause 191 = .ok (.invokevirtual 182, 3) := by decide +kernel
theorem dX10_takesClause_194 : decode cX10_takesClause 194 = .ok (.ifCond .eq 16, 3) := by decide +kernel
theorem dX10_takesClause_197 : decode cX10_takesClause 197 = .ok (.aload_n 0, 1) := by decide +kernel
theorem dX10_takesClause_198 : decode cX10_takesClause 198 = .ok (.bipush 59, 2) := by decide +kernel
theorem dX10_takesClause_200 : decode cX10_takesClause 200 = .ok (.invokevirtual 185, 3) := by decide +kernel
theorem dX10_takesClause_203 : decode cX10_takesClause 203 = .ok (.ifCond .eq 7, 3) := by decide +kernel
theorem dX10_takesClause_206 : decode cX10_takesClause 206 = .ok (.iconst 1, 1) := by decide +kernel
theorem dX10_takesClause_207 : decode cX10_takesClause 207 = .ok (.goto 4, 3) := by decide +kernel
theorem dX10_takesClause_210 : decode cX10_takesClause 210 = .ok (.iconst 0, 1) := by decide +kernel
theorem dX10_takesClause_211 : decode cX10_takesClause 211 = .ok (.ireturn, 1) := by decide +kernel
theorem dX10_hotel_0 : decode cX10_hotel 0 = .ok (.aload_n 0, 1) := by decide +kernel
theorem dX10_hotel_1 : decode cX10_hotel 1 = .ok (.iconst 0, 1) := by decide +kernel
theorem dX10_hotel_2 : decode cX10_hotel 2 = .ok (.putfield 114, 3) := by decide +kernel
theorem dX10_hotel_5 : decode cX10_hotel 5 = .ok (.aload_n 0, 1) := by decide +kernel
theorem dX10_hotel_6 : decode cX10_hotel 6 = .ok (.iconst 0, 1) := by decide +kernel
theorem dX10_hotel_7 : decode cX10_hotel 7 = .ok (.putfield 124, 3) := by decide +kernel
theorem dX10_hotel_10 : decode cX10_hotel 10 = .ok (.aload_n 0, 1) := by decide +kernel
theorem dX10_hotel_11 : decode cX10_hotel 11 = .ok (.iconst (-1), 1) := by decide +kernel
theorem dX10_hotel_12 : decode cX10_hotel 12 = .ok (.putfield 38, 3) := by decide +kernel
theorem dX10_hotel_15 : decode cX10_hotel 15 = .ok (.aload_n 0, 1) := by decide +kernel
theorem dX10_hotel_16 : decode cX10_hotel 16 = .ok (.iconst 0, 1) := by decide +kernel
theorem dX10_hotel_17 : decode cX10_hotel 17 = .ok (.putfield 145, 3) := by decide +kernel
theorem dX10_hotel_20 : decode cX10_hotel 20 = .ok (.aload_n 0, 1) := by decide +kernel
theorem dX10_hotel_21 : decode cX10_hotel 21 = .ok (.iconst 0, 1) := by decide +kernel
theorem dX10_hotel_22 : decode cX10_hotel 22 = .ok (.putfield 148, 3) := by decide +kernel
theorem dX10_hotel_25 : decode cX10_hotel 25 = .ok (.aload_n 0, 1) := by decide +kernel
theorem dX10_hotel_26 : decode cX10_hotel 26 = .ok (.iconst 0, 1) := by decide +kernel
theorem dX10_hotel_27 : decode cX10_hotel 27 = .ok (.putfield 154, 3) := by decide +kernel
theorem dX10_hotel_30 : decode cX10_hotel 30 = .ok (.aload_n 0, 1) := by decide +kernel
theorem dX10_hotel_31 : decode cX10_hotel 31 = .ok (.iconst 0, 1) := by decide +kernel
theorem dX10_hotel_32 : decode cX10_hotel 32 = .ok (.putfield 157, 3) := by decide +kernel
theorem dX10_hotel_35 : decode cX10_hotel 35 = .ok (.aload_n 0, 1) := by decide +kernel
theorem dX10_hotel_36 : decode cX10_hotel 36 = .ok (.iconst 0, 1) := by decide +kernel
theorem dX10_hotel_37 : decode cX10_hotel 37 = .ok (.putfield 160, 3) := by decide +kernel
theorem dX10_hotel_40 : decode cX10_hotel 40 = .ok (.aload_n 0, 1) := by decide +kernel
theorem dX10_hotel_41 : decode cX10_hotel 41 = .ok (.iconst 0, 1) := by decide +kernel
theorem dX10_hotel_42 : decode cX10_hotel 42 = .ok (.putfield 163, 3) := by decide +kernel
theorem dX10_hotel_45 : decode cX10_hotel 45 = .ok (.iconst 0, 1) := by decide +kernel
theorem dX10_hotel_46 : decode cX10_hotel 46 = .ok (.istore_n 1, 1) := by decide +kernel
theorem dX10_hotel_47 : decode cX10_hotel 47 = .ok (.iload_n 1, 1) := by decide +kernel
theorem dX10_hotel_48 : decode cX10_hotel 48 = .ok (.bipush 8, 2) := by decide +kernel
theorem dX10_hotel_50 : decode cX10_hotel 50 = .ok (.if_icmp .ge 16, 3) := by decide +kernel
theorem dX10_hotel_53 : decode cX10_hotel 53 = .ok (.aload_n 0, 1) := by decide +kernel
theorem dX10_hotel_54 : decode cX10_hotel 54 = .ok (.getfield 42, 3) := by decide +kernel
theorem dX10_hotel_57 : decode cX10_hotel 57 = .ok (.iload_n 1, 1) := by decide +kernel
theorem dX10_hotel_58 : decode cX10_hotel 58 = .ok (.iconst 0, 1) := by decide +kernel
theorem dX10_hotel_59 : decode cX10_hotel 59 = .ok (.iastore, 1) := by decide +kernel
theorem dX10_hotel_60 : decode cX10_hotel 60 = .ok (.iinc 1 1, 3) := by decide +kernel
theorem dX10_hotel_63 : decode cX10_hotel 63 = .ok (.goto (-16), 3) := by decide +kernel
theorem dX10_hotel_66 : decode cX10_hotel 66 = .ok (.iconst 1, 1) := by decide +kernel
theorem dX10_hotel_67 : decode cX10_hotel 67 = .ok (.istore_n 1, 1) := by decide +kernel
theorem dX10_hotel_68 : decode cX10_hotel 68 = .ok (.iload_n 1, 1) := by decide +kernel
theorem dX10_hotel_69 : decode cX10_hotel 69 = .ok (.ifCond .eq 19, 3) := by decide +kernel
theorem dX10_hotel_72 : decode cX10_hotel 72 = .ok (.aload_n 0, 1) := by decide +kernel
theorem dX10_hotel_73 : decode cX10_hotel 73 = .ok (.invokevirtual 127, 3) := by decide +kernel
theorem dX10_hotel_76 : decode cX10_hotel 76 = .ok (.iconst (-1), 1) := by decide +kernel
theorem dX10_hotel_77 : decode cX10_hotel 77 = .ok (.if_icmp .eq 11, 3) := by decide +kernel
theorem dX10_hotel_80 : decode cX10_hotel 80 = .ok (.aload_n 0, 1) := by decide +kernel
theorem dX10_hotel_81 : decode cX10_hotel 81 = .ok (.invokevirtual 188, 3) := by decide +kernel
theorem dX10_hotel_84 : decode cX10_hotel 84 = .ok (.istore_n 1, 1) := by decide +kernel
theorem dX10_hotel_85 : decode cX10_hotel 85 = .ok (.goto (-17), 3) := by decide +kernel
theorem dX10_hotel_88 : decode cX10_hotel 88 = .ok (.aload_n 0, 1) := by decide +kernel
theorem dX10_hotel_89 : decode cX10_hotel 89 = .ok (.iconst 0, 1) := by decide +kernel
theorem dX10_hotel_90 : decode cX10_hotel 90 = .ok (.putfield 110, 3) := by decide +kernel
theorem dX10_hotel_93 : decode cX10_hotel 93 = .ok (.iload_n 1, 1) := by decide +kernel
theorem dX10_hotel_94 : decode cX10_hotel 94 = .ok (.ifCond .ne 11, 3) := by decide +kernel
theorem dX10_hotel_97 : decode cX10_hotel 97 = .ok (.bipush (-10), 2) := by decide +kernel
theorem dX10_hotel_99 : decode cX10_hotel 99 = .ok (.aload_n 0, 1) := by decide +kernel
theorem dX10_hotel_100 : decode cX10_hotel 100 = .ok (.getfield 124, 3) := by decide +kernel
theorem dX10_hotel_103 : decode cX10_hotel 103 = .ok (.isub, 1) := by decide +kernel
theorem dX10_hotel_104 : decode cX10_hotel 104 = .ok (.ireturn, 1) := by decide +kernel
theorem dX10_hotel_105 : decode cX10_hotel 105 = .ok (.aload_n 0, 1) := by decide +kernel
theorem dX10_hotel_106 : decode cX10_hotel 106 = .ok (.getfield 7, 3) := by decide +kernel
theorem dX10_hotel_109 : decode cX10_hotel 109 = .ok (.bipush 58, 2) := by decide +kernel
theorem dX10_hotel_111 : decode cX10_hotel 111 = .ok (.iaload, 1) := by decide +kernel
theorem dX10_hotel_112 : decode cX10_hotel 112 = .ok (.istore_n 2, 1) := by decide +kernel
theorem dX10_hotel_113 : decode cX10_hotel 113 = .ok (.iconst 0, 1) := by decide +kernel
theorem dX10_hotel_114 : decode cX10_hotel 114 = .ok (.istore_n 3, 1) := by decide +kernel
theorem dX10_hotel_115 : decode cX10_hotel 115 = .ok (.iload_n 3, 1) := by decide +kernel
theorem dX10_hotel_116 : decode cX10_hotel 116 = .ok (.bipush 59, 2) := by decide +kernel
theorem dX10_hotel_118 : decode cX10_hotel 118 = .ok (.if_icmp .ge 16, 3) := by decide +kernel
theorem dX10_hotel_121 : decode cX10_hotel 121 = .ok (.aload_n 0, 1) := by decide +kernel
theorem dX10_hotel_122 : decode cX10_hotel 122 = .ok (.getfield 7, 3) := by decide +kernel
theorem dX10_hotel_125 : decode cX10_hotel 125 = .ok (.iload_n 3, 1) := by decide +kernel
theorem dX10_hotel_126 : decode cX10_hotel 126 = .ok (.iconst 0, 1) := by decide +kernel
theorem dX10_hotel_127 : decode cX10_hotel 127 = .ok (.iastore, 1) := by decide +kernel
theorem dX10_hotel_128 : decode cX10_hotel 128 = .ok (.iinc 3 1, 3) := by decide +kernel
theorem dX10_hotel_131 : decode cX10_hotel 131 = .ok (.goto (-16), 3) := by decide +kernel
theorem dX10_hotel_134 : decode cX10_hotel 134 = .ok (.aload_n 0, 1) := by decide +kernel
theorem dX10_hotel_135 : decode cX10_hotel 135 = .ok (.getfield 7, 3) := by decide +kernel
theorem dX10_hotel_138 : decode cX10_hotel 138 = .ok (.bipush 58, 2) := by decide +kernel
theorem dX10_hotel_140 : decode cX10_hotel 140 = .ok (.iload_n 2, 1) := by decide +kernel
theorem dX10_hotel_141 : decode cX10_hotel 141 = .ok (.iastore, 1) := by decide +kernel
theorem dX10_hotel_142 : decode cX10_hotel 142 = .ok (.aload_n 0, 1) := by decide +kernel
theorem dX10_hotel_143 : decode cX10_hotel 143 = .ok (.aload_n 0, 1) := by decide +kernel
theorem dX10_hotel_144 : decode cX10_hotel 144 = .ok (.getfield 145, 3) := by decide +kernel
theorem dX10_hotel_147 : decode cX10_hotel 147 = .ok (.putfield 90, 3) := by decide +kernel
theorem dX10_hotel_150 : decode cX10_hotel 150 = .ok (.aload_n 0, 1) := by decide +kernel
theorem dX10_hotel_151 : decode cX10_hotel 151 = .ok (.aload_n 0, 1) := by decide +kernel
theorem dX10_hotel_152 : decode cX10_hotel 152 = .ok (.getfield 148, 3) := by decide +kernel
theorem dX10_hotel_155 : decode cX10_hotel 155 = .ok (.putfield 191, 3) := by decide +kernel
theorem dX10_hotel_158 : decode cX10_hotel 158 = .ok (.aload_n 0, 1) := by decide +kernel
theorem dX10_hotel_159 : decode cX10_hotel 159 = .ok (.aload_n 0, 1) := by decide +kernel
theorem dX10_hotel_160 : decode cX10_hotel 160 = .ok (.getfield 154, 3) := by decide +kernel
theorem dX10_hotel_163 : decode cX10_hotel 163 = .ok (.putfield 194, 3) := by decide +kernel
theorem dX10_hotel_166 : decode cX10_hotel 166 = .ok (.aload_n 0, 1) := by decide +kernel
theorem dX10_hotel_167 : decode cX10_hotel 167 = .ok (.aload_n 0, 1) := by decide +kernel
theorem dX10_hotel_168 : decode cX10_hotel 168 = .ok (.getfield 157, 3) := by decide +kernel
theorem dX10_hotel_171 : decode cX10_hotel 171 = .ok (.putfield 97, 3) := by decide +kernel
theorem dX10_hotel_174 : decode cX10_hotel 174 = .ok (.aload_n 0, 1) := by decide +kernel
theorem dX10_hotel_175 : decode cX10_hotel 175 = .ok (.aload_n 0, 1) := by decide +kernel
theorem dX10_hotel_176 : decode cX10_hotel 176 = .ok (.getfield 160, 3) := by decide +kernel
theorem dX10_hotel_179 : decode cX10_hotel 179 = .ok (.putfield 104, 3) := by decide +kernel
theorem dX10_hotel_182 : decode cX10_hotel 182 = .ok (.aload_n 0, 1) := by decide +kernel
theorem dX10_hotel_183 : decode cX10_hotel 183 = .ok (.aload_n 0, 1) := by decide +kernel
theorem dX10_hotel_184 : decode cX10_hotel 184 = .ok (.getfield 163, 3) := by decide +kernel
theorem dX10_hotel_187 : decode cX10_hotel 187 = .ok (.putfield 197, 3) := by decide +kernel
theorem dX10_hotel_190 : decode cX10_hotel 190 = .ok (.iconst 0, 1) := by decide +kernel
theorem dX10_hotel_191 : decode cX10_hotel 191 = .ok (.istore_n 3, 1) := by decide +kernel
theorem dX10_hotel_192 : decode cX10_hotel 192 = .ok (.iload_n 3, 1) := by decide +kernel
theorem dX10_hotel_193 : decode cX10_hotel 193 = .ok (.bipush 8, 2) := by decide +kernel
theorem dX10_hotel_195 : decode cX10_hotel 195 = .ok (.if_icmp .ge 21, 3) := by decide +kernel
theorem dX10_hotel_198 : decode cX10_hotel 198 = .ok (.aload_n 0, 1) := by decide +kernel
theorem dX10_hotel_199 : decode cX10_hotel 199 = .ok (.getfield 17, 3) := by decide +kernel
theorem dX10_hotel_202 : decode cX10_hotel 202 = .ok (.iload_n 3, 1) := by decide +kernel
theorem dX10_hotel_203 : decode cX10_hotel 203 = .ok (.aload_n 0, 1) := by decide +kernel
theorem dX10_hotel_204 : decode cX10_hotel 204 = .ok (.getfield 42, 3) := by decide +kernel
theorem dX10_hotel_207 : decode cX10_hotel 207 = .ok (.iload_n 3, 1) := by decide +kernel
theorem dX10_hotel_208 : decode cX10_hotel 208 = .ok (.iaload, 1) := by decide +kernel
theorem dX10_hotel_209 : decode cX10_hotel 209 = .ok (.iastore, 1) := by decide +kernel
theorem dX10_hotel_210 : decode cX10_hotel 210 = .ok (.iinc 3 1, 3) := by decide +kernel
theorem dX10_hotel_213 : decode cX10_hotel 213 = .ok (.goto (-21), 3) := by decide +kernel
theorem dX10_hotel_216 : decode cX10_hotel 216 = .ok (.iconst 0, 1) := by decide +kernel
theorem dX10_hotel_217 : decode cX10_hotel 217 = .ok (.istore_n 3, 1) := by decide +kernel
theorem dX10_hotel_218 : decode cX10_hotel 218 = .ok (.iload_n 3, 1) := by decide +kernel
theorem dX10_hotel_219 : decode cX10_hotel 219 = .ok (.aload_n 0, 1) := by decide +kernel
theorem dX10_hotel_220 : decode cX10_hotel 220 = .ok (.getfield 97, 3) := by decide +kernel
theorem dX10_hotel_223 : decode cX10_hotel 223 = .ok (.if_icmp .ge 41, 3) := by decide +kernel
theorem dX10_hotel_226 : decode cX10_hotel 226 = .ok (.aload_n 0, 1) := by decide +kernel
theorem dX10_hotel_227 : decode cX10_hotel 227 = .ok (.getfield 7, 3) := by decide +kernel
theorem dX10_hotel_230 : decode cX10_hotel 230 = .ok (.iconst 2, 1) := by decide +kernel
theorem dX10_hotel_231 : decode cX10_hotel 231 = .ok (.iload_n 3, 1) := by decide +kernel
theorem dX10_hotel_232 : decode cX10_hotel 232 = .ok (.iadd, 1) := by decide +kernel
theorem dX10_hotel_233 : decode cX10_hotel 233 = .ok (.aload_n 0, 1) := by decide +kernel
theorem dX10_hotel_234 : decode cX10_hotel 234 = .ok (.getfield 45, 3) := by decide +kernel
theorem dX10_hotel_237 : decode cX10_hotel 237 = .ok (.iconst 2, 1) := by decide +kernel
theorem dX10_hotel_238 : decode cX10_hotel 238 = .ok (.iload_n 3, 1) := by decide +kernel
theorem dX10_hotel_239 : decode cX10_hotel 239 = .ok (.imul, 1) := by decide +kernel
theorem dX10_hotel_240 : decode cX10_hotel 240 = .ok (.iaload, 1) := by decide +kernel
theorem dX10_hotel_241 : decode cX10_hotel 241 = .ok (.iastore, 1) := by decide +kernel
theorem dX10_hotel_242 : decode cX10_hotel 242 = .ok (.aload_n 0, 1) := by decide +kernel
theorem dX10_hotel_243 : decode cX10_hotel 243 = .ok (.getfield 20, 3) := by decide +kernel
theorem dX10_hotel_246 : decode cX10_hotel 246 = .ok (.iload_n 3, 1) := by decide +kernel
theorem dX10_hotel_247 : decode cX10_hotel 247 = .ok (.aload_n 0, 1) := by decide +kernel
theorem dX10_hotel_248 : decode cX10_hotel 248 = .ok (.getfield 45, 3) := by decide +kernel
theorem dX10_hotel_251 : decode cX10_hotel 251 = .ok (.iconst 2, 1) := by decide +kernel
theorem dX10_hotel_252 : decode cX10_hotel 252 = .ok (.iload_n 3, 1) := by decide +kernel
theorem dX10_hotel_253 : decode cX10_hotel 253 = .ok (.imul, 1) := by decide +kernel
theorem dX10_hotel_254 : decode cX10_hotel 254 = .ok (.iconst 1, 1) := by decide +kernel
theorem dX10_hotel_255 : decode cX10_hotel 255 = .ok (.iadd, 1) := by decide +kernel
theorem dX10_hotel_256 : decode cX10_hotel 256 = .ok (.iaload, 1) := by decide +kernel
theorem dX10_hotel_257 : decode cX10_hotel 257 = .ok (.iastore, 1) := by decide +kernel
theorem dX10_hotel_258 : decode cX10_hotel 258 = .ok (.iinc 3 1, 3) := by decide +kernel
theorem dX10_hotel_261 : decode cX10_hotel 261 = .ok (.goto (-43), 3) := by decide +kernel
theorem dX10_hotel_264 : decode cX10_hotel 264 = .ok (.iconst 0, 1) := by decide +kernel
theorem dX10_hotel_265 : decode cX10_hotel 265 = .ok (.istore_n 3, 1) := by decide +kernel
theorem dX10_hotel_266 : decode cX10_hotel 266 = .ok (.iload_n 3, 1) := by decide +kernel
theorem dX10_hotel_267 : decode cX10_hotel 267 = .ok (.aload_n 0, 1) := by decide +kernel
theorem dX10_hotel_268 : decode cX10_hotel 268 = .ok (.getfield 104, 3) := by decide +kernel
theorem dX10_hotel_271 : decode cX10_hotel 271 = .ok (.if_icmp .ge 49, 3) := by decide +kernel
theorem dX10_hotel_274 : decode cX10_hotel 274 = .ok (.aload_n 0, 1) := by decide +kernel
theorem dX10_hotel_275 : decode cX10_hotel 275 = .ok (.getfield 23, 3) := by decide +kernel
theorem dX10_hotel_278 : decode cX10_hotel 278 = .ok (.iload_n 3, 1) := by decide +kernel
theorem dX10_hotel_279 : decode cX10_hotel 279 = .ok (.aload_n 0, 1) := by decide +kernel
theorem dX10_hotel_280 : decode cX10_hotel 280 = .ok (.getfield 48, 3) := by decide +kernel
theorem dX10_hotel_283 : decode cX10_hotel 283 = .ok (.iconst 2, 1) := by decide +kernel
theorem dX10_hotel_284 : decode cX10_hotel 284 = .ok (.iload_n 3, 1) := by decide +kernel
theorem dX10_hotel_285 : decode cX10_hotel 285 = .ok (.imul, 1) := by decide +kernel
theorem dX10_hotel_286 : decode cX10_hotel 286 = .ok (.iaload, 1) := by decide +kernel
theorem dX10_hotel_287 : decode cX10_hotel 287 = .ok (.iastore, 1) := by decide +kernel
theorem dX10_hotel_288 : decode cX10_hotel 288 = .ok (.aload_n 0, 1) := by decide +kernel
theorem dX10_hotel_289 : decode cX10_hotel 289 = .ok (.getfield 26, 3) := by decide +kernel
theorem dX10_hotel_292 : decode cX10_hotel 292 = .ok (.iload_n 3, 1) := by decide +kernel
theorem dX10_hotel_293 : decode cX10_hotel 293 = .ok (.aload_n 0, 1) := by decide +kernel
theorem dX10_hotel_294 : decode cX10_hotel 294 = .ok (.getfield 48, 3) := by decide +kernel
theorem dX10_hotel_297 : decode cX10_hotel 297 = .ok (.iconst 2, 1) := by decide +kernel
theorem dX10_hotel_298 : decode cX10_hotel 298 = .ok (.iload_n 3, 1) := by decide +kernel
theorem dX10_hotel_299 : decode cX10_hotel 299 = .ok (.imul, 1) := by decide +kernel
theorem dX10_hotel_300 : decode cX10_hotel 300 = .ok (.iconst 1, 1) := by decide +kernel
theorem dX10_hotel_301 : decode cX10_hotel 301 = .ok (.iadd, 1) := by decide +kernel
theorem dX10_hotel_302 : decode cX10_hotel 302 = .ok (.iaload, 1) := by decide +kernel
theorem dX10_hotel_303 : decode cX10_hotel 303 = .ok (.iastore, 1) := by decide +kernel
theorem dX10_hotel_304 : decode cX10_hotel 304 = .ok (.aload_n 0, 1) := by decide +kernel
theorem dX10_hotel_305 : decode cX10_hotel 305 = .ok (.getfield 7, 3) := by decide +kernel
theorem dX10_hotel_308 : decode cX10_hotel 308 = .ok (.bipush 50, 2) := by decide +kernel
theorem dX10_hotel_310 : decode cX10_hotel 310 = .ok (.iload_n 3, 1) := by decide +kernel
theorem dX10_hotel_311 : decode cX10_hotel 311 = .ok (.iadd, 1) := by decide +kernel
theorem dX10_hotel_312 : decode cX10_hotel 312 = .ok (.iconst (-1), 1) := by decide +kernel
theorem dX10_hotel_313 : decode cX10_hotel 313 = .ok (.iastore, 1) := by decide +kernel
theorem dX10_hotel_314 : decode cX10_hotel 314 = .ok (.iinc 3 1, 3) := by decide +kernel
theorem dX10_hotel_317 : decode cX10_hotel 317 = .ok (.goto (-51), 3) := by decide +kernel
theorem dX10_hotel_320 : decode cX10_hotel 320 = .ok (.iconst 0, 1) := by decide +kernel
theorem dX10_hotel_321 : decode cX10_hotel 321 = .ok (.istore_n 3, 1) := by decide +kernel
theorem dX10_hotel_322 : decode cX10_hotel 322 = .ok (.iload_n 3, 1) := by decide +kernel
theorem dX10_hotel_323 : decode cX10_hotel 323 = .ok (.aload_n 0, 1) := by decide +kernel
theorem dX10_hotel_324 : decode cX10_hotel 324 = .ok (.getfield 197, 3) := by decide +kernel
theorem dX10_hotel_327 : decode cX10_hotel 327 = .ok (.if_icmp .ge 39, 3) := by decide +kernel
theorem dX10_hotel_330 : decode cX10_hotel 330 = .ok (.aload_n 0, 1) := by decide +kernel
theorem dX10_hotel_331 : decode cX10_hotel 331 = .ok (.getfield 29, 3) := by decide +kernel
theorem dX10_hotel_334 : decode cX10_hotel 334 = .ok (.iload_n 3, 1) := by decide +kernel
theorem dX10_hotel_335 : decode cX10_hotel 335 = .ok (.aload_n 0, 1) := by decide +kernel
theorem dX10_hotel_336 : decode cX10_hotel 336 = .ok (.getfield 51, 3) := by decide +kernel
theorem dX10_hotel_339 : decode cX10_hotel 339 = .ok (.iconst 2, 1) := by decide +kernel
theorem dX10_hotel_340 : decode cX10_hotel 340 = .ok (.iload_n 3, 1) := by decide +kernel
theorem dX10_hotel_341 : decode cX10_hotel 341 = .ok (.imul, 1) := by decide +kernel
theorem dX10_hotel_342 : decode cX10_hotel 342 = .ok (.iaload, 1) := by decide +kernel
theorem dX10_hotel_343 : decode cX10_hotel 343 = .ok (.iastore, 1) := by decide +kernel
theorem dX10_hotel_344 : decode cX10_hotel 344 = .ok (.aload_n 0, 1) := by decide +kernel
theorem dX10_hotel_345 : decode cX10_hotel 345 = .ok (.getfield 32, 3) := by decide +kernel
theorem dX10_hotel_348 : decode cX10_hotel 348 = .ok (.iload_n 3, 1) := by decide +kernel
theorem dX10_hotel_349 : decode cX10_hotel 349 = .ok (.aload_n 0, 1) := by decide +kernel
theorem dX10_hotel_350 : decode cX10_hotel 350 = .ok (.getfield 51, 3) := by decide +kernel
theorem dX10_hotel_353 : decode cX10_hotel 353 = .ok (.iconst 2, 1) := by decide +kernel
theorem dX10_hotel_354 : decode cX10_hotel 354 = .ok (.iload_n 3, 1) := by decide +kernel
theorem dX10_hotel_355 : decode cX10_hotel 355 = .ok (.imul, 1) := by decide +kernel
theorem dX10_hotel_356 : decode cX10_hotel 356 = .ok (.iconst 1, 1) := by decide +kernel
theorem dX10_hotel_357 : decode cX10_hotel 357 = .ok (.iadd, 1) := by decide +kernel
theorem dX10_hotel_358 : decode cX10_hotel 358 = .ok (.iaload, 1) := by decide +kernel
theorem dX10_hotel_359 : decode cX10_hotel 359 = .ok (.iastore, 1) := by decide +kernel
theorem dX10_hotel_360 : decode cX10_hotel 360 = .ok (.iinc 3 1, 3) := by decide +kernel
theorem dX10_hotel_363 : decode cX10_hotel 363 = .ok (.goto (-41), 3) := by decide +kernel
theorem dX10_hotel_366 : decode cX10_hotel 366 = .ok (.aload_n 0, 1) := by decide +kernel
theorem dX10_hotel_367 : decode cX10_hotel 367 = .ok (.iconst 0, 1) := by decide +kernel
theorem dX10_hotel_368 : decode cX10_hotel 368 = .ok (.putfield 200, 3) := by decide +kernel
theorem dX10_hotel_371 : decode cX10_hotel 371 = .ok (.aload_n 0, 1) := by decide +kernel
theorem dX10_hotel_372 : decode cX10_hotel 372 = .ok (.iconst 0, 1) := by decide +kernel
theorem dX10_hotel_373 : decode cX10_hotel 373 = .ok (.putfield 203, 3) := by decide +kernel
theorem dX10_hotel_376 : decode cX10_hotel 376 = .ok (.aload_n 0, 1) := by decide +kernel
theorem dX10_hotel_377 : decode cX10_hotel 377 = .ok (.iconst 0, 1) := by decide +kernel
theorem dX10_hotel_378 : decode cX10_hotel 378 = .ok (.putfield 206, 3) := by decide +kernel
theorem dX10_hotel_381 : decode cX10_hotel 381 = .ok (.aload_n 0, 1) := by decide +kernel
theorem dX10_hotel_382 : decode cX10_hotel 382 = .ok (.getfield 13, 3) := by decide +kernel
theorem dX10_hotel_385 : decode cX10_hotel 385 = .ok (.iconst 0, 1) := by decide +kernel
theorem dX10_hotel_386 : decode cX10_hotel 386 = .ok (.iconst 0, 1) := by decide +kernel
theorem dX10_hotel_387 : decode cX10_hotel 387 = .ok (.bastore, 1) := by decide +kernel
theorem dX10_hotel_388 : decode cX10_hotel 388 = .ok (.aload_n 0, 1) := by decide +kernel
theorem dX10_hotel_389 : decode cX10_hotel 389 = .ok (.getfield 13, 3) := by decide +kernel
theorem dX10_hotel_392 : decode cX10_hotel 392 = .ok (.iconst 1, 1) := by decide +kernel
theorem dX10_hotel_393 : decode cX10_hotel 393 = .ok (.iconst 0, 1) := by decide +kernel
theorem dX10_hotel_394 : decode cX10_hotel 394 = .ok (.bastore, 1) := by decide +kernel
theorem dX10_hotel_395 : decode cX10_hotel 395 = .ok (.aload_n 0, 1) := by decide +kernel
theorem dX10_hotel_396 : decode cX10_hotel 396 = .ok (.getfield 97, 3) := by decide +kernel
theorem dX10_hotel_399 : decode cX10_hotel 399 = .ok (.ireturn, 1) := by decide +kernel
theorem dX10_fault_0 : decode cX10_fault 0 = .ok (.aload_n 0, 1) := by decide +kernel
theorem dX10_fault_1 : decode cX10_fault 1 = .ok (.getfield 38, 3) := by decide +kernel
theorem dX10_fault_4 : decode cX10_fault 4 = .ok (.ireturn, 1) := by decide +kernel
theorem dX10_thingsAt_0 : decode cX10_thingsAt 0 = .ok (.iconst 0, 1) := by decide +kernel
theorem dX10_thingsAt_1 : decode cX10_thingsAt 1 = .ok (.istore_n 3, 1) := by decide +kernel
theorem dX10_thingsAt_2 : decode cX10_thingsAt 2 = .ok (.iconst 0, 1) := by decide +kernel
theorem dX10_thingsAt_3 : decode cX10_thingsAt 3 = .ok (.istore 4, 2) := by decide +kernel
theorem dX10_thingsAt_5 : decode cX10_thingsAt 5 = .ok (.iload 4, 2) := by decide +kernel
theorem dX10_thingsAt_7 : decode cX10_thingsAt 7 = .ok (.aload_n 0, 1) := by decide +kernel
theorem dX10_thingsAt_8 : decode cX10_thingsAt 8 = .ok (.getfield 104, 3) := by decide +kernel
theorem dX10_thingsAt_11 : decode cX10_thingsAt 11 = .ok (.if_icmp .ge 36, 3) := by decide +kernel
theorem dX10_thingsAt_14 : decode cX10_thingsAt 14 = .ok (.iload_n 3, 1) := by decide +kernel
theorem dX10_thingsAt_15 : decode cX10_thingsAt 15 = .ok (.aload_n 0, 1) := by decide +kernel
theorem dX10_thingsAt_16 : decode cX10_thingsAt 16 = .ok (.getfield 7, 3) := by decide +kernel
theorem dX10_thingsAt_19 : decode cX10_thingsAt 19 = .ok (.iload_n 1, 1) := by decide +kernel
theorem dX10_thingsAt_20 : decode cX10_thingsAt 20 = .ok (.bipush 50, 2) := by decide +kernel
theorem dX10_thingsAt_22 : decode cX10_thingsAt 22 = .ok (.iadd, 1) := by decide +kernel
theorem dX10_thingsAt_23 : decode cX10_thingsAt 23 = .ok (.iload 4, 2) := by decide +kernel
theorem dX10_thingsAt_25 : decode cX10_thingsAt 25 = .ok (.iadd, 1) := by decide +kernel
theorem dX10_thingsAt_26 : decode cX10_thingsAt 26 = .ok (.iaload, 1) := by decide +kernel
theorem dX10_thingsAt_27 : decode cX10_thingsAt 27 = .ok (.iload_n 2, 1) := by decide +kernel
theorem dX10_thingsAt_28 : decode cX10_thingsAt 28 = .ok (.if_icmp .ne 10, 3) := by decide +kernel
theorem dX10_thingsAt_31 : decode cX10_thingsAt 31 = .ok (.iconst 1, 1) := by decide +kernel
theorem dX10_thingsAt_32 : decode cX10_thingsAt 32 = .ok (.iload 4, 2) := by decide +kernel
theorem dX10_thingsAt_34 : decode cX10_thingsAt 34 = .ok (.ishl, 1) := by decide +kernel
theorem dX10_thingsAt_35 : decode cX10_thingsAt 35 = .ok (.goto 4, 3) := by decide +kernel
theorem dX10_thingsAt_38 : decode cX10_thingsAt 38 = .ok (.iconst 0, 1) := by decide +kernel
theorem dX10_thingsAt_39 : decode cX10_thingsAt 39 = .ok (.ior, 1) := by decide +kernel
theorem dX10_thingsAt_40 : decode cX10_thingsAt 40 = .ok (.istore_n 3, 1) := by decide +kernel
theorem dX10_thingsAt_41 : decode cX10_thingsAt 41 = .ok (.iinc 4 1, 3) := by decide +kernel
theorem dX10_thingsAt_44 : decode cX10_thingsAt 44 = .ok (.goto (-39), 3) := by decide +kernel
theorem dX10_thingsAt_47 : decode cX10_thingsAt 47 = .ok (.iload_n 3, 1) := by decide +kernel
theorem dX10_thingsAt_48 : decode cX10_thingsAt 48 = .ok (.ireturn, 1) := by decide +kernel
theorem dX10_weightOf_0 : decode cX10_weightOf 0 = .ok (.iconst 0, 1) := by decide +kernel
theorem dX10_weightOf_1 : decode cX10_weightOf 1 = .ok (.istore_n 2, 1) := by decide +kernel
theorem dX10_weightOf_2 : decode cX10_weightOf 2 = .ok (.iconst 0, 1) := by decide +kernel
theorem dX10_weightOf_3 : decode cX10_weightOf 3 = .ok (.istore_n 3, 1) := by decide +kernel
theorem dX10_weightOf_4 : decode cX10_weightOf 4 = .ok (.iload_n 3, 1) := by decide +kernel
theorem dX10_weightOf_5 : decode cX10_weightOf 5 = .ok (.aload_n 0, 1) := by decide +kernel
theorem dX10_weightOf_6 : decode cX10_weightOf 6 = .ok (.getfield 104, 3) := by decide +kernel
theorem dX10_weightOf_9 : decode cX10_weightOf 9 = .ok (.if_icmp .ge 30, 3) := by decide +kernel
theorem dX10_weightOf_12 : decode cX10_weightOf 12 = .ok (.iload_n 2, 1) := by decide +kernel
theorem dX10_weightOf_13 : decode cX10_weightOf 13 = .ok (.iload_n 1, 1) := by decide +kernel
theorem dX10_weightOf_14 : decode cX10_weightOf 14 = .ok (.iload_n 3, 1) := by decide +kernel
theorem dX10_weightOf_15 : decode cX10_weightOf 15 = .ok (.invokestatic 151, 3) := by decide +kernel
theorem dX10_weightOf_18 : decode cX10_weightOf 18 = .ok (.ifCond .eq 12, 3) := by decide +kernel
theorem dX10_weightOf_21 : decode cX10_weightOf 21 = .ok (.aload_n 0, 1) := by decide +kernel
theorem dX10_weightOf_22 : decode cX10_weightOf 22 = .ok (.getfield 23, 3) := by decide +kernel
theorem dX10_weightOf_25 : decode cX10_weightOf 25 = .ok (.iload_n 3, 1) := by decide +kernel
theorem dX10_weightOf_26 : decode cX10_weightOf 26 = .ok (.iaload, 1) := by decide +kernel
theorem dX10_weightOf_27 : decode cX10_weightOf 27 = .ok (.goto 4, 3) := by decide +kernel
theorem dX10_weightOf_30 : decode cX10_weightOf 30 = .ok (.iconst 0, 1) := by decide +kernel
theorem dX10_weightOf_31 : decode cX10_weightOf 31 = .ok (.iadd, 1) := by decide +kernel
theorem dX10_weightOf_32 : decode cX10_weightOf 32 = .ok (.istore_n 2, 1) := by decide +kernel
theorem dX10_weightOf_33 : decode cX10_weightOf 33 = .ok (.iinc 3 1, 3) := by decide +kernel
theorem dX10_weightOf_36 : decode cX10_weightOf 36 = .ok (.goto (-32), 3) := by decide +kernel
theorem dX10_weightOf_39 : decode cX10_weightOf 39 = .ok (.iload_n 2, 1) := by decide +kernel
theorem dX10_weightOf_40 : decode cX10_weightOf 40 = .ok (.ireturn, 1) := by decide +kernel
theorem dX10_worthOf_0 : decode cX10_worthOf 0 = .ok (.iconst 0, 1) := by decide +kernel
theorem dX10_worthOf_1 : decode cX10_worthOf 1 = .ok (.istore_n 2, 1) := by decide +kernel
theorem dX10_worthOf_2 : decode cX10_worthOf 2 = .ok (.iconst 0, 1) := by decide +kernel
theorem dX10_worthOf_3 : decode cX10_worthOf 3 = .ok (.istore_n 3, 1) := by decide +kernel
theorem dX10_worthOf_4 : decode cX10_worthOf 4 = .ok (.iload_n 3, 1) := by decide +kernel
theorem dX10_worthOf_5 : decode cX10_worthOf 5 = .ok (.aload_n 0, 1) := by decide +kernel
theorem dX10_worthOf_6 : decode cX10_worthOf 6 = .ok (.getfield 104, 3) := by decide +kernel
theorem dX10_worthOf_9 : decode cX10_worthOf 9 = .ok (.if_icmp .ge 30, 3) := by decide +kernel
theorem dX10_worthOf_12 : decode cX10_worthOf 12 = .ok (.iload_n 2, 1) := by decide +kernel
theorem dX10_worthOf_13 : decode cX10_worthOf 13 = .ok (.iload_n 1, 1) := by decide +kernel
theorem dX10_worthOf_14 : decode cX10_worthOf 14 = .ok (.iload_n 3, 1) := by decide +kernel
theorem dX10_worthOf_15 : decode cX10_worthOf 15 = .ok (.invokestatic 151, 3) := by decide +kernel
theorem dX10_worthOf_18 : decode cX10_worthOf 18 = .ok (.ifCond .eq 12, 3) := by decide +kernel
theorem dX10_worthOf_21 : decode cX10_worthOf 21 = .ok (.aload_n 0, 1) := by decide +kernel
theorem dX10_worthOf_22 : decode cX10_worthOf 22 = .ok (.getfield 26, 3) := by decide +kernel
theorem dX10_worthOf_25 : decode cX10_worthOf 25 = .ok (.iload_n 3, 1) := by decide +kernel
theorem dX10_worthOf_26 : decode cX10_worthOf 26 = .ok (.iaload, 1) := by decide +kernel
theorem dX10_worthOf_27 : decode cX10_worthOf 27 = .ok (.goto 4, 3) := by decide +kernel
theorem dX10_worthOf_30 : decode cX10_worthOf 30 = .ok (.iconst 0, 1) := by decide +kernel
theorem dX10_worthOf_31 : decode cX10_worthOf 31 = .ok (.iadd, 1) := by decide +kernel
theorem dX10_worthOf_32 : decode cX10_worthOf 32 = .ok (.istore_n 2, 1) := by decide +kernel
theorem dX10_worthOf_33 : decode cX10_worthOf 33 = .ok (.iinc 3 1, 3) := by decide +kernel
theorem dX10_worthOf_36 : decode cX10_worthOf 36 = .ok (.goto (-32), 3) := by decide +kernel
theorem dX10_worthOf_39 : decode cX10_worthOf 39 = .ok (.iload_n 2, 1) := by decide +kernel
theorem dX10_worthOf_40 : decode cX10_worthOf 40 = .ok (.ireturn, 1) := by decide +kernel
theorem dX10_told_0 : decode cX10_told 0 = .ok (.iload_n 1, 1) := by decide +kernel
theorem dX10_told_1 : decode cX10_told 1 = .ok (.tableswitch 157 0 13 #[71, 76, 81, 86, 91, 96, 101, 108, 115, 123, 130, 142, 147, 152], 71) := by decide +kernel
theorem dX10_told_72 : decode cX10_told 72 = .ok (.aload_n 0, 1) := by decide +kernel
theorem dX10_told_73 : decode cX10_told 73 = .ok (.getfield 90, 3) := by decide +kernel
theorem dX10_told_76 : decode cX10_told 76 = .ok (.ireturn, 1) := by decide +kernel
theorem dX10_told_77 : decode cX10_told 77 = .ok (.aload_n 0, 1) := by decide +kernel
theorem dX10_told_78 : decode cX10_told 78 = .ok (.getfield 194, 3) := by decide +kernel
theorem dX10_told_81 : decode cX10_told 81 = .ok (.ireturn, 1) := by decide +kernel
theorem dX10_told_82 : decode cX10_told 82 = .ok (.aload_n 0, 1) := by decide +kernel
theorem dX10_told_83 : decode cX10_told 83 = .ok (.getfield 97, 3) := by decide +kernel
theorem dX10_told_86 : decode cX10_told 86 = .ok (.ireturn, 1) := by decide +kernel
theorem dX10_told_87 : decode cX10_told 87 = .ok (.aload_n 0, 1) := by decide +kernel
theorem dX10_told_88 : decode cX10_told 88 = .ok (.getfield 104, 3) := by decide +kernel
theorem dX10_told_91 : decode cX10_told 91 = .ok (.ireturn, 1) := by decide +kernel
theorem dX10_told_92 : decode cX10_told 92 = .ok (.aload_n 0, 1) := by decide +kernel
theorem dX10_told_93 : decode cX10_told 93 = .ok (.getfield 197, 3) := by decide +kernel
theorem dX10_told_96 : decode cX10_told 96 = .ok (.ireturn, 1) := by decide +kernel
theorem dX10_told_97 : decode cX10_told 97 = .ok (.aload_n 0, 1) := by decide +kernel
theorem dX10_told_98 : decode cX10_told 98 = .ok (.getfield 110, 3) := by decide +kernel
theorem dX10_told_101 : decode cX10_told 101 = .ok (.ireturn, 1) := by decide +kernel
theorem dX10_told_102 : decode cX10_told 102 = .ok (.aload_n 0, 1) := by decide +kernel
theorem dX10_told_103 : decode cX10_told 103 = .ok (.getfield 7, 3) := by decide +kernel
theorem dX10_told_106 : decode cX10_told 106 = .ok (.iconst 0, 1) := by decide +kernel
theorem dX10_told_107 : decode cX10_told 107 = .ok (.iaload, 1) := by decide +kernel
theorem dX10_told_108 : decode cX10_told 108 = .ok (.ireturn, 1) := by decide +kernel
theorem dX10_told_109 : decode cX10_told 109 = .ok (.aload_n 0, 1) := by decide +kernel
theorem dX10_told_110 : decode cX10_told 110 = .ok (.getfield 7, 3) := by decide +kernel
theorem dX10_told_113 : decode cX10_told 113 = .ok (.iconst 1, 1) := by decide +kernel
theorem dX10_told_114 : decode cX10_told 114 = .ok (.iaload, 1) := by decide +kernel
theorem dX10_told_115 : decode cX10_told 115 = .ok (.ireturn, 1) := by decide +kernel
theorem dX10_told_116 : decode cX10_told 116 = .ok (.aload_n 0, 1) := by decide +kernel
theorem dX10_told_117 : decode cX10_told 117 = .ok (.iconst 0, 1) := by decide +kernel
theorem dX10_told_118 : decode cX10_told 118 = .ok (.bipush (-2), 2) := by decide +kernel
theorem dX10_told_120 : decode cX10_told 120 = .ok (.invokevirtual 209, 3) := by decide +kernel
theorem dX10_told_123 : decode cX10_told 123 = .ok (.ireturn, 1) := by decide +kernel
theorem dX10_told_124 : decode cX10_told 124 = .ok (.aload_n 0, 1) := by decide +kernel
theorem dX10_told_125 : decode cX10_told 125 = .ok (.iconst 0, 1) := by decide +kernel
theorem dX10_told_126 : decode cX10_told 126 = .ok (.iconst (-1), 1) := by decide +kernel
theorem dX10_told_127 : decode cX10_told 127 = .ok (.invokevirtual 209, 3) := by decide +kernel
theorem dX10_told_130 : decode cX10_told 130 = .ok (.ireturn, 1) := by decide +kernel
theorem dX10_told_131 : decode cX10_told 131 = .ok (.aload_n 0, 1) := by decide +kernel
theorem dX10_told_132 : decode cX10_told 132 = .ok (.aload_n 0, 1) := by decide +kernel
theorem dX10_told_133 : decode cX10_told 133 = .ok (.iconst 0, 1) := by decide +kernel
theorem dX10_told_134 : decode cX10_told 134 = .ok (.bipush (-2), 2) := by decide +kernel
theorem dX10_told_136 : decode cX10_told 136 = .ok (.invokevirtual 209, 3) := by decide +kernel
theorem dX10_told_139 : decode cX10_told 139 = .ok (.invokevirtual 213, 3) := by decide +kernel
theorem dX10_told_142 : decode cX10_told 142 = .ok (.ireturn, 1) := by decide +kernel
theorem dX10_told_143 : decode cX10_told 143 = .ok (.aload_n 0, 1) := by decide +kernel
theorem dX10_told_144 : decode cX10_told 144 = .ok (.getfield 200, 3) := by decide +kernel
theorem dX10_told_147 : decode cX10_told 147 = .ok (.ireturn, 1) := by decide +kernel
theorem dX10_told_148 : decode cX10_told 148 = .ok (.aload_n 0, 1) := by decide +kernel
theorem dX10_told_149 : decode cX10_told 149 = .ok (.getfield 203, 3) := by decide +kernel
theorem dX10_told_152 : decode cX10_told 152 = .ok (.ireturn, 1) := by decide +kernel
theorem dX10_told_153 : decode cX10_told 153 = .ok (.aload_n 0, 1) := by decide +kernel
theorem dX10_told_154 : decode cX10_told 154 = .ok (.getfield 206, 3) := by decide +kernel
theorem dX10_told_157 : decode cX10_told 157 = .ok (.ireturn, 1) := by decide +kernel
theorem dX10_told_158 : decode cX10_told 158 = .ok (.ldc 109, 2) := by decide +kernel
theorem dX10_told_160 : decode cX10_told 160 = .ok (.ireturn, 1) := by decide +kernel
theorem dX10_room_0 : decode cX10_room 0 = .ok (.aload_n 0, 1) := by decide +kernel
theorem dX10_room_1 : decode cX10_room 1 = .ok (.iload_n 1, 1) := by decide +kernel
theorem dX10_room_2 : decode cX10_room 2 = .ok (.invokevirtual 216, 3) := by decide +kernel
theorem dX10_room_5 : decode cX10_room 5 = .ok (.ifCond .eq 12, 3) := by decide +kernel
theorem dX10_room_8 : decode cX10_room 8 = .ok (.aload_n 0, 1) := by decide +kernel
theorem dX10_room_9 : decode cX10_room 9 = .ok (.getfield 17, 3) := by decide +kernel
theorem dX10_room_12 : decode cX10_room 12 = .ok (.iload_n 1, 1) := by decide +kernel
theorem dX10_room_13 : decode cX10_room 13 = .ok (.iaload, 1) := by decide +kernel
theorem dX10_room_14 : decode cX10_room 14 = .ok (.goto 5, 3) := by decide +kernel
theorem dX10_room_17 : decode cX10_room 17 = .ok (.ldc 219, 2) := by decide +kernel
theorem dX10_room_19 : decode cX10_room 19 = .ok (.ireturn, 1) := by decide +kernel
theorem dX10_onTray_0 : decode cX10_onTray 0 = .ok (.aload_n 0, 1) := by decide +kernel
theorem dX10_onTray_1 : decode cX10_onTray 1 = .ok (.iload_n 1, 1) := by decide +kernel
theorem dX10_onTray_2 : decode cX10_onTray 2 = .ok (.iconst 2, 1) := by decide +kernel
theorem dX10_onTray_3 : decode cX10_onTray 3 = .ok (.iload_n 2, 1) := by decide +kernel
theorem dX10_onTray_4 : decode cX10_onTray 4 = .ok (.imul, 1) := by decide +kernel
theorem dX10_onTray_5 : decode cX10_onTray 5 = .ok (.invokevirtual 209, 3) := by decide +kernel
theorem dX10_onTray_8 : decode cX10_onTray 8 = .ok (.aload_n 0, 1) := by decide +kernel
theorem dX10_onTray_9 : decode cX10_onTray 9 = .ok (.iload_n 1, 1) := by decide +kernel
theorem dX10_onTray_10 : decode cX10_onTray 10 = .ok (.iconst 2, 1) := by decide +kernel
theorem dX10_onTray_11 : decode cX10_onTray 11 = .ok (.iload_n 2, 1) := by decide +kernel
theorem dX10_onTray_12 : decode cX10_onTray 12 = .ok (.imul, 1) := by decide +kernel
theorem dX10_onTray_13 : decode cX10_onTray 13 = .ok (.iconst 1, 1) := by decide +kernel
theorem dX10_onTray_14 : decode cX10_onTray 14 = .ok (.iadd, 1) := by decide +kernel
theorem dX10_onTray_15 : decode cX10_onTray 15 = .ok (.invokevirtual 209, 3) := by decide +kernel
theorem dX10_onTray_18 : decode cX10_onTray 18 = .ok (.ior, 1) := by decide +kernel
theorem dX10_onTray_19 : decode cX10_onTray 19 = .ok (.ireturn, 1) := by decide +kernel
theorem dX10_differs_0 : decode cX10_differs 0 = .ok (.aload_n 0, 1) := by decide +kernel
theorem dX10_differs_1 : decode cX10_differs 1 = .ok (.aload_n 0, 1) := by decide +kernel
theorem dX10_differs_2 : decode cX10_differs 2 = .ok (.iload_n 1, 1) := by decide +kernel
theorem dX10_differs_3 : decode cX10_differs 3 = .ok (.iconst 2, 1) := by decide +kernel
theorem dX10_differs_4 : decode cX10_differs 4 = .ok (.iload_n 2, 1) := by decide +kernel
theorem dX10_differs_5 : decode cX10_differs 5 = .ok (.imul, 1) := by decide +kernel
theorem dX10_differs_6 : decode cX10_differs 6 = .ok (.invokevirtual 209, 3) := by decide +kernel
theorem dX10_differs_9 : decode cX10_differs 9 = .ok (.invokevirtual 220, 3) := by decide +kernel
theorem dX10_differs_12 : decode cX10_differs 12 = .ok (.aload_n 0, 1) := by decide +kernel
theorem dX10_differs_13 : decode cX10_differs 13 = .ok (.aload_n 0, 1) := by decide +kernel
theorem dX10_differs_14 : decode cX10_differs 14 = .ok (.iload_n 1, 1) := by decide +kernel
theorem dX10_differs_15 : decode cX10_differs 15 = .ok (.iconst 2, 1) := by decide +kernel
theorem dX10_differs_16 : decode cX10_differs 16 = .ok (.iload_n 2, 1) := by decide +kernel
theorem dX10_differs_17 : decode cX10_differs 17 = .ok (.imul, 1) := by decide +kernel
theorem dX10_differs_18 : decode cX10_differs 18 = .ok (.iconst 1, 1) := by decide +kernel
theorem dX10_differs_19 : decode cX10_differs 19 = .ok (.iadd, 1) := by decide +kernel
theorem dX10_differs_20 : decode cX10_differs 20 = .ok (.invokevirtual 209, 3) := by decide +kernel
theorem dX10_differs_23 : decode cX10_differs 23 = .ok (.invokevirtual 220, 3) := by decide +kernel
theorem dX10_differs_26 : decode cX10_differs 26 = .ok (.isub, 1) := by decide +kernel
theorem dX10_differs_27 : decode cX10_differs 27 = .ok (.istore_n 3, 1) := by decide +kernel
theorem dX10_differs_28 : decode cX10_differs 28 = .ok (.iload_n 3, 1) := by decide +kernel
theorem dX10_differs_29 : decode cX10_differs 29 = .ok (.ifCond .ge 8, 3) := by decide +kernel
theorem dX10_differs_32 : decode cX10_differs 32 = .ok (.iload_n 3, 1) := by decide +kernel
theorem dX10_differs_33 : decode cX10_differs 33 = .ok (.ineg, 1) := by decide +kernel
theorem dX10_differs_34 : decode cX10_differs 34 = .ok (.goto 4, 3) := by decide +kernel
theorem dX10_differs_37 : decode cX10_differs 37 = .ok (.iload_n 3, 1) := by decide +kernel
theorem dX10_differs_38 : decode cX10_differs 38 = .ok (.ireturn, 1) := by decide +kernel
theorem dX10_waiter_0 : decode cX10_waiter 0 = .ok (.aload_n 0, 1) := by decide +kernel
theorem dX10_waiter_1 : decode cX10_waiter 1 = .ok (.iload_n 1, 1) := by decide +kernel
theorem dX10_waiter_2 : decode cX10_waiter 2 = .ok (.invokevirtual 100, 3) := by decide +kernel
theorem dX10_waiter_5 : decode cX10_waiter 5 = .ok (.ifCond .ne 6, 3) := by decide +kernel
theorem dX10_waiter_8 : decode cX10_waiter 8 = .ok (.ldc 219, 2) := by decide +kernel
theorem dX10_waiter_10 : decode cX10_waiter 10 = .ok (.ireturn, 1) := by decide +kernel
theorem dX10_waiter_11 : decode cX10_waiter 11 = .ok (.iload_n 2, 1) := by decide +kernel
theorem dX10_waiter_12 : decode cX10_waiter 12 = .ok (.tableswitch 122 0 7 #[48, 57, 64, 73, 84, 95, 102, 112], 48) := by decide +kernel
theorem dX10_waiter_60 : decode cX10_waiter 60 = .ok (.aload_n 0, 1) := by decide +kernel
theorem dX10_waiter_61 : decode cX10_waiter 61 = .ok (.getfield 7, 3) := by decide +kernel
theorem dX10_waiter_64 : decode cX10_waiter 64 = .ok (.iconst 2, 1) := by decide +kernel
theorem dX10_waiter_65 : decode cX10_waiter 65 = .ok (.iload_n 1, 1) := by decide +kernel
theorem dX10_waiter_66 : decode cX10_waiter 66 = .ok (.iadd, 1) := by decide +kernel
theorem dX10_waiter_67 : decode cX10_waiter 67 = .ok (.iaload, 1) := by decide +kernel
theorem dX10_waiter_68 : decode cX10_waiter 68 = .ok (.ireturn, 1) := by decide +kernel
theorem dX10_waiter_69 : decode cX10_waiter 69 = .ok (.aload_n 0, 1) := by decide +kernel
theorem dX10_waiter_70 : decode cX10_waiter 70 = .ok (.getfield 20, 3) := by decide +kernel
theorem dX10_waiter_73 : decode cX10_waiter 73 = .ok (.iload_n 1, 1) := by decide +kernel
theorem dX10_waiter_74 : decode cX10_waiter 74 = .ok (.iaload, 1) := by decide +kernel
theorem dX10_waiter_75 : decode cX10_waiter 75 = .ok (.ireturn, 1) := by decide +kernel
theorem dX10_waiter_76 : decode cX10_waiter 76 = .ok (.aload_n 0, 1) := by decide +kernel
theorem dX10_waiter_77 : decode cX10_waiter 77 = .ok (.iconst 0, 1) := by decide +kernel
theorem dX10_waiter_78 : decode cX10_waiter 78 = .ok (.iconst 2, 1) := by decide +kernel
theorem dX10_waiter_79 : decode cX10_waiter 79 = .ok (.iload_n 1, 1) := by decide +kernel
theorem dX10_waiter_80 : decode cX10_waiter 80 = .ok (.imul, 1) := by decide +kernel
theorem dX10_waiter_81 : decode cX10_waiter 81 = .ok (.invokevirtual 209, 3) := by decide +kernel
theorem dX10_waiter_84 : decode cX10_waiter 84 = .ok (.ireturn, 1) := by decide +kernel
theorem dX10_waiter_85 : decode cX10_waiter 85 = .ok (.aload_n 0, 1) := by decide +kernel
theorem dX10_waiter_86 : decode cX10_waiter 86 = .ok (.iconst 0, 1) := by decide +kernel
theorem dX10_waiter_87 : decode cX10_waiter 87 = .ok (.iconst 2, 1) := by decide +kernel
theorem dX10_waiter_88 : decode cX10_waiter 88 = .ok (.iload_n 1, 1) := by decide +kernel
theorem dX10_waiter_89 : decode cX10_waiter 89 = .ok (.imul, 1) := by decide +kernel
theorem dX10_waiter_90 : decode cX10_waiter 90 = .ok (.iconst 1, 1) := by decide +kernel
theorem dX10_waiter_91 : decode cX10_waiter 91 = .ok (.iadd, 1) := by decide +kernel
theorem dX10_waiter_92 : decode cX10_waiter 92 = .ok (.invokevirtual 209, 3) := by decide +kernel
theorem dX10_waiter_95 : decode cX10_waiter 95 = .ok (.ireturn, 1) := by decide +kernel
theorem dX10_waiter_96 : decode cX10_waiter 96 = .ok (.aload_n 0, 1) := by decide +kernel
theorem dX10_waiter_97 : decode cX10_waiter 97 = .ok (.aload_n 0, 1) := by decide +kernel
theorem dX10_waiter_98 : decode cX10_waiter 98 = .ok (.iconst 0, 1) := by decide +kernel
theorem dX10_waiter_99 : decode cX10_waiter 99 = .ok (.iload_n 1, 1) := by decide +kernel
theorem dX10_waiter_100 : decode cX10_waiter 100 = .ok (.invokevirtual 223, 3) := by decide +kernel
theorem dX10_waiter_103 : decode cX10_waiter 103 = .ok (.invokevirtual 220, 3) := by decide +kernel
theorem dX10_waiter_106 : decode cX10_waiter 106 = .ok (.ireturn, 1) := by decide +kernel
theorem dX10_waiter_107 : decode cX10_waiter 107 = .ok (.aload_n 0, 1) := by decide +kernel
theorem dX10_waiter_108 : decode cX10_waiter 108 = .ok (.iconst 0, 1) := by decide +kernel
theorem dX10_waiter_109 : decode cX10_waiter 109 = .ok (.iload_n 1, 1) := by decide +kernel
theorem dX10_waiter_110 : decode cX10_waiter 110 = .ok (.invokevirtual 226, 3) := by decide +kernel
theorem dX10_waiter_113 : decode cX10_waiter 113 = .ok (.ireturn, 1) := by decide +kernel
theorem dX10_waiter_114 : decode cX10_waiter 114 = .ok (.aload_n 0, 1) := by decide +kernel
theorem dX10_waiter_115 : decode cX10_waiter 115 = .ok (.getfield 7, 3) := by decide +kernel
theorem dX10_waiter_118 : decode cX10_waiter 118 = .ok (.bipush 6, 2) := by decide +kernel
theorem dX10_waiter_120 : decode cX10_waiter 120 = .ok (.iload_n 1, 1) := by decide +kernel
theorem dX10_waiter_121 : decode cX10_waiter 121 = .ok (.iadd, 1) := by decide +kernel
theorem dX10_waiter_122 : decode cX10_waiter 122 = .ok (.iaload, 1) := by decide +kernel
theorem dX10_waiter_123 : decode cX10_waiter 123 = .ok (.ireturn, 1) := by decide +kernel
theorem dX10_waiter_124 : decode cX10_waiter 124 = .ok (.aload_n 0, 1) := by decide +kernel
theorem dX10_waiter_125 : decode cX10_waiter 125 = .ok (.getfield 7, 3) := by decide +kernel
theorem dX10_waiter_128 : decode cX10_waiter 128 = .ok (.bipush 46, 2) := by decide +kernel
theorem dX10_waiter_130 : decode cX10_waiter 130 = .ok (.iload_n 1, 1) := by decide +kernel
theorem dX10_waiter_131 : decode cX10_waiter 131 = .ok (.iadd, 1) := by decide +kernel
theorem dX10_waiter_132 : decode cX10_waiter 132 = .ok (.iaload, 1) := by decide +kernel
theorem dX10_waiter_133 : decode cX10_waiter 133 = .ok (.ireturn, 1) := by decide +kernel
theorem dX10_waiter_134 : decode cX10_waiter 134 = .ok (.ldc 109, 2) := by decide +kernel
theorem dX10_waiter_136 : decode cX10_waiter 136 = .ok (.ireturn, 1) := by decide +kernel
theorem dX10_whose_0 : decode cX10_whose 0 = .ok (.aload_n 0, 1) := by decide +kernel
theorem dX10_whose_1 : decode cX10_whose 1 = .ok (.getfield 7, 3) := by decide +kernel
theorem dX10_whose_4 : decode cX10_whose 4 = .ok (.bipush 50, 2) := by decide +kernel
theorem dX10_whose_6 : decode cX10_whose 6 = .ok (.iload_n 1, 1) := by decide +kernel
theorem dX10_whose_7 : decode cX10_whose 7 = .ok (.iadd, 1) := by decide +kernel
theorem dX10_whose_8 : decode cX10_whose 8 = .ok (.iaload, 1) := by decide +kernel
theorem dX10_whose_9 : decode cX10_whose 9 = .ok (.ifCond .ge 7, 3) := by decide +kernel
theorem dX10_whose_12 : decode cX10_whose 12 = .ok (.iconst (-1), 1) := by decide +kernel
theorem dX10_whose_13 : decode cX10_whose 13 = .ok (.goto 14, 3) := by decide +kernel
theorem dX10_whose_16 : decode cX10_whose 16 = .ok (.aload_n 0, 1) := by decide +kernel
theorem dX10_whose_17 : decode cX10_whose 17 = .ok (.getfield 7, 3) := by decide +kernel
theorem dX10_whose_20 : decode cX10_whose 20 = .ok (.bipush 50, 2) := by decide +kernel
theorem dX10_whose_22 : decode cX10_whose 22 = .ok (.iload_n 1, 1) := by decide +kernel
theorem dX10_whose_23 : decode cX10_whose 23 = .ok (.iadd, 1) := by decide +kernel
theorem dX10_whose_24 : decode cX10_whose 24 = .ok (.iaload, 1) := by decide +kernel
theorem dX10_whose_25 : decode cX10_whose 25 = .ok (.iconst 2, 1) := by decide +kernel
theorem dX10_whose_26 : decode cX10_whose 26 = .ok (.idiv, 1) := by decide +kernel
theorem dX10_whose_27 : decode cX10_whose 27 = .ok (.ireturn, 1) := by decide +kernel
theorem dX10_thing_0 : decode cX10_thing 0 = .ok (.aload_n 0, 1) := by decide +kernel
theorem dX10_thing_1 : decode cX10_thing 1 = .ok (.iload_n 1, 1) := by decide +kernel
theorem dX10_thing_2 : decode cX10_thing 2 = .ok (.invokevirtual 229, 3) := by decide +kernel
theorem dX10_thing_5 : decode cX10_thing 5 = .ok (.ifCond .ne 6, 3) := by decide +kernel
theorem dX10_thing_8 : decode cX10_thing 8 = .ok (.ldc 219, 2) := by decide +kernel
theorem dX10_thing_10 : decode cX10_thing 10 = .ok (.ireturn, 1) := by decide +kernel
theorem dX10_thing_11 : decode cX10_thing 11 = .ok (.iload_n 2, 1) := by decide +kernel
theorem dX10_thing_12 : decode cX10_thing 12 = .ok (.ifCond .ne 12, 3) := by decide +kernel
theorem dX10_thing_15 : decode cX10_thing 15 = .ok (.aload_n 0, 1) := by decide +kernel
theorem dX10_thing_16 : decode cX10_thing 16 = .ok (.getfield 23, 3) := by decide +kernel
theorem dX10_thing_19 : decode cX10_thing 19 = .ok (.iload_n 1, 1) := by decide +kernel
theorem dX10_thing_20 : decode cX10_thing 20 = .ok (.iaload, 1) := by decide +kernel
theorem dX10_thing_21 : decode cX10_thing 21 = .ok (.goto 32, 3) := by decide +kernel
theorem dX10_thing_24 : decode cX10_thing 24 = .ok (.iload_n 2, 1) := by decide +kernel
theorem dX10_thing_25 : decode cX10_thing 25 = .ok (.iconst 1, 1) := by decide +kernel
theorem dX10_thing_26 : decode cX10_thing 26 = .ok (.if_icmp .ne 12, 3) := by decide +kernel
theorem dX10_thing_29 : decode cX10_thing 29 = .ok (.aload_n 0, 1) := by decide +kernel
theorem dX10_thing_30 : decode cX10_thing 30 = .ok (.getfield 26, 3) := by decide +kernel
theorem dX10_thing_33 : decode cX10_thing 33 = .ok (.iload_n 1, 1) := by decide +kernel
theorem dX10_thing_34 : decode cX10_thing 34 = .ok (.iaload, 1) := by decide +kernel
theorem dX10_thing_35 : decode cX10_thing 35 = .ok (.goto 18, 3) := by decide +kernel
theorem dX10_thing_38 : decode cX10_thing 38 = .ok (.iload_n 2, 1) := by decide +kernel
theorem dX10_thing_39 : decode cX10_thing 39 = .ok (.iconst 2, 1) := by decide +kernel
theorem dX10_thing_40 : decode cX10_thing 40 = .ok (.if_icmp .ne 11, 3) := by decide +kernel
theorem dX10_thing_43 : decode cX10_thing 43 = .ok (.aload_n 0, 1) := by decide +kernel
theorem dX10_thing_44 : decode cX10_thing 44 = .ok (.iload_n 1, 1) := by decide +kernel
theorem dX10_thing_45 : decode cX10_thing 45 = .ok (.invokevirtual 232, 3) := by decide +kernel
theorem dX10_thing_48 : decode cX10_thing 48 = .ok (.goto 5, 3) := by decide +kernel
theorem dX10_thing_51 : decode cX10_thing 51 = .ok (.ldc 109, 2) := by decide +kernel
theorem dX10_thing_53 : decode cX10_thing 53 = .ok (.ireturn, 1) := by decide +kernel
theorem dX10_walks_0 : decode cX10_walks 0 = .ok (.aload_n 0, 1) := by decide +kernel
theorem dX10_walks_1 : decode cX10_walks 1 = .ok (.getfield 54, 3) := by decide +kernel
theorem dX10_walks_4 : decode cX10_walks 4 = .ok (.iload_n 2, 1) := by decide +kernel
theorem dX10_walks_5 : decode cX10_walks 5 = .ok (.aload_n 0, 1) := by decide +kernel
theorem dX10_walks_6 : decode cX10_walks 6 = .ok (.getfield 7, 3) := by decide +kernel
theorem dX10_walks_9 : decode cX10_walks 9 = .ok (.iload_n 1, 1) := by decide +kernel
theorem dX10_walks_10 : decode cX10_walks 10 = .ok (.iconst 2, 1) := by decide +kernel
theorem dX10_walks_11 : decode cX10_walks 11 = .ok (.iadd, 1) := by decide +kernel
theorem dX10_walks_12 : decode cX10_walks 12 = .ok (.iload_n 2, 1) := by decide +kernel
theorem dX10_walks_13 : decode cX10_walks 13 = .ok (.iadd, 1) := by decide +kernel
theorem dX10_walks_14 : decode cX10_walks 14 = .ok (.iaload, 1) := by decide +kernel
theorem dX10_walks_15 : decode cX10_walks 15 = .ok (.iastore, 1) := by decide +kernel
theorem dX10_walks_16 : decode cX10_walks 16 = .ok (.aload_n 0, 1) := by decide +kernel
theorem dX10_walks_17 : decode cX10_walks 17 = .ok (.getfield 57, 3) := by decide +kernel
theorem dX10_walks_20 : decode cX10_walks 20 = .ok (.iload_n 2, 1) := by decide +kernel
theorem dX10_walks_21 : decode cX10_walks 21 = .ok (.aload_n 0, 1) := by decide +kernel
theorem dX10_walks_22 : decode cX10_walks 22 = .ok (.getfield 7, 3) := by decide +kernel
theorem dX10_walks_25 : decode cX10_walks 25 = .ok (.iload_n 1, 1) := by decide +kernel
theorem dX10_walks_26 : decode cX10_walks 26 = .ok (.bipush 6, 2) := by decide +kernel
theorem dX10_walks_28 : decode cX10_walks 28 = .ok (.iadd, 1) := by decide +kernel
theorem dX10_walks_29 : decode cX10_walks 29 = .ok (.iload_n 2, 1) := by decide +kernel
theorem dX10_walks_30 : decode cX10_walks 30 = .ok (.iadd, 1) := by decide +kernel
theorem dX10_walks_31 : decode cX10_walks 31 = .ok (.iaload, 1) := by decide +kernel
theorem dX10_walks_32 : decode cX10_walks 32 = .ok (.ifCond .le 7, 3) := by decide +kernel
theorem dX10_walks_35 : decode cX10_walks 35 = .ok (.iconst 1, 1) := by decide +kernel
theorem dX10_walks_36 : decode cX10_walks 36 = .ok (.goto 4, 3) := by decide +kernel
theorem dX10_walks_39 : decode cX10_walks 39 = .ok (.iconst 0, 1) := by decide +kernel
theorem dX10_walks_40 : decode cX10_walks 40 = .ok (.bastore, 1) := by decide +kernel
theorem dX10_walks_41 : decode cX10_walks 41 = .ok (.aload_n 0, 1) := by decide +kernel
theorem dX10_walks_42 : decode cX10_walks 42 = .ok (.getfield 57, 3) := by decide +kernel
theorem dX10_walks_45 : decode cX10_walks 45 = .ok (.iload_n 2, 1) := by decide +kernel
theorem dX10_walks_46 : decode cX10_walks 46 = .ok (.baload, 1) := by decide +kernel
theorem dX10_walks_47 : decode cX10_walks 47 = .ok (.ifCond .eq 90, 3) := by decide +kernel
theorem dX10_walks_50 : decode cX10_walks 50 = .ok (.aload_n 0, 1) := by decide +kernel
theorem dX10_walks_51 : decode cX10_walks 51 = .ok (.getfield 7, 3) := by decide +kernel
theorem dX10_walks_54 : decode cX10_walks 54 = .ok (.iload_n 1, 1) := by decide +kernel
theorem dX10_walks_55 : decode cX10_walks 55 = .ok (.iconst 2, 1) := by decide +kernel
theorem dX10_walks_56 : decode cX10_walks 56 = .ok (.iadd, 1) := by decide +kernel
theorem dX10_walks_57 : decode cX10_walks 57 = .ok (.iload_n 2, 1) := by decide +kernel
theorem dX10_walks_58 : decode cX10_walks 58 = .ok (.iadd, 1) := by decide +kernel
theorem dX10_walks_59 : decode cX10_walks 59 = .ok (.aload_n 0, 1) := by decide +kernel
theorem dX10_walks_60 : decode cX10_walks 60 = .ok (.getfield 7, 3) := by decide +kernel
theorem dX10_walks_63 : decode cX10_walks 63 = .ok (.iload_n 1, 1) := by decide +kernel
theorem dX10_walks_64 : decode cX10_walks 64 = .ok (.bipush 10, 2) := by decide +kernel
theorem dX10_walks_66 : decode cX10_walks 66 = .ok (.iadd, 1) := by decide +kernel
theorem dX10_walks_67 : decode cX10_walks 67 = .ok (.bipush 9, 2) := by decide +kernel
theorem dX10_walks_69 : decode cX10_walks 69 = .ok (.iload_n 2, 1) := by decide +kernel
theorem dX10_walks_70 : decode cX10_walks 70 = .ok (.imul, 1) := by decide +kernel
theorem dX10_walks_71 : decode cX10_walks 71 = .ok (.iadd, 1) := by decide +kernel
theorem dX10_walks_72 : decode cX10_walks 72 = .ok (.iaload, 1) := by decide +kernel
theorem dX10_walks_73 : decode cX10_walks 73 = .ok (.iastore, 1) := by decide +kernel
theorem dX10_walks_74 : decode cX10_walks 74 = .ok (.iconst 0, 1) := by decide +kernel
theorem dX10_walks_75 : decode cX10_walks 75 = .ok (.istore_n 3, 1) := by decide +kernel
theorem dX10_walks_76 : decode cX10_walks 76 = .ok (.iload_n 3, 1) := by decide +kernel
theorem dX10_walks_77 : decode cX10_walks 77 = .ok (.bipush 8, 2) := by decide +kernel
theorem dX10_walks_79 : decode cX10_walks 79 = .ok (.if_icmp .ge 43, 3) := by decide +kernel
theorem dX10_walks_82 : decode cX10_walks 82 = .ok (.aload_n 0, 1) := by decide +kernel
theorem dX10_walks_83 : decode cX10_walks 83 = .ok (.getfield 7, 3) := by decide +kernel
theorem dX10_walks_86 : decode cX10_walks 86 = .ok (.iload_n 1, 1) := by decide +kernel
theorem dX10_walks_87 : decode cX10_walks 87 = .ok (.bipush 10, 2) := by decide +kernel
theorem dX10_walks_89 : decode cX10_walks 89 = .ok (.iadd, 1) := by decide +kernel
theorem dX10_walks_90 : decode cX10_walks 90 = .ok (.bipush 9, 2) := by decide +kernel
theorem dX10_walks_92 : decode cX10_walks 92 = .ok (.iload_n 2, 1) := by decide +kernel
theorem dX10_walks_93 : decode cX10_walks 93 = .ok (.imul, 1) := by decide +kernel
theorem dX10_walks_94 : decode cX10_walks 94 = .ok (.iadd, 1) := by decide +kernel
theorem dX10_walks_95 : decode cX10_walks 95 = .ok (.iload_n 3, 1) := by decide +kernel
theorem dX10_walks_96 : decode cX10_walks 96 = .ok (.iadd, 1) := by decide +kernel
theorem dX10_walks_97 : decode cX10_walks 97 = .ok (.aload_n 0, 1) := by decide +kernel
theorem dX10_walks_98 : decode cX10_walks 98 = .ok (.getfield 7, 3) := by decide +kernel
theorem dX10_walks_101 : decode cX10_walks 101 = .ok (.iload_n 1, 1) := by decide +kernel
theorem dX10_walks_102 : decode cX10_walks 102 = .ok (.bipush 10, 2) := by decide +kernel
theorem dX10_walks_104 : decode cX10_walks 104 = .ok (.iadd, 1) := by decide +kernel
theorem dX10_walks_105 : decode cX10_walks 105 = .ok (.bipush 9, 2) := by decide +kernel
theorem dX10_walks_107 : decode cX10_walks 107 = .ok (.iload_n 2, 1) := by decide +kernel
theorem dX10_walks_108 : decode cX10_walks 108 = .ok (.imul, 1) := by decide +kernel
theorem dX10_walks_109 : decode cX10_walks 109 = .ok (.iadd, 1) := by decide +kernel
theorem dX10_walks_110 : decode cX10_walks 110 = .ok (.iload_n 3, 1) := by decide +kernel
theorem dX10_walks_111 : decode cX10_walks 111 = .ok (.iadd, 1) := by decide +kernel
theorem dX10_walks_112 : decode cX10_walks 112 = .ok (.iconst 1, 1) := by decide +kernel
theorem dX10_walks_113 : decode cX10_walks 113 = .ok (.iadd, 1) := by decide +kernel
theorem dX10_walks_114 : decode cX10_walks 114 = .ok (.iaload, 1) := by decide +kernel
theorem dX10_walks_115 : decode cX10_walks 115 = .ok (.iastore, 1) := by decide +kernel
theorem dX10_walks_116 : decode cX10_walks 116 = .ok (.iinc 3 1, 3) := by decide +kernel
theorem dX10_walks_119 : decode cX10_walks 119 = .ok (.goto (-43), 3) := by decide +kernel
theorem dX10_walks_122 : decode cX10_walks 122 = .ok (.aload_n 0, 1) := by decide +kernel
theorem dX10_walks_123 : decode cX10_walks 123 = .ok (.getfield 7, 3) := by decide +kernel
theorem dX10_walks_126 : decode cX10_walks 126 = .ok (.iload_n 1, 1) := by decide +kernel
theorem dX10_walks_127 : decode cX10_walks 127 = .ok (.bipush 6, 2) := by decide +kernel
theorem dX10_walks_129 : decode cX10_walks 129 = .ok (.iadd, 1) := by decide +kernel
theorem dX10_walks_130 : decode cX10_walks 130 = .ok (.iload_n 2, 1) := by decide +kernel
theorem dX10_walks_131 : decode cX10_walks 131 = .ok (.iadd, 1) := by decide +kernel
theorem dX10_walks_132 : decode cX10_walks 132 = .ok (.dup2, 1) := by decide +kernel
theorem dX10_walks_133 : decode cX10_walks 133 = .ok (.iaload, 1) := by decide +kernel
theorem dX10_walks_134 : decode cX10_walks 134 = .ok (.iconst 1, 1) := by decide +kernel
theorem dX10_walks_135 : decode cX10_walks 135 = .ok (.isub, 1) := by decide +kernel
theorem dX10_walks_136 : decode cX10_walks 136 = .ok (.iastore, 1) := by decide +kernel
theorem dX10_walks_137 : decode cX10_walks 137 = .ok (.return_, 1) := by decide +kernel
theorem dX10_haveMet_0 : decode cX10_haveMet 0 = .ok (.aload_n 0, 1) := by decide +kernel
theorem dX10_haveMet_1 : decode cX10_haveMet 1 = .ok (.getfield 7, 3) := by decide +kernel
theorem dX10_haveMet_4 : decode cX10_haveMet 4 = .ok (.iload_n 1, 1) := by decide +kernel
theorem dX10_haveMet_5 : decode cX10_haveMet 5 = .ok (.iconst 2, 1) := by decide +kernel
theorem dX10_haveMet_6 : decode cX10_haveMet 6 = .ok (.iadd, 1) := by decide +kernel
theorem dX10_haveMet_7 : decode cX10_haveMet 7 = .ok (.iload_n 2, 1) := by decide +kernel
theorem dX10_haveMet_8 : decode cX10_haveMet 8 = .ok (.iadd, 1) := by decide +kernel
theorem dX10_haveMet_9 : decode cX10_haveMet 9 = .ok (.iaload, 1) := by decide +kernel
theorem dX10_haveMet_10 : decode cX10_haveMet 10 = .ok (.aload_n 0, 1) := by decide +kernel
theorem dX10_haveMet_11 : decode cX10_haveMet 11 = .ok (.getfield 7, 3) := by decide +kernel
theorem dX10_haveMet_14 : decode cX10_haveMet 14 = .ok (.iload_n 1, 1) := by decide +kernel
theorem dX10_haveMet_15 : decode cX10_haveMet 15 = .ok (.iconst 2, 1) := by decide +kernel
theorem dX10_haveMet_16 : decode cX10_haveMet 16 = .ok (.iadd, 1) := by decide +kernel
theorem dX10_haveMet_17 : decode cX10_haveMet 17 = .ok (.iload_n 3, 1) := by decide +kernel
theorem dX10_haveMet_18 : decode cX10_haveMet 18 = .ok (.iadd, 1) := by decide +kernel
theorem dX10_haveMet_19 : decode cX10_haveMet 19 = .ok (.iaload, 1) := by decide +kernel
theorem dX10_haveMet_20 : decode cX10_haveMet 20 = .ok (.if_icmp .ne 25, 3) := by decide +kernel
theorem dX10_haveMet_23 : decode cX10_haveMet 23 = .ok (.aload_n 0, 1) := by decide +kernel
theorem dX10_haveMet_24 : decode cX10_haveMet 24 = .ok (.getfield 57, 3) := by decide +kernel
theorem dX10_haveMet_27 : decode cX10_haveMet 27 = .ok (.iload_n 2, 1) := by decide +kernel
theorem dX10_haveMet_28 : decode cX10_haveMet 28 = .ok (.baload, 1) := by decide +kernel
theorem dX10_haveMet_29 : decode cX10_haveMet 29 = .ok (.ifCond .ne 12, 3) := by decide +kernel
theorem dX10_haveMet_32 : decode cX10_haveMet 32 = .ok (.aload_n 0, 1) := by decide +kernel
theorem dX10_haveMet_33 : decode cX10_haveMet 33 = .ok (.getfield 57, 3) := by decide +kernel
theorem dX10_haveMet_36 : decode cX10_haveMet 36 = .ok (.iload_n 3, 1) := by decide +kernel
theorem dX10_haveMet_37 : decode cX10_haveMet 37 = .ok (.baload, 1) := by decide +kernel
theorem dX10_haveMet_38 : decode cX10_haveMet 38 = .ok (.ifCond .eq 7, 3) := by decide +kernel
theorem dX10_haveMet_41 : decode cX10_haveMet 41 = .ok (.iconst 1, 1) := by decide +kernel
theorem dX10_haveMet_42 : decode cX10_haveMet 42 = .ok (.goto 4, 3) := by decide +kernel
theorem dX10_haveMet_45 : decode cX10_haveMet 45 = .ok (.iconst 0, 1) := by decide +kernel
theorem dX10_haveMet_46 : decode cX10_haveMet 46 = .ok (.istore 4, 2) := by decide +kernel
theorem dX10_haveMet_48 : decode cX10_haveMet 48 = .ok (.aload_n 0, 1) := by decide +kernel
theorem dX10_haveMet_49 : decode cX10_haveMet 49 = .ok (.getfield 57, 3) := by decide +kernel
theorem dX10_haveMet_52 : decode cX10_haveMet 52 = .ok (.iload_n 2, 1) := by decide +kernel
theorem dX10_haveMet_53 : decode cX10_haveMet 53 = .ok (.baload, 1) := by decide +kernel
theorem dX10_haveMet_54 : decode cX10_haveMet 54 = .ok (.ifCond .eq 54, 3) := by decide +kernel
theorem dX10_haveMet_57 : decode cX10_haveMet 57 = .ok (.aload_n 0, 1) := by decide +kernel
theorem dX10_haveMet_58 : decode cX10_haveMet 58 = .ok (.getfield 57, 3) := by decide +kernel
theorem dX10_haveMet_61 : decode cX10_haveMet 61 = .ok (.iload_n 3, 1) := by decide +kernel
theorem dX10_haveMet_62 : decode cX10_haveMet 62 = .ok (.baload, 1) := by decide +kernel
theorem dX10_haveMet_63 : decode cX10_haveMet 63 = .ok (.ifCond .eq 45, 3) := by decide +kernel
theorem dX10_haveMet_66 : decode cX10_haveMet 66 = .ok (.aload_n 0, 1) := by decide +kernel
theorem dX10_haveMet_67 : decode cX10_haveMet 67 = .ok (.getfield 7, 3) := by decide +kernel
theorem dX10_haveMet_70 : decode cX10_haveMet 70 = .ok (.iload_n 1, 1) := by decide +kernel
theorem dX10_haveMet_71 : decode cX10_haveMet 71 = .ok (.iconst 2, 1) := by decide +kernel
theorem dX10_haveMet_72 : decode cX10_haveMet 72 = .ok (.iadd, 1) := by decide +kernel
theorem dX10_haveMet_73 : decode cX10_haveMet 73 = .ok (.iload_n 2, 1) := by decide +kernel
theorem dX10_haveMet_74 : decode cX10_haveMet 74 = .ok (.iadd, 1) := by decide +kernel
theorem dX10_haveMet_75 : decode cX10_haveMet 75 = .ok (.iaload, 1) := by decide +kernel
theorem dX10_haveMet_76 : decode cX10_haveMet 76 = .ok (.aload_n 0, 1) := by decide +kernel
theorem dX10_haveMet_77 : decode cX10_haveMet 77 = .ok (.getfield 54, 3) := by decide +kernel
theorem dX10_haveMet_80 : decode cX10_haveMet 80 = .ok (.iload_n 3, 1) := by decide +kernel
theorem dX10_haveMet_81 : decode cX10_haveMet 81 = .ok (.iaload, 1) := by decide +kernel
theorem dX10_haveMet_82 : decode cX10_haveMet 82 = .ok (.if_icmp .ne 26, 3) := by decide +kernel
theorem dX10_haveMet_85 : decode cX10_haveMet 85 = .ok (.aload_n 0, 1) := by decide +kernel
theorem dX10_haveMet_86 : decode cX10_haveMet 86 = .ok (.getfield 7, 3) := by decide +kernel
theorem dX10_haveMet_89 : decode cX10_haveMet 89 = .ok (.iload_n 1, 1) := by decide +kernel
theorem dX10_haveMet_90 : decode cX10_haveMet 90 = .ok (.iconst 2, 1) := by decide +kernel
theorem dX10_haveMet_91 : decode cX10_haveMet 91 = .ok (.iadd, 1) := by decide +kernel
theorem dX10_haveMet_92 : decode cX10_haveMet 92 = .ok (.iload_n 3, 1) := by decide +kernel
theorem dX10_haveMet_93 : decode cX10_haveMet 93 = .ok (.iadd, 1) := by decide +kernel
theorem dX10_haveMet_94 : decode cX10_haveMet 94 = .ok (.iaload, 1) := by decide +kernel
theorem dX10_haveMet_95 : decode cX10_haveMet 95 = .ok (.aload_n 0, 1) := by decide +kernel
theorem dX10_haveMet_96 : decode cX10_haveMet 96 = .ok (.getfield 54, 3) := by decide +kernel
theorem dX10_haveMet_99 : decode cX10_haveMet 99 = .ok (.iload_n 2, 1) := by decide +kernel
theorem dX10_haveMet_100 : decode cX10_haveMet 100 = .ok (.iaload, 1) := by decide +kernel
theorem dX10_haveMet_101 : decode cX10_haveMet 101 = .ok (.if_icmp .ne 7, 3) := by decide +kernel
theorem dX10_haveMet_104 : decode cX10_haveMet 104 = .ok (.iconst 1, 1) := by decide +kernel
theorem dX10_haveMet_105 : decode cX10_haveMet 105 = .ok (.goto 4, 3) := by decide +kernel
theorem dX10_haveMet_108 : decode cX10_haveMet 108 = .ok (.iconst 0, 1) := by decide +kernel
theorem dX10_haveMet_109 : decode cX10_haveMet 109 = .ok (.istore 5, 2) := by decide +kernel
theorem dX10_haveMet_111 : decode cX10_haveMet 111 = .ok (.iload 4, 2) := by decide +kernel
theorem dX10_haveMet_113 : decode cX10_haveMet 113 = .ok (.ifCond .ne 8, 3) := by decide +kernel
theorem dX10_haveMet_116 : decode cX10_haveMet 116 = .ok (.iload 5, 2) := by decide +kernel
theorem dX10_haveMet_118 : decode cX10_haveMet 118 = .ok (.ifCond .eq 7, 3) := by decide +kernel
theorem dX10_haveMet_121 : decode cX10_haveMet 121 = .ok (.iconst 1, 1) := by decide +kernel
theorem dX10_haveMet_122 : decode cX10_haveMet 122 = .ok (.goto 4, 3) := by decide +kernel
theorem dX10_haveMet_125 : decode cX10_haveMet 125 = .ok (.iconst 0, 1) := by decide +kernel
theorem dX10_haveMet_126 : decode cX10_haveMet 126 = .ok (.ireturn, 1) := by decide +kernel
theorem dX10_spills_0 : decode cX10_spills 0 = .ok (.aload_n 0, 1) := by decide +kernel
theorem dX10_spills_1 : decode cX10_spills 1 = .ok (.iload_n 1, 1) := by decide +kernel
theorem dX10_spills_2 : decode cX10_spills 2 = .ok (.iload_n 2, 1) := by decide +kernel
theorem dX10_spills_3 : decode cX10_spills 3 = .ok (.invokevirtual 223, 3) := by decide +kernel
theorem dX10_spills_6 : decode cX10_spills 6 = .ok (.istore_n 3, 1) := by decide +kernel
theorem dX10_spills_7 : decode cX10_spills 7 = .ok (.iconst (-1), 1) := by decide +kernel
theorem dX10_spills_8 : decode cX10_spills 8 = .ok (.istore 4, 2) := by decide +kernel
theorem dX10_spills_10 : decode cX10_spills 10 = .ok (.iconst 0, 1) := by decide +kernel
theorem dX10_spills_11 : decode cX10_spills 11 = .ok (.istore 5, 2) := by decide +kernel
theorem dX10_spills_13 : decode cX10_spills 13 = .ok (.iload 5, 2) := by decide +kernel
theorem dX10_spills_15 : decode cX10_spills 15 = .ok (.aload_n 0, 1) := by decide +kernel
theorem dX10_spills_16 : decode cX10_spills 16 = .ok (.getfield 104, 3) := by decide +kernel
theorem dX10_spills_19 : decode cX10_spills 19 = .ok (.if_icmp .ge 50, 3) := by decide +kernel
theorem dX10_spills_22 : decode cX10_spills 22 = .ok (.iload_n 3, 1) := by decide +kernel
theorem dX10_spills_23 : decode cX10_spills 23 = .ok (.iload 5, 2) := by decide +kernel
theorem dX10_spills_25 : decode cX10_spills 25 = .ok (.invokestatic 151, 3) := by decide +kernel
theorem dX10_spills_28 : decode cX10_spills 28 = .ok (.ifCond .eq 31, 3) := by decide +kernel
theorem dX10_spills_31 : decode cX10_spills 31 = .ok (.iload 4, 2) := by decide +kernel
theorem dX10_spills_33 : decode cX10_spills 33 = .ok (.iconst (-1), 1) := by decide +kernel
theorem dX10_spills_34 : decode cX10_spills 34 = .ok (.if_icmp .eq 20, 3) := by decide +kernel
theorem dX10_spills_37 : decode cX10_spills 37 = .ok (.aload_n 0, 1) := by decide +kernel
theorem dX10_spills_38 : decode cX10_spills 38 = .ok (.getfield 23, 3) := by decide +kernel
theorem dX10_spills_41 : decode cX10_spills 41 = .ok (.iload 5, 2) := by decide +kernel
theorem dX10_spills_43 : decode cX10_spills 43 = .ok (.iaload, 1) := by decide +kernel
theorem dX10_spills_44 : decode cX10_spills 44 = .ok (.aload_n 0, 1) := by decide +kernel
theorem dX10_spills_45 : decode cX10_spills 45 = .ok (.getfield 23, 3) := by decide +kernel
theorem dX10_spills_48 : decode cX10_spills 48 = .ok (.iload 4, 2) := by decide +kernel
theorem dX10_spills_50 : decode cX10_spills 50 = .ok (.iaload, 1) := by decide +kernel
theorem dX10_spills_51 : decode cX10_spills 51 = .ok (.if_icmp .le 8, 3) := by decide +kernel
theorem dX10_spills_54 : decode cX10_spills 54 = .ok (.iload 5, 2) := by decide +kernel
theorem dX10_spills_56 : decode cX10_spills 56 = .ok (.goto 5, 3) := by decide +kernel
theorem dX10_spills_59 : decode cX10_spills 59 = .ok (.iload 4, 2) := by decide +kernel
theorem dX10_spills_61 : decode cX10_spills 61 = .ok (.istore 4, 2) := by decide +kernel
theorem dX10_spills_63 : decode cX10_spills 63 = .ok (.iinc 5 1, 3) := by decide +kernel
theorem dX10_spills_66 : decode cX10_spills 66 = .ok (.goto (-53), 3) := by decide +kernel
theorem dX10_spills_69 : decode cX10_spills 69 = .ok (.iload 4, 2) := by decide +kernel
theorem dX10_spills_71 : decode cX10_spills 71 = .ok (.iconst (-1), 1) := by decide +kernel
theorem dX10_spills_72 : decode cX10_spills 72 = .ok (.if_icmp .eq 17, 3) := by decide +kernel
theorem dX10_spills_75 : decode cX10_spills 75 = .ok (.aload_n 0, 1) := by decide +kernel
theorem dX10_spills_76 : decode cX10_spills 76 = .ok (.getfield 7, 3) := by decide +kernel
theorem dX10_spills_79 : decode cX10_spills 79 = .ok (.iload_n 1, 1) := by decide +kernel
theorem dX10_spills_80 : decode cX10_spills 80 = .ok (.bipush 50, 2) := by decide +kernel
theorem dX10_spills_82 : decode cX10_spills 82 = .ok (.iadd, 1) := by decide +kernel
theorem dX10_spills_83 : decode cX10_spills 83 = .ok (.iload 4, 2) := by decide +kernel
theorem dX10_spills_85 : decode cX10_spills 85 = .ok (.iadd, 1) := by decide +kernel
theorem dX10_spills_86 : decode cX10_spills 86 = .ok (.bipush (-2), 2) := by decide +kernel
theorem dX10_spills_88 : decode cX10_spills 88 = .ok (.iastore, 1) := by decide +kernel
theorem dX10_spills_89 : decode cX10_spills 89 = .ok (.return_, 1) := by decide +kernel
theorem dX10_passes_0 : decode cX10_passes 0 = .ok (.iconst 0, 1) := by decide +kernel
theorem dX10_passes_1 : decode cX10_passes 1 = .ok (.istore_n 2, 1) := by decide +kernel
theorem dX10_passes_2 : decode cX10_passes 2 = .ok (.iconst 0, 1) := by decide +kernel
theorem dX10_passes_3 : decode cX10_passes 3 = .ok (.istore_n 3, 1) := by decide +kernel
theorem dX10_passes_4 : decode cX10_passes 4 = .ok (.iload_n 3, 1) := by decide +kernel
theorem dX10_passes_5 : decode cX10_passes 5 = .ok (.aload_n 0, 1) := by decide +kernel
theorem dX10_passes_6 : decode cX10_passes 6 = .ok (.getfield 97, 3) := by decide +kernel
theorem dX10_passes_9 : decode cX10_passes 9 = .ok (.if_icmp .ge 32, 3) := by decide +kernel
theorem dX10_passes_12 : decode cX10_passes 12 = .ok (.iload_n 2, 1) := by decide +kernel
theorem dX10_passes_13 : decode cX10_passes 13 = .ok (.aload_n 0, 1) := by decide +kernel
theorem dX10_passes_14 : decode cX10_passes 14 = .ok (.iload_n 1, 1) := by decide +kernel
theorem dX10_passes_15 : decode cX10_passes 15 = .ok (.iload_n 3, 1) := by decide +kernel
theorem dX10_passes_16 : decode cX10_passes 16 = .ok (.invokevirtual 226, 3) := by decide +kernel
theorem dX10_passes_19 : decode cX10_passes 19 = .ok (.aload_n 0, 1) := by decide +kernel
theorem dX10_passes_20 : decode cX10_passes 20 = .ok (.getfield 191, 3) := by decide +kernel
theorem dX10_passes_23 : decode cX10_passes 23 = .ok (.if_icmp .le 9, 3) := by decide +kernel
theorem dX10_passes_26 : decode cX10_passes 26 = .ok (.iconst 1, 1) := by decide +kernel
theorem dX10_passes_27 : decode cX10_passes 27 = .ok (.iload_n 3, 1) := by decide +kernel
theorem dX10_passes_28 : decode cX10_passes 28 = .ok (.ishl, 1) := by decide +kernel
theorem dX10_passes_29 : decode cX10_passes 29 = .ok (.goto 4, 3) := by decide +kernel
theorem dX10_passes_32 : decode cX10_passes 32 = .ok (.iconst 0, 1) := by decide +kernel
theorem dX10_passes_33 : decode cX10_passes 33 = .ok (.ior, 1) := by decide +kernel
theorem dX10_passes_34 : decode cX10_passes 34 = .ok (.istore_n 2, 1) := by decide +kernel
theorem dX10_passes_35 : decode cX10_passes 35 = .ok (.iinc 3 1, 3) := by decide +kernel
theorem dX10_passes_38 : decode cX10_passes 38 = .ok (.goto (-34), 3) := by decide +kernel
theorem dX10_passes_41 : decode cX10_passes 41 = .ok (.iconst 0, 1) := by decide +kernel
theorem dX10_passes_42 : decode cX10_passes 42 = .ok (.istore_n 3, 1) := by decide +kernel
theorem dX10_passes_43 : decode cX10_passes 43 = .ok (.iload_n 3, 1) := by decide +kernel
theorem dX10_passes_44 : decode cX10_passes 44 = .ok (.aload_n 0, 1) := by decide +kernel
theorem dX10_passes_45 : decode cX10_passes 45 = .ok (.getfield 97, 3) := by decide +kernel
theorem dX10_passes_48 : decode cX10_passes 48 = .ok (.if_icmp .ge 15, 3) := by decide +kernel
theorem dX10_passes_51 : decode cX10_passes 51 = .ok (.aload_n 0, 1) := by decide +kernel
theorem dX10_passes_52 : decode cX10_passes 52 = .ok (.iload_n 1, 1) := by decide +kernel
theorem dX10_passes_53 : decode cX10_passes 53 = .ok (.iload_n 3, 1) := by decide +kernel
theorem dX10_passes_54 : decode cX10_passes 54 = .ok (.invokevirtual 235, 3) := by decide +kernel
theorem dX10_passes_57 : decode cX10_passes 57 = .ok (.iinc 3 1, 3) := by decide +kernel
theorem dX10_passes_60 : decode cX10_passes 60 = .ok (.goto (-17), 3) := by decide +kernel
theorem dX10_passes_63 : decode cX10_passes 63 = .ok (.iconst 0, 1) := by decide +kernel
theorem dX10_passes_64 : decode cX10_passes 64 = .ok (.istore_n 3, 1) := by decide +kernel
theorem dX10_passes_65 : decode cX10_passes 65 = .ok (.iconst 0, 1) := by decide +kernel
theorem dX10_passes_66 : decode cX10_passes 66 = .ok (.istore 4, 2) := by decide +kernel
theorem dX10_passes_68 : decode cX10_passes 68 = .ok (.iload 4, 2) := by decide +kernel
theorem dX10_passes_70 : decode cX10_passes 70 = .ok (.aload_n 0, 1) := by decide +kernel
theorem dX10_passes_71 : decode cX10_passes 71 = .ok (.getfield 97, 3) := by decide +kernel
theorem dX10_passes_74 : decode cX10_passes 74 = .ok (.if_icmp .ge 90, 3) := by decide +kernel
theorem dX10_passes_77 : decode cX10_passes 77 = .ok (.iload 4, 2) := by decide +kernel
theorem dX10_passes_79 : decode cX10_passes 79 = .ok (.iconst 1, 1) := by decide +kernel
theorem dX10_passes_80 : decode cX10_passes 80 = .ok (.iadd, 1) := by decide +kernel
theorem dX10_passes_81 : decode cX10_passes 81 = .ok (.istore 5, 2) := by decide +kernel
theorem dX10_passes_83 : decode cX10_passes 83 = .ok (.iload 5, 2) := by decide +kernel
theorem dX10_passes_85 : decode cX10_passes 85 = .ok (.aload_n 0, 1) := by decide +kernel
theorem dX10_passes_86 : decode cX10_passes 86 = .ok (.getfield 97, 3) := by decide +kernel
theorem dX10_passes_89 : decode cX10_passes 89 = .ok (.if_icmp .ge 69, 3) := by decide +kernel
theorem dX10_passes_92 : decode cX10_passes 92 = .ok (.aload_n 0, 1) := by decide +kernel
theorem dX10_passes_93 : decode cX10_passes 93 = .ok (.iload_n 1, 1) := by decide +kernel
theorem dX10_passes_94 : decode cX10_passes 94 = .ok (.iload 4, 2) := by decide +kernel
theorem dX10_passes_96 : decode cX10_passes 96 = .ok (.iload 5, 2) := by decide +kernel
theorem dX10_passes_98 : decode cX10_passes 98 = .ok (.invokevirtual 239, 3) := by decide +kernel
theorem dX10_passes_101 : decode cX10_passes 101 = .ok (.ifCond .eq 51, 3) := by decide +kernel
theorem dX10_passes_104 : decode cX10_passes 104 = .ok (.aload_n 0, 1) := by decide +kernel
theorem dX10_passes_105 : decode cX10_passes 105 = .ok (.getfield 7, 3) := by decide +kernel
theorem dX10_passes_108 : decode cX10_passes 108 = .ok (.iload_n 1, 1) := by decide +kernel
theorem dX10_passes_109 : decode cX10_passes 109 = .ok (.iconst 1, 1) := by decide +kernel
theorem dX10_passes_110 : decode cX10_passes 110 = .ok (.iadd, 1) := by decide +kernel
theorem dX10_passes_111 : decode cX10_passes 111 = .ok (.dup2, 1) := by decide +kernel
theorem dX10_passes_112 : decode cX10_passes 112 = .ok (.iaload, 1) := by decide +kernel
theorem dX10_passes_113 : decode cX10_passes 113 = .ok (.iconst 1, 1) := by decide +kernel
theorem dX10_passes_114 : decode cX10_passes 114 = .ok (.iadd, 1) := by decide +kernel
theorem dX10_passes_115 : decode cX10_passes 115 = .ok (.iastore, 1) := by decide +kernel
theorem dX10_passes_116 : decode cX10_passes 116 = .ok (.iload_n 3, 1) := by decide +kernel
theorem dX10_passes_117 : decode cX10_passes 117 = .ok (.aload_n 0, 1) := by decide +kernel
theorem dX10_passes_118 : decode cX10_passes 118 = .ok (.getfield 7, 3) := by decide +kernel
theorem dX10_passes_121 : decode cX10_passes 121 = .ok (.iload_n 1, 1) := by decide +kernel
theorem dX10_passes_122 : decode cX10_passes 122 = .ok (.bipush 46, 2) := by decide +kernel
theorem dX10_passes_124 : decode cX10_passes 124 = .ok (.iadd, 1) := by decide +kernel
theorem dX10_passes_125 : decode cX10_passes 125 = .ok (.iload 4, 2) := by decide +kernel
theorem dX10_passes_127 : decode cX10_passes 127 = .ok (.iadd, 1) := by decide +kernel
theorem dX10_passes_128 : decode cX10_passes 128 = .ok (.iaload, 1) := by decide +kernel
theorem dX10_passes_129 : decode cX10_passes 129 = .ok (.iload 5, 2) := by decide +kernel
theorem dX10_passes_131 : decode cX10_passes 131 = .ok (.invokestatic 151, 3) := by decide +kernel
theorem dX10_passes_134 : decode cX10_passes 134 = .ok (.ifCond .eq 7, 3) := by decide +kernel
theorem dX10_passes_137 : decode cX10_passes 137 = .ok (.iconst 0, 1) := by decide +kernel
theorem dX10_passes_138 : decode cX10_passes 138 = .ok (.goto 12, 3) := by decide +kernel
theorem dX10_passes_141 : decode cX10_passes 141 = .ok (.iconst 1, 1) := by decide +kernel
theorem dX10_passes_142 : decode cX10_passes 142 = .ok (.iload 4, 2) := by decide +kernel
theorem dX10_passes_144 : decode cX10_passes 144 = .ok (.ishl, 1) := by decide +kernel
theorem dX10_passes_145 : decode cX10_passes 145 = .ok (.iconst 1, 1) := by decide +kernel
theorem dX10_passes_146 : decode cX10_passes 146 = .ok (.iload 5, 2) := by decide +kernel
theorem dX10_passes_148 : decode cX10_passes 148 = .ok (.ishl, 1) := by decide +kernel
theorem dX10_passes_149 : decode cX10_passes 149 = .ok (.ior, 1) := by decide +kernel
theorem dX10_passes_150 : decode cX10_passes 150 = .ok (.ior, 1) := by decide +kernel
theorem dX10_passes_151 : decode cX10_passes 151 = .ok (.istore_n 3, 1) := by decide +kernel
theorem dX10_passes_152 : decode cX10_passes 152 = .ok (.iinc 5 1, 3) := by decide +kernel
theorem dX10_passes_155 : decode cX10_passes 155 = .ok (.goto (-72), 3) := by decide +kernel
theorem dX10_passes_158 : decode cX10_passes 158 = .ok (.iinc 4 1, 3) := by decide +kernel
theorem dX10_passes_161 : decode cX10_passes 161 = .ok (.goto (-93), 3) := by decide +kernel
theorem dX10_passes_164 : decode cX10_passes 164 = .ok (.iconst 0, 1) := by decide +kernel
theorem dX10_passes_165 : decode cX10_passes 165 = .ok (.istore 4, 2) := by decide +kernel
theorem dX10_passes_167 : decode cX10_passes 167 = .ok (.iload 4, 2) := by decide +kernel
theorem dX10_passes_169 : decode cX10_passes 169 = .ok (.aload_n 0, 1) := by decide +kernel
theorem dX10_passes_170 : decode cX10_passes 170 = .ok (.getfield 97, 3) := by decide +kernel
theorem dX10_passes_173 : decode cX10_passes 173 = .ok (.if_icmp .ge 27, 3) := by decide +kernel
theorem dX10_passes_176 : decode cX10_passes 176 = .ok (.iload_n 3, 1) := by decide +kernel
theorem dX10_passes_177 : decode cX10_passes 177 = .ok (.iload_n 2, 1) := by decide +kernel
theorem dX10_passes_178 : decode cX10_passes 178 = .ok (.iand, 1) := by decide +kernel
theorem dX10_passes_179 : decode cX10_passes 179 = .ok (.iload 4, 2) := by decide +kernel
theorem dX10_passes_181 : decode cX10_passes 181 = .ok (.invokestatic 151, 3) := by decide +kernel
theorem dX10_passes_184 : decode cX10_passes 184 = .ok (.ifCond .eq 10, 3) := by decide +kernel
theorem dX10_passes_187 : decode cX10_passes 187 = .ok (.aload_n 0, 1) := by decide +kernel
theorem dX10_passes_188 : decode cX10_passes 188 = .ok (.iload_n 1, 1) := by decide +kernel
theorem dX10_passes_189 : decode cX10_passes 189 = .ok (.iload 4, 2) := by decide +kernel
theorem dX10_passes_191 : decode cX10_passes 191 = .ok (.invokevirtual 243, 3) := by decide +kernel
theorem dX10_passes_194 : decode cX10_passes 194 = .ok (.iinc 4 1, 3) := by decide +kernel
theorem dX10_passes_197 : decode cX10_passes 197 = .ok (.goto (-30), 3) := by decide +kernel
theorem dX10_passes_200 : decode cX10_passes 200 = .ok (.aload_n 0, 1) := by decide +kernel
theorem dX10_passes_201 : decode cX10_passes 201 = .ok (.getfield 7, 3) := by decide +kernel
theorem dX10_passes_204 : decode cX10_passes 204 = .ok (.iload_n 1, 1) := by decide +kernel
theorem dX10_passes_205 : decode cX10_passes 205 = .ok (.iconst 0, 1) := by decide +kernel
theorem dX10_passes_206 : decode cX10_passes 206 = .ok (.iadd, 1) := by decide +kernel
theorem dX10_passes_207 : decode cX10_passes 207 = .ok (.dup2, 1) := by decide +kernel
theorem dX10_passes_208 : decode cX10_passes 208 = .ok (.iaload, 1) := by decide +kernel
theorem dX10_passes_209 : decode cX10_passes 209 = .ok (.iconst 1, 1) := by decide +kernel
theorem dX10_passes_210 : decode cX10_passes 210 = .ok (.iadd, 1) := by decide +kernel
theorem dX10_passes_211 : decode cX10_passes 211 = .ok (.iastore, 1) := by decide +kernel
theorem dX10_passes_212 : decode cX10_passes 212 = .ok (.return_, 1) := by decide +kernel
theorem dX10_minds_0 : decode cX10_minds 0 = .ok (.aload_n 0, 1) := by decide +kernel
theorem dX10_minds_1 : decode cX10_minds 1 = .ok (.getfield 206, 3) := by decide +kernel
theorem dX10_minds_4 : decode cX10_minds 4 = .ok (.bipush 20, 2) := by decide +kernel
theorem dX10_minds_6 : decode cX10_minds 6 = .ok (.if_icmp .ne 51, 3) := by decide +kernel
theorem dX10_minds_9 : decode cX10_minds 9 = .ok (.iconst 0, 1) := by decide +kernel
theorem dX10_minds_10 : decode cX10_minds 10 = .ok (.istore_n 1, 1) := by decide +kernel
theorem dX10_minds_11 : decode cX10_minds 11 = .ok (.iload_n 1, 1) := by decide +kernel
theorem dX10_minds_12 : decode cX10_minds 12 = .ok (.sipush 1121, 3) := by decide +kernel
theorem dX10_minds_15 : decode cX10_minds 15 = .ok (.if_icmp .ge 32, 3) := by decide +kernel
theorem dX10_minds_18 : decode cX10_minds 18 = .ok (.aload_n 0, 1) := by decide +kernel
theorem dX10_minds_19 : decode cX10_minds 19 = .ok (.getfield 7, 3) := by decide +kernel
theorem dX10_minds_22 : decode cX10_minds 22 = .ok (.sipush 236, 3) := by decide +kernel
theorem dX10_minds_25 : decode cX10_minds 25 = .ok (.iload_n 1, 1) := by decide +kernel
theorem dX10_minds_26 : decode cX10_minds 26 = .ok (.iadd, 1) := by decide +kernel
theorem dX10_minds_27 : decode cX10_minds 27 = .ok (.aload_n 0, 1) := by decide +kernel
theorem dX10_minds_28 : decode cX10_minds 28 = .ok (.getfield 7, 3) := by decide +kernel
theorem dX10_minds_31 : decode cX10_minds 31 = .ok (.sipush 236, 3) := by decide +kernel
theorem dX10_minds_34 : decode cX10_minds 34 = .ok (.iload_n 1, 1) := by decide +kernel
theorem dX10_minds_35 : decode cX10_minds 35 = .ok (.iadd, 1) := by decide +kernel
theorem dX10_minds_36 : decode cX10_minds 36 = .ok (.bipush 59, 2) := by decide +kernel
theorem dX10_minds_38 : decode cX10_minds 38 = .ok (.iadd, 1) := by decide +kernel
theorem dX10_minds_39 : decode cX10_minds 39 = .ok (.iaload, 1) := by decide +kernel
theorem dX10_minds_40 : decode cX10_minds 40 = .ok (.iastore, 1) := by decide +kernel
theorem dX10_minds_41 : decode cX10_minds 41 = .ok (.iinc 1 1, 3) := by decide +kernel
theorem dX10_minds_44 : decode cX10_minds 44 = .ok (.goto (-33), 3) := by decide +kernel
theorem dX10_minds_47 : decode cX10_minds 47 = .ok (.aload_n 0, 1) := by decide +kernel
theorem dX10_minds_48 : decode cX10_minds 48 = .ok (.dup, 1) := by decide +kernel
theorem dX10_minds_49 : decode cX10_minds 49 = .ok (.getfield 206, 3) := by decide +kernel
theorem dX10_minds_52 : decode cX10_minds 52 = .ok (.iconst 1, 1) := by decide +kernel
theorem dX10_minds_53 : decode cX10_minds 53 = .ok (.isub, 1) := by decide +kernel
theorem dX10_minds_54 : decode cX10_minds 54 = .ok (.putfield 206, 3) := by decide +kernel
theorem dX10_minds_57 : decode cX10_minds 57 = .ok (.aload_n 0, 1) := by decide +kernel
theorem dX10_minds_58 : decode cX10_minds 58 = .ok (.iconst 0, 1) := by decide +kernel
theorem dX10_minds_59 : decode cX10_minds 59 = .ok (.sipush 236, 3) := by decide +kernel
theorem dX10_minds_62 : decode cX10_minds 62 = .ok (.bipush 59, 2) := by decide +kernel
theorem dX10_minds_64 : decode cX10_minds 64 = .ok (.aload_n 0, 1) := by decide +kernel
theorem dX10_minds_65 : decode cX10_minds 65 = .ok (.getfield 206, 3) := by decide +kernel
theorem dX10_minds_68 : decode cX10_minds 68 = .ok (.imul, 1) := by decide +kernel
theorem dX10_minds_69 : decode cX10_minds 69 = .ok (.iadd, 1) := by decide +kernel
theorem dX10_minds_70 : decode cX10_minds 70 = .ok (.invokevirtual 246, 3) := by decide +kernel
theorem dX10_minds_73 : decode cX10_minds 73 = .ok (.aload_n 0, 1) := by decide +kernel
theorem dX10_minds_74 : decode cX10_minds 74 = .ok (.dup, 1) := by decide +kernel
theorem dX10_minds_75 : decode cX10_minds 75 = .ok (.getfield 206, 3) := by decide +kernel
theorem dX10_minds_78 : decode cX10_minds 78 = .ok (.iconst 1, 1) := by decide +kernel
theorem dX10_minds_79 : decode cX10_minds 79 = .ok (.iadd, 1) := by decide +kernel
theorem dX10_minds_80 : decode cX10_minds 80 = .ok (.putfield 206, 3) := by decide +kernel
theorem dX10_minds_83 : decode cX10_minds 83 = .ok (.return_, 1) := by decide +kernel
theorem dX10_undo_0 : decode cX10_undo 0 = .ok (.aload_n 0, 1) := by decide +kernel
theorem dX10_undo_1 : decode cX10_undo 1 = .ok (.getfield 206, 3) := by decide +kernel
theorem dX10_undo_4 : decode cX10_undo 4 = .ok (.ifCond .ne 6, 3) := by decide +kernel
theorem dX10_undo_7 : decode cX10_undo 7 = .ok (.ldc 249, 2) := by decide +kernel
theorem dX10_undo_9 : decode cX10_undo 9 = .ok (.ireturn, 1) := by decide +kernel
theorem dX10_undo_10 : decode cX10_undo 10 = .ok (.aload_n 0, 1) := by decide +kernel
theorem dX10_undo_11 : decode cX10_undo 11 = .ok (.getfield 7, 3) := by decide +kernel
theorem dX10_undo_14 : decode cX10_undo 14 = .ok (.bipush 58, 2) := by decide +kernel
theorem dX10_undo_16 : decode cX10_undo 16 = .ok (.iaload, 1) := by decide +kernel
theorem dX10_undo_17 : decode cX10_undo 17 = .ok (.istore_n 1, 1) := by decide +kernel
theorem dX10_undo_18 : decode cX10_undo 18 = .ok (.aload_n 0, 1) := by decide +kernel
theorem dX10_undo_19 : decode cX10_undo 19 = .ok (.dup, 1) := by decide +kernel
theorem dX10_undo_20 : decode cX10_undo 20 = .ok (.getfield 206, 3) := by decide +kernel
theorem dX10_undo_23 : decode cX10_undo 23 = .ok (.iconst 1, 1) := by decide +kernel
theorem dX10_undo_24 : decode cX10_undo 24 = .ok (.isub, 1) := by decide +kernel
theorem dX10_undo_25 : decode cX10_undo 25 = .ok (.putfield 206, 3) := by decide +kernel
theorem dX10_undo_28 : decode cX10_undo 28 = .ok (.aload_n 0, 1) := by decide +kernel
theorem dX10_undo_29 : decode cX10_undo 29 = .ok (.sipush 236, 3) := by decide +kernel
theorem dX10_undo_32 : decode cX10_undo 32 = .ok (.bipush 59, 2) := by decide +kernel
theorem dX10_undo_34 : decode cX10_undo 34 = .ok (.aload_n 0, 1) := by decide +kernel
theorem dX10_undo_35 : decode cX10_undo 35 = .ok (.getfield 206, 3) := by decide +kernel
theorem dX10_undo_38 : decode cX10_undo 38 = .ok (.imul, 1) := by decide +kernel
theorem dX10_undo_39 : decode cX10_undo 39 = .ok (.iadd, 1) := by decide +kernel
theorem dX10_undo_40 : decode cX10_undo 40 = .ok (.iconst 0, 1) := by decide +kernel
theorem dX10_undo_41 : decode cX10_undo 41 = .ok (.invokevirtual 246, 3) := by decide +kernel
theorem dX10_undo_44 : decode cX10_undo 44 = .ok (.aload_n 0, 1) := by decide +kernel
theorem dX10_undo_45 : decode cX10_undo 45 = .ok (.getfield 7, 3) := by decide +kernel
theorem dX10_undo_48 : decode cX10_undo 48 = .ok (.bipush 58, 2) := by decide +kernel
theorem dX10_undo_50 : decode cX10_undo 50 = .ok (.iload_n 1, 1) := by decide +kernel
theorem dX10_undo_51 : decode cX10_undo 51 = .ok (.iastore, 1) := by decide +kernel
theorem dX10_undo_52 : decode cX10_undo 52 = .ok (.aload_n 0, 1) := by decide +kernel
theorem dX10_undo_53 : decode cX10_undo 53 = .ok (.getfield 206, 3) := by decide +kernel
theorem dX10_undo_56 : decode cX10_undo 56 = .ok (.ireturn, 1) := by decide +kernel
theorem dX10_minute_0 : decode cX10_minute 0 = .ok (.iload_n 1, 1) := by decide +kernel
theorem dX10_minute_1 : decode cX10_minute 1 = .ok (.i2l, 1) := by decide +kernel
theorem dX10_minute_2 : decode cX10_minute 2 = .ok (.lconst 1, 1) := by decide +kernel
theorem dX10_minute_3 : decode cX10_minute 3 = .ok (.ldc2_w 250, 3) := by decide +kernel
theorem dX10_minute_6 : decode cX10_minute 6 = .ok (.invokestatic 93, 3) := by decide +kernel
theorem dX10_minute_9 : decode cX10_minute 9 = .ok (.ifCond .ne 6, 3) := by decide +kernel
theorem dX10_minute_12 : decode cX10_minute 12 = .ok (.ldc 109, 2) := by decide +kernel
theorem dX10_minute_14 : decode cX10_minute 14 = .ok (.ireturn, 1) := by decide +kernel
theorem dX10_minute_15 : decode cX10_minute 15 = .ok (.aload_n 0, 1) := by decide +kernel
theorem dX10_minute_16 : decode cX10_minute 16 = .ok (.getfield 90, 3) := by decide +kernel
theorem dX10_minute_19 : decode cX10_minute 19 = .ok (.ifCond .ne 6, 3) := by decide +kernel
theorem dX10_minute_22 : decode cX10_minute 22 = .ok (.ldc 249, 2) := by decide +kernel
theorem dX10_minute_24 : decode cX10_minute 24 = .ok (.ireturn, 1) := by decide +kernel
theorem dX10_minute_25 : decode cX10_minute 25 = .ok (.aload_n 0, 1) := by decide +kernel
theorem dX10_minute_26 : decode cX10_minute 26 = .ok (.getfield 7, 3) := by decide +kernel
theorem dX10_minute_29 : decode cX10_minute 29 = .ok (.iconst 0, 1) := by decide +kernel
theorem dX10_minute_30 : decode cX10_minute 30 = .ok (.iaload, 1) := by decide +kernel
theorem dX10_minute_31 : decode cX10_minute 31 = .ok (.sipush 9000, 3) := by decide +kernel
theorem dX10_minute_34 : decode cX10_minute 34 = .ok (.if_icmp .le 6, 3) := by decide +kernel
theorem dX10_minute_37 : decode cX10_minute 37 = .ok (.ldc 113, 2) := by decide +kernel
theorem dX10_minute_39 : decode cX10_minute 39 = .ok (.ireturn, 1) := by decide +kernel
theorem dX10_minute_40 : decode cX10_minute 40 = .ok (.aload_n 0, 1) := by decide +kernel
theorem dX10_minute_41 : decode cX10_minute 41 = .ok (.invokevirtual 252, 3) := by decide +kernel
theorem dX10_minute_44 : decode cX10_minute 44 = .ok (.iconst 0, 1) := by decide +kernel
theorem dX10_minute_45 : decode cX10_minute 45 = .ok (.istore_n 2, 1) := by decide +kernel
theorem dX10_minute_46 : decode cX10_minute 46 = .ok (.iload_n 2, 1) := by decide +kernel
theorem dX10_minute_47 : decode cX10_minute 47 = .ok (.iload_n 1, 1) := by decide +kernel
theorem dX10_minute_48 : decode cX10_minute 48 = .ok (.if_icmp .ge 14, 3) := by decide +kernel
theorem dX10_minute_51 : decode cX10_minute 51 = .ok (.aload_n 0, 1) := by decide +kernel
theorem dX10_minute_52 : decode cX10_minute 52 = .ok (.iconst 0, 1) := by decide +kernel
theorem dX10_minute_53 : decode cX10_minute 53 = .ok (.invokevirtual 255, 3) := by decide +kernel
theorem dX10_minute_56 : decode cX10_minute 56 = .ok (.iinc 2 1, 3) := by decide +kernel
theorem dX10_minute_59 : decode cX10_minute 59 = .ok (.goto (-13), 3) := by decide +kernel
theorem dX10_minute_62 : decode cX10_minute 62 = .ok (.aload_n 0, 1) := by decide +kernel
theorem dX10_minute_63 : decode cX10_minute 63 = .ok (.getfield 7, 3) := by decide +kernel
theorem dX10_minute_66 : decode cX10_minute 66 = .ok (.iconst 0, 1) := by decide +kernel
theorem dX10_minute_67 : decode cX10_minute 67 = .ok (.iaload, 1) := by decide +kernel
theorem dX10_minute_68 : decode cX10_minute 68 = .ok (.ireturn, 1) := by decide +kernel
theorem dX10_route_0 : decode cX10_route 0 = .ok (.aload_n 0, 1) := by decide +kernel
theorem dX10_route_1 : decode cX10_route 1 = .ok (.iload_n 1, 1) := by decide +kernel
theorem dX10_route_2 : decode cX10_route 2 = .ok (.invokevirtual 100, 3) := by decide +kernel
theorem dX10_route_5 : decode cX10_route 5 = .ok (.ifCond .ne 6, 3) := by decide +kernel
theorem dX10_route_8 : decode cX10_route 8 = .ok (.ldc 219, 2) := by decide +kernel
theorem dX10_route_10 : decode cX10_route 10 = .ok (.ireturn, 1) := by decide +kernel
theorem dX10_route_11 : decode cX10_route 11 = .ok (.iload_n 2, 1) := by decide +kernel
theorem dX10_route_12 : decode cX10_route 12 = .ok (.i2l, 1) := by decide +kernel
theorem dX10_route_13 : decode cX10_route 13 = .ok (.lconst 0, 1) := by decide +kernel
theorem dX10_route_14 : decode cX10_route 14 = .ok (.ldc2_w 259, 3) := by decide +kernel
theorem dX10_route_17 : decode cX10_route 17 = .ok (.invokestatic 93, 3) := by decide +kernel
theorem dX10_route_20 : decode cX10_route 20 = .ok (.ifCond .ne 6, 3) := by decide +kernel
theorem dX10_route_23 : decode cX10_route 23 = .ok (.ldc 109, 2) := by decide +kernel
theorem dX10_route_25 : decode cX10_route 25 = .ok (.ireturn, 1) := by decide +kernel
theorem dX10_route_26 : decode cX10_route 26 = .ok (.iconst 0, 1) := by decide +kernel
theorem dX10_route_27 : decode cX10_route 27 = .ok (.istore_n 3, 1) := by decide +kernel
theorem dX10_route_28 : decode cX10_route 28 = .ok (.iload_n 2, 1) := by decide +kernel
theorem dX10_route_29 : decode cX10_route 29 = .ok (.istore 4, 2) := by decide +kernel
theorem dX10_route_31 : decode cX10_route 31 = .ok (.iload 4, 2) := by decide +kernel
theorem dX10_route_33 : decode cX10_route 33 = .ok (.ifCond .le 16, 3) := by decide +kernel
theorem dX10_route_36 : decode cX10_route 36 = .ok (.iinc 3 1, 3) := by decide +kernel
theorem dX10_route_39 : decode cX10_route 39 = .ok (.iload 4, 2) := by decide +kernel
theorem dX10_route_41 : decode cX10_route 41 = .ok (.bipush 10, 2) := by decide +kernel
theorem dX10_route_43 : decode cX10_route 43 = .ok (.idiv, 1) := by decide +kernel
theorem dX10_route_44 : decode cX10_route 44 = .ok (.istore 4, 2) := by decide +kernel
theorem dX10_route_46 : decode cX10_route 46 = .ok (.goto (-15), 3) := by decide +kernel
theorem dX10_route_49 : decode cX10_route 49 = .ok (.iload_n 2, 1) := by decide +kernel
theorem dX10_route_50 : decode cX10_route 50 = .ok (.istore 4, 2) := by decide +kernel
theorem dX10_route_52 : decode cX10_route 52 = .ok (.iload_n 3, 1) := by decide +kernel
theorem dX10_route_53 : decode cX10_route 53 = .ok (.iconst 1, 1) := by decide +kernel
theorem dX10_route_54 : decode cX10_route 54 = .ok (.isub, 1) := by decide +kernel
theorem dX10_route_55 : decode cX10_route 55 = .ok (.istore 5, 2) := by decide +kernel
theorem dX10_route_57 : decode cX10_route 57 = .ok (.iload 5, 2) := by decide +kernel
theorem dX10_route_59 : decode cX10_route 59 = .ok (.ifCond .lt 47, 3) := by decide +kernel
theorem dX10_route_62 : decode cX10_route 62 = .ok (.aload_n 0, 1) := by decide +kernel
theorem dX10_route_63 : decode cX10_route 63 = .ok (.getfield 60, 3) := by decide +kernel
theorem dX10_route_66 : decode cX10_route 66 = .ok (.iload 5, 2) := by decide +kernel
theorem dX10_route_68 : decode cX10_route 68 = .ok (.iload 4, 2) := by decide +kernel
theorem dX10_route_70 : decode cX10_route 70 = .ok (.bipush 10, 2) := by decide +kernel
theorem dX10_route_72 : decode cX10_route 72 = .ok (.irem, 1) := by decide +kernel
theorem dX10_route_73 : decode cX10_route 73 = .ok (.iconst 1, 1) := by decide +kernel
theorem dX10_route_74 : decode cX10_route 74 = .ok (.isub, 1) := by decide +kernel
theorem dX10_route_75 : decode cX10_route 75 = .ok (.iastore, 1) := by decide +kernel
theorem dX10_route_76 : decode cX10_route 76 = .ok (.iload 4, 2) := by decide +kernel
theorem dX10_route_78 : decode cX10_route 78 = .ok (.bipush 10, 2) := by decide +kernel
theorem dX10_route_80 : decode cX10_route 80 = .ok (.idiv, 1) := by decide +kernel
theorem dX10_route_81 : decode cX10_route 81 = .ok (.istore 4, 2) := by decide +kernel
theorem dX10_route_83 : decode cX10_route 83 = .ok (.aload_n 0, 1) := by decide +kernel
theorem dX10_route_84 : decode cX10_route 84 = .ok (.aload_n 0, 1) := by decide +kernel
theorem dX10_route_85 : decode cX10_route 85 = .ok (.getfield 60, 3) := by decide +kernel
theorem dX10_route_88 : decode cX10_route 88 = .ok (.iload 5, 2) := by decide +kernel
theorem dX10_route_90 : decode cX10_route 90 = .ok (.iaload, 1) := by decide +kernel
theorem dX10_route_91 : decode cX10_route 91 = .ok (.invokevirtual 216, 3) := by decide +kernel
theorem dX10_route_94 : decode cX10_route 94 = .ok (.ifCond .ne 6, 3) := by decide +kernel
theorem dX10_route_97 : decode cX10_route 97 = .ok (.ldc 109, 2) := by decide +kernel
theorem dX10_route_99 : decode cX10_route 99 = .ok (.ireturn, 1) := by decide +kernel
theorem dX10_route_100 : decode cX10_route 100 = .ok (.iinc 5 (-1), 3) := by decide +kernel
theorem dX10_route_103 : decode cX10_route 103 = .ok (.goto (-46), 3) := by decide +kernel
theorem dX10_route_106 : decode cX10_route 106 = .ok (.aload_n 0, 1) := by decide +kernel
theorem dX10_route_107 : decode cX10_route 107 = .ok (.getfield 7, 3) := by decide +kernel
theorem dX10_route_110 : decode cX10_route 110 = .ok (.iconst 2, 1) := by decide +kernel
theorem dX10_route_111 : decode cX10_route 111 = .ok (.iload_n 1, 1) := by decide +kernel
theorem dX10_route_112 : decode cX10_route 112 = .ok (.iadd, 1) := by decide +kernel
theorem dX10_route_113 : decode cX10_route 113 = .ok (.iaload, 1) := by decide +kernel
theorem dX10_route_114 : decode cX10_route 114 = .ok (.istore 5, 2) := by decide +kernel
theorem dX10_route_116 : decode cX10_route 116 = .ok (.iconst 0, 1) := by decide +kernel
theorem dX10_route_117 : decode cX10_route 117 = .ok (.istore 6, 2) := by decide +kernel
theorem dX10_route_119 : decode cX10_route 119 = .ok (.iload 6, 2) := by decide +kernel
theorem dX10_route_121 : decode cX10_route 121 = .ok (.iload_n 3, 1) := by decide +kernel
theorem dX10_route_122 : decode cX10_route 122 = .ok (.if_icmp .ge 41, 3) := by decide +kernel
theorem dX10_route_125 : decode cX10_route 125 = .ok (.aload_n 0, 1) := by decide +kernel
theorem dX10_route_126 : decode cX10_route 126 = .ok (.getfield 17, 3) := by decide +kernel
theorem dX10_route_129 : decode cX10_route 129 = .ok (.iload 5, 2) := by decide +kernel
theorem dX10_route_131 : decode cX10_route 131 = .ok (.iaload, 1) := by decide +kernel
theorem dX10_route_132 : decode cX10_route 132 = .ok (.aload_n 0, 1) := by decide +kernel
theorem dX10_route_133 : decode cX10_route 133 = .ok (.getfield 60, 3) := by decide +kernel
theorem dX10_route_136 : decode cX10_route 136 = .ok (.iload 6, 2) := by decide +kernel
theorem dX10_route_138 : decode cX10_route 138 = .ok (.iaload, 1) := by decide +kernel
theorem dX10_route_139 : decode cX10_route 139 = .ok (.invokestatic 151, 3) := by decide +kernel
theorem dX10_route_142 : decode cX10_route 142 = .ok (.ifCond .ne 6, 3) := by decide +kernel
theorem dX10_route_145 : decode cX10_route 145 = .ok (.ldc 249, 2) := by decide +kernel
theorem dX10_route_147 : decode cX10_route 147 = .ok (.ireturn, 1) := by decide +kernel
theorem dX10_route_148 : decode cX10_route 148 = .ok (.aload_n 0, 1) := by decide +kernel
theorem dX10_route_149 : decode cX10_route 149 = .ok (.getfield 60, 3) := by decide +kernel
theorem dX10_route_152 : decode cX10_route 152 = .ok (.iload 6, 2) := by decide +kernel
theorem dX10_route_154 : decode cX10_route 154 = .ok (.iaload, 1) := by decide +kernel
theorem dX10_route_155 : decode cX10_route 155 = .ok (.istore 5, 2) := by decide +kernel
theorem dX10_route_157 : decode cX10_route 157 = .ok (.iinc 6 1, 3) := by decide +kernel
theorem dX10_route_160 : decode cX10_route 160 = .ok (.goto (-41), 3) := by decide +kernel
theorem dX10_route_163 : decode cX10_route 163 = .ok (.aload_n 0, 1) := by decide +kernel
theorem dX10_route_164 : decode cX10_route 164 = .ok (.invokevirtual 252, 3) := by decide +kernel
theorem dX10_route_167 : decode cX10_route 167 = .ok (.iconst 0, 1) := by decide +kernel
theorem dX10_route_168 : decode cX10_route 168 = .ok (.istore 6, 2) := by decide +kernel
theorem dX10_route_170 : decode cX10_route 170 = .ok (.iload 6, 2) := by decide +kernel
theorem dX10_route_172 : decode cX10_route 172 = .ok (.iload_n 3, 1) := by decide +kernel
theorem dX10_route_173 : decode cX10_route 173 = .ok (.if_icmp .ge 31, 3) := by decide +kernel
theorem dX10_route_176 : decode cX10_route 176 = .ok (.aload_n 0, 1) := by decide +kernel
theorem dX10_route_177 : decode cX10_route 177 = .ok (.getfield 7, 3) := by decide +kernel
theorem dX10_route_180 : decode cX10_route 180 = .ok (.bipush 10, 2) := by decide +kernel
theorem dX10_route_182 : decode cX10_route 182 = .ok (.bipush 9, 2) := by decide +kernel
theorem dX10_route_184 : decode cX10_route 184 = .ok (.iload_n 1, 1) := by decide +kernel
theorem dX10_route_185 : decode cX10_route 185 = .ok (.imul, 1) := by decide +kernel
theorem dX10_route_186 : decode cX10_route 186 = .ok (.iadd, 1) := by decide +kernel
theorem dX10_route_187 : decode cX10_route 187 = .ok (.iload 6, 2) := by decide +kernel
theorem dX10_route_189 : decode cX10_route 189 = .ok (.iadd, 1) := by decide +kernel
theorem dX10_route_190 : decode cX10_route 190 = .ok (.aload_n 0, 1) := by decide +kernel
theorem dX10_route_191 : decode cX10_route 191 = .ok (.getfield 60, 3) := by decide +kernel
theorem dX10_route_194 : decode cX10_route 194 = .ok (.iload 6, 2) := by decide +kernel
theorem dX10_route_196 : decode cX10_route 196 = .ok (.iaload, 1) := by decide +kernel
theorem dX10_route_197 : decode cX10_route 197 = .ok (.iastore, 1) := by decide +kernel
theorem dX10_route_198 : decode cX10_route 198 = .ok (.iinc 6 1, 3) := by decide +kernel
theorem dX10_route_201 : decode cX10_route 201 = .ok (.goto (-31), 3) := by decide +kernel
theorem dX10_route_204 : decode cX10_route 204 = .ok (.aload_n 0, 1) := by decide +kernel
theorem dX10_route_205 : decode cX10_route 205 = .ok (.getfield 7, 3) := by decide +kernel
theorem dX10_route_208 : decode cX10_route 208 = .ok (.bipush 6, 2) := by decide +kernel
theorem dX10_route_210 : decode cX10_route 210 = .ok (.iload_n 1, 1) := by decide +kernel
theorem dX10_route_211 : decode cX10_route 211 = .ok (.iadd, 1) := by decide +kernel
theorem dX10_route_212 : decode cX10_route 212 = .ok (.iload_n 3, 1) := by decide +kernel
theorem dX10_route_213 : decode cX10_route 213 = .ok (.iastore, 1) := by decide +kernel
theorem dX10_route_214 : decode cX10_route 214 = .ok (.iload_n 3, 1) := by decide +kernel
theorem dX10_route_215 : decode cX10_route 215 = .ok (.ireturn, 1) := by decide +kernel
theorem dX10_lay_0 : decode cX10_lay 0 = .ok (.aload_n 0, 1) := by decide +kernel
theorem dX10_lay_1 : decode cX10_lay 1 = .ok (.iload_n 1, 1) := by decide +kernel
theorem dX10_lay_2 : decode cX10_lay 2 = .ok (.invokevirtual 229, 3) := by decide +kernel
theorem dX10_lay_5 : decode cX10_lay 5 = .ok (.ifCond .eq 11, 3) := by decide +kernel
theorem dX10_lay_8 : decode cX10_lay 8 = .ok (.aload_n 0, 1) := by decide +kernel
theorem dX10_lay_9 : decode cX10_lay 9 = .ok (.iload_n 2, 1) := by decide +kernel
theorem dX10_lay_10 : decode cX10_lay 10 = .ok (.invokevirtual 100, 3) := by decide +kernel
theorem dX10_lay_13 : decode cX10_lay 13 = .ok (.ifCond .ne 6, 3) := by decide +kernel
theorem dX10_lay_16 : decode cX10_lay 16 = .ok (.ldc 219, 2) := by decide +kernel
theorem dX10_lay_18 : decode cX10_lay 18 = .ok (.ireturn, 1) := by decide +kernel
theorem dX10_lay_19 : decode cX10_lay 19 = .ok (.iload_n 3, 1) := by decide +kernel
theorem dX10_lay_20 : decode cX10_lay 20 = .ok (.i2l, 1) := by decide +kernel
theorem dX10_lay_21 : decode cX10_lay 21 = .ok (.lconst 0, 1) := by decide +kernel
theorem dX10_lay_22 : decode cX10_lay 22 = .ok (.lconst 1, 1) := by decide +kernel
theorem dX10_lay_23 : decode cX10_lay 23 = .ok (.invokestatic 93, 3) := by decide +kernel
theorem dX10_lay_26 : decode cX10_lay 26 = .ok (.ifCond .ne 6, 3) := by decide +kernel
theorem dX10_lay_29 : decode cX10_lay 29 = .ok (.ldc 109, 2) := by decide +kernel
theorem dX10_lay_31 : decode cX10_lay 31 = .ok (.ireturn, 1) := by decide +kernel
theorem dX10_lay_32 : decode cX10_lay 32 = .ok (.aload_n 0, 1) := by decide +kernel
theorem dX10_lay_33 : decode cX10_lay 33 = .ok (.iload_n 1, 1) := by decide +kernel
theorem dX10_lay_34 : decode cX10_lay 34 = .ok (.invokevirtual 232, 3) := by decide +kernel
theorem dX10_lay_37 : decode cX10_lay 37 = .ok (.istore 4, 2) := by decide +kernel
theorem dX10_lay_39 : decode cX10_lay 39 = .ok (.aload_n 0, 1) := by decide +kernel
theorem dX10_lay_40 : decode cX10_lay 40 = .ok (.getfield 7, 3) := by decide +kernel
theorem dX10_lay_43 : decode cX10_lay 43 = .ok (.bipush 50, 2) := by decide +kernel
theorem dX10_lay_45 : decode cX10_lay 45 = .ok (.iload_n 1, 1) := by decide +kernel
theorem dX10_lay_46 : decode cX10_lay 46 = .ok (.iadd, 1) := by decide +kernel
theorem dX10_lay_47 : decode cX10_lay 47 = .ok (.iaload, 1) := by decide +kernel
theorem dX10_lay_48 : decode cX10_lay 48 = .ok (.iconst (-1), 1) := by decide +kernel
theorem dX10_lay_49 : decode cX10_lay 49 = .ok (.if_icmp .eq 35, 3) := by decide +kernel
theorem dX10_lay_52 : decode cX10_lay 52 = .ok (.iload 4, 2) := by decide +kernel
theorem dX10_lay_54 : decode cX10_lay 54 = .ok (.iconst (-1), 1) := by decide +kernel
theorem dX10_lay_55 : decode cX10_lay 55 = .ok (.if_icmp .eq 33, 3) := by decide +kernel
theorem dX10_lay_58 : decode cX10_lay 58 = .ok (.iload 4, 2) := by decide +kernel
theorem dX10_lay_60 : decode cX10_lay 60 = .ok (.iload_n 2, 1) := by decide +kernel
theorem dX10_lay_61 : decode cX10_lay 61 = .ok (.if_icmp .eq 27, 3) := by decide +kernel
theorem dX10_lay_64 : decode cX10_lay 64 = .ok (.aload_n 0, 1) := by decide +kernel
theorem dX10_lay_65 : decode cX10_lay 65 = .ok (.getfield 7, 3) := by decide +kernel
theorem dX10_lay_68 : decode cX10_lay 68 = .ok (.iconst 2, 1) := by decide +kernel
theorem dX10_lay_69 : decode cX10_lay 69 = .ok (.iload 4, 2) := by decide +kernel
theorem dX10_lay_71 : decode cX10_lay 71 = .ok (.iadd, 1) := by decide +kernel
theorem dX10_lay_72 : decode cX10_lay 72 = .ok (.iaload, 1) := by decide +kernel
theorem dX10_lay_73 : decode cX10_lay 73 = .ok (.aload_n 0, 1) := by decide +kernel
theorem dX10_lay_74 : decode cX10_lay 74 = .ok (.getfield 7, 3) := by decide +kernel
theorem dX10_lay_77 : decode cX10_lay 77 = .ok (.iconst 2, 1) := by decide +kernel
theorem dX10_lay_78 : decode cX10_lay 78 = .ok (.iload_n 2, 1) := by decide +kernel
theorem dX10_lay_79 : decode cX10_lay 79 = .ok (.iadd, 1) := by decide +kernel
theorem dX10_lay_80 : decode cX10_lay 80 = .ok (.iaload, 1) := by decide +kernel
theorem dX10_lay_81 : decode cX10_lay 81 = .ok (.if_icmp .ne 7, 3) := by decide +kernel
theorem dX10_lay_84 : decode cX10_lay 84 = .ok (.iconst 1, 1) := by decide +kernel
theorem dX10_lay_85 : decode cX10_lay 85 = .ok (.goto 4, 3) := by decide +kernel
theorem dX10_lay_88 : decode cX10_lay 88 = .ok (.iconst 0, 1) := by decide +kernel
theorem dX10_lay_89 : decode cX10_lay 89 = .ok (.istore 5, 2) := by decide +kernel
theorem dX10_lay_91 : decode cX10_lay 91 = .ok (.aload_n 0, 1) := by decide +kernel
theorem dX10_lay_92 : decode cX10_lay 92 = .ok (.aload_n 0, 1) := by decide +kernel
theorem dX10_lay_93 : decode cX10_lay 93 = .ok (.iconst 0, 1) := by decide +kernel
theorem dX10_lay_94 : decode cX10_lay 94 = .ok (.iload_n 2, 1) := by decide +kernel
theorem dX10_lay_95 : decode cX10_lay 95 = .ok (.invokevirtual 223, 3) := by decide +kernel
theorem dX10_lay_98 : decode cX10_lay 98 = .ok (.invokevirtual 220, 3) := by decide +kernel
theorem dX10_lay_101 : decode cX10_lay 101 = .ok (.aload_n 0, 1) := by decide +kernel
theorem dX10_lay_102 : decode cX10_lay 102 = .ok (.getfield 23, 3) := by decide +kernel
theorem dX10_lay_105 : decode cX10_lay 105 = .ok (.iload_n 1, 1) := by decide +kernel
theorem dX10_lay_106 : decode cX10_lay 106 = .ok (.iaload, 1) := by decide +kernel
theorem dX10_lay_107 : decode cX10_lay 107 = .ok (.iadd, 1) := by decide +kernel
theorem dX10_lay_108 : decode cX10_lay 108 = .ok (.istore 6, 2) := by decide +kernel
theorem dX10_lay_110 : decode cX10_lay 110 = .ok (.iload 5, 2) := by decide +kernel
theorem dX10_lay_112 : decode cX10_lay 112 = .ok (.ifCond .eq 14, 3) := by decide +kernel
theorem dX10_lay_115 : decode cX10_lay 115 = .ok (.iload 6, 2) := by decide +kernel
theorem dX10_lay_117 : decode cX10_lay 117 = .ok (.aload_n 0, 1) := by decide +kernel
theorem dX10_lay_118 : decode cX10_lay 118 = .ok (.getfield 20, 3) := by decide +kernel
theorem dX10_lay_121 : decode cX10_lay 121 = .ok (.iload_n 2, 1) := by decide +kernel
theorem dX10_lay_122 : decode cX10_lay 122 = .ok (.iaload, 1) := by decide +kernel
theorem dX10_lay_123 : decode cX10_lay 123 = .ok (.if_icmp .le 6, 3) := by decide +kernel
theorem dX10_lay_126 : decode cX10_lay 126 = .ok (.ldc 249, 2) := by decide +kernel
theorem dX10_lay_128 : decode cX10_lay 128 = .ok (.ireturn, 1) := by decide +kernel
theorem dX10_lay_129 : decode cX10_lay 129 = .ok (.aload_n 0, 1) := by decide +kernel
theorem dX10_lay_130 : decode cX10_lay 130 = .ok (.invokevirtual 252, 3) := by decide +kernel
theorem dX10_lay_133 : decode cX10_lay 133 = .ok (.aload_n 0, 1) := by decide +kernel
theorem dX10_lay_134 : decode cX10_lay 134 = .ok (.getfield 7, 3) := by decide +kernel
theorem dX10_lay_137 : decode cX10_lay 137 = .ok (.bipush 50, 2) := by decide +kernel
theorem dX10_lay_139 : decode cX10_lay 139 = .ok (.iload_n 1, 1) := by decide +kernel
theorem dX10_lay_140 : decode cX10_lay 140 = .ok (.iadd, 1) := by decide +kernel
theorem dX10_lay_141 : decode cX10_lay 141 = .ok (.iconst 2, 1) := by decide +kernel
theorem dX10_lay_142 : decode cX10_lay 142 = .ok (.iload_n 2, 1) := by decide +kernel
theorem dX10_lay_143 : decode cX10_lay 143 = .ok (.imul, 1) := by decide +kernel
theorem dX10_lay_144 : decode cX10_lay 144 = .ok (.iload_n 3, 1) := by decide +kernel
theorem dX10_lay_145 : decode cX10_lay 145 = .ok (.iadd, 1) := by decide +kernel
theorem dX10_lay_146 : decode cX10_lay 146 = .ok (.iastore, 1) := by decide +kernel
theorem dX10_lay_147 : decode cX10_lay 147 = .ok (.iload 6, 2) := by decide +kernel
theorem dX10_lay_149 : decode cX10_lay 149 = .ok (.ireturn, 1) := by decide +kernel
theorem dX10_takeOff_0 : decode cX10_takeOff 0 = .ok (.aload_n 0, 1) := by decide +kernel
theorem dX10_takeOff_1 : decode cX10_takeOff 1 = .ok (.iload_n 1, 1) := by decide +kernel
theorem dX10_takeOff_2 : decode cX10_takeOff 2 = .ok (.invokevirtual 229, 3) := by decide +kernel
theorem dX10_takeOff_5 : decode cX10_takeOff 5 = .ok (.ifCond .ne 6, 3) := by decide +kernel
theorem dX10_takeOff_8 : decode cX10_takeOff 8 = .ok (.ldc 219, 2) := by decide +kernel
theorem dX10_takeOff_10 : decode cX10_takeOff 10 = .ok (.ireturn, 1) := by decide +kernel
theorem dX10_takeOff_11 : decode cX10_takeOff 11 = .ok (.aload_n 0, 1) := by decide +kernel
theorem dX10_takeOff_12 : decode cX10_takeOff 12 = .ok (.iload_n 1, 1) := by decide +kernel
theorem dX10_takeOff_13 : decode cX10_takeOff 13 = .ok (.invokevirtual 232, 3) := by decide +kernel
theorem dX10_takeOff_16 : decode cX10_takeOff 16 = .ok (.istore_n 2, 1) := by decide +kernel
theorem dX10_takeOff_17 : decode cX10_takeOff 17 = .ok (.iload_n 2, 1) := by decide +kernel
theorem dX10_takeOff_18 : decode cX10_takeOff 18 = .ok (.iconst (-1), 1) := by decide +kernel
theorem dX10_takeOff_19 : decode cX10_takeOff 19 = .ok (.if_icmp .ne 6, 3) := by decide +kernel
theorem dX10_takeOff_22 : decode cX10_takeOff 22 = .ok (.ldc 249, 2) := by decide +kernel
theorem dX10_takeOff_24 : decode cX10_takeOff 24 = .ok (.ireturn, 1) := by decide +kernel
theorem dX10_takeOff_25 : decode cX10_takeOff 25 = .ok (.aload_n 0, 1) := by decide +kernel
theorem dX10_takeOff_26 : decode cX10_takeOff 26 = .ok (.invokevirtual 252, 3) := by decide +kernel
theorem dX10_takeOff_29 : decode cX10_takeOff 29 = .ok (.aload_n 0, 1) := by decide +kernel
theorem dX10_takeOff_30 : decode cX10_takeOff 30 = .ok (.getfield 7, 3) := by decide +kernel
theorem dX10_takeOff_33 : decode cX10_takeOff 33 = .ok (.bipush 50, 2) := by decide +kernel
theorem dX10_takeOff_35 : decode cX10_takeOff 35 = .ok (.iload_n 1, 1) := by decide +kernel
theorem dX10_takeOff_36 : decode cX10_takeOff 36 = .ok (.iadd, 1) := by decide +kernel
theorem dX10_takeOff_37 : decode cX10_takeOff 37 = .ok (.iconst (-1), 1) := by decide +kernel
theorem dX10_takeOff_38 : decode cX10_takeOff 38 = .ok (.iastore, 1) := by decide +kernel
theorem dX10_takeOff_39 : decode cX10_takeOff 39 = .ok (.iload_n 2, 1) := by decide +kernel
theorem dX10_takeOff_40 : decode cX10_takeOff 40 = .ok (.ireturn, 1) := by decide +kernel
theorem dX10_treaty_0 : decode cX10_treaty 0 = .ok (.aload_n 0, 1) := by decide +kernel
theorem dX10_treaty_1 : decode cX10_treaty 1 = .ok (.iload_n 1, 1) := by decide +kernel
theorem dX10_treaty_2 : decode cX10_treaty 2 = .ok (.iload_n 2, 1) := by decide +kernel
theorem dX10_treaty_3 : decode cX10_treaty 3 = .ok (.invokevirtual 261, 3) := by decide +kernel
theorem dX10_treaty_6 : decode cX10_treaty 6 = .ok (.ifCond .ne 6, 3) := by decide +kernel
theorem dX10_treaty_9 : decode cX10_treaty 9 = .ok (.ldc 219, 2) := by decide +kernel
theorem dX10_treaty_11 : decode cX10_treaty 11 = .ok (.ireturn, 1) := by decide +kernel
theorem dX10_treaty_12 : decode cX10_treaty 12 = .ok (.aload_n 0, 1) := by decide +kernel
theorem dX10_treaty_13 : decode cX10_treaty 13 = .ok (.invokevirtual 252, 3) := by decide +kernel
theorem dX10_treaty_16 : decode cX10_treaty 16 = .ok (.aload_n 0, 1) := by decide +kernel
theorem dX10_treaty_17 : decode cX10_treaty 17 = .ok (.getfield 7, 3) := by decide +kernel
theorem dX10_treaty_20 : decode cX10_treaty 20 = .ok (.bipush 46, 2) := by decide +kernel
theorem dX10_treaty_22 : decode cX10_treaty 22 = .ok (.iload_n 1, 1) := by decide +kernel
theorem dX10_treaty_23 : decode cX10_treaty 23 = .ok (.iadd, 1) := by decide +kernel
theorem dX10_treaty_24 : decode cX10_treaty 24 = .ok (.iaload, 1) := by decide +kernel
theorem dX10_treaty_25 : decode cX10_treaty 25 = .ok (.iload_n 2, 1) := by decide +kernel
theorem dX10_treaty_26 : decode cX10_treaty 26 = .ok (.ishr, 1) := by decide +kernel
theorem dX10_treaty_27 : decode cX10_treaty 27 = .ok (.iconst 1, 1) := by decide +kernel
theorem dX10_treaty_28 : decode cX10_treaty 28 = .ok (.iand, 1) := by decide +kernel
theorem dX10_treaty_29 : decode cX10_treaty 29 = .ok (.istore 4, 2) := by decide +kernel
theorem dX10_treaty_31 : decode cX10_treaty 31 = .ok (.aload_n 0, 1) := by decide +kernel
theorem dX10_treaty_32 : decode cX10_treaty 32 = .ok (.getfield 7, 3) := by decide +kernel
theorem dX10_treaty_35 : decode cX10_treaty 35 = .ok (.bipush 46, 2) := by decide +kernel
theorem dX10_treaty_37 : decode cX10_treaty 37 = .ok (.iload_n 1, 1) := by decide +kernel
theorem dX10_treaty_38 : decode cX10_treaty 38 = .ok (.iadd, 1) := by decide +kernel
theorem dX10_treaty_39 : decode cX10_treaty 39 = .ok (.iload_n 3, 1) := by decide +kernel
theorem dX10_treaty_40 : decode cX10_treaty 40 = .ok (.ifCond .eq 19, 3) := by decide +kernel
theorem dX10_treaty_43 : decode cX10_treaty 43 = .ok (.aload_n 0, 1) := by decide +kernel
theorem dX10_treaty_44 : decode cX10_treaty 44 = .ok (.getfield 7, 3) := by decide +kernel
theorem dX10_treaty_47 : decode cX10_treaty 47 = .ok (.bipush 46, 2) := by decide +kernel
theorem dX10_treaty_49 : decode cX10_treaty 49 = .ok (.iload_n 1, 1) := by decide +kernel
theorem dX10_treaty_50 : decode cX10_treaty 50 = .ok (.iadd, 1) := by decide +kernel
theorem dX10_treaty_51 : decode cX10_treaty 51 = .ok (.iaload, 1) := by decide +kernel
theorem dX10_treaty_52 : decode cX10_treaty 52 = .ok (.iconst 1, 1) := by decide +kernel
theorem dX10_treaty_53 : decode cX10_treaty 53 = .ok (.iload_n 2, 1) := by decide +kernel
theorem dX10_treaty_54 : decode cX10_treaty 54 = .ok (.ishl, 1) := by decide +kernel
theorem dX10_treaty_55 : decode cX10_treaty 55 = .ok (.ior, 1) := by decide +kernel
theorem dX10_treaty_56 : decode cX10_treaty 56 = .ok (.goto 18, 3) := by decide +kernel
theorem dX10_treaty_59 : decode cX10_treaty 59 = .ok (.aload_n 0, 1) := by decide +kernel
theorem dX10_treaty_60 : decode cX10_treaty 60 = .ok (.getfield 7, 3) := by decide +kernel
theorem dX10_treaty_63 : decode cX10_treaty 63 = .ok (.bipush 46, 2) := by decide +kernel
theorem dX10_treaty_65 : decode cX10_treaty 65 = .ok (.iload_n 1, 1) := by decide +kernel
theorem dX10_treaty_66 : decode cX10_treaty 66 = .ok (.iadd, 1) := by decide +kernel
theorem dX10_treaty_67 : decode cX10_treaty 67 = .ok (.iaload, 1) := by decide +kernel
theorem dX10_treaty_68 : decode cX10_treaty 68 = .ok (.iconst 1, 1) := by decide +kernel
theorem dX10_treaty_69 : decode cX10_treaty 69 = .ok (.iload_n 2, 1) := by decide +kernel
theorem dX10_treaty_70 : decode cX10_treaty 70 = .ok (.ishl, 1) := by decide +kernel
theorem dX10_treaty_71 : decode cX10_treaty 71 = .ok (.iconst (-1), 1) := by decide +kernel
theorem dX10_treaty_72 : decode cX10_treaty 72 = .ok (.ixor, 1) := by decide +kernel
theorem dX10_treaty_73 : decode cX10_treaty 73 = .ok (.iand, 1) := by decide +kernel
theorem dX10_treaty_74 : decode cX10_treaty 74 = .ok (.iastore, 1) := by decide +kernel
theorem dX10_treaty_75 : decode cX10_treaty 75 = .ok (.aload_n 0, 1) := by decide +kernel
theorem dX10_treaty_76 : decode cX10_treaty 76 = .ok (.getfield 7, 3) := by decide +kernel
theorem dX10_treaty_79 : decode cX10_treaty 79 = .ok (.bipush 46, 2) := by decide +kernel
theorem dX10_treaty_81 : decode cX10_treaty 81 = .ok (.iload_n 2, 1) := by decide +kernel
theorem dX10_treaty_82 : decode cX10_treaty 82 = .ok (.iadd, 1) := by decide +kernel
theorem dX10_treaty_83 : decode cX10_treaty 83 = .ok (.iload_n 3, 1) := by decide +kernel
theorem dX10_treaty_84 : decode cX10_treaty 84 = .ok (.ifCond .eq 19, 3) := by decide +kernel
theorem dX10_treaty_87 : decode cX10_treaty 87 = .ok (.aload_n 0, 1) := by decide +kernel
theorem dX10_treaty_88 : decode cX10_treaty 88 = .ok (.getfield 7, 3) := by decide +kernel
theorem dX10_treaty_91 : decode cX10_treaty 91 = .ok (.bipush 46, 2) := by decide +kernel
theorem dX10_treaty_93 : decode cX10_treaty 93 = .ok (.iload_n 2, 1) := by decide +kernel
theorem dX10_treaty_94 : decode cX10_treaty 94 = .ok (.iadd, 1) := by decide +kernel
theorem dX10_treaty_95 : decode cX10_treaty 95 = .ok (.iaload, 1) := by decide +kernel
theorem dX10_treaty_96 : decode cX10_treaty 96 = .ok (.iconst 1, 1) := by decide +kernel
theorem dX10_treaty_97 : decode cX10_treaty 97 = .ok (.iload_n 1, 1) := by decide +kernel
theorem dX10_treaty_98 : decode cX10_treaty 98 = .ok (.ishl, 1) := by decide +kernel
theorem dX10_treaty_99 : decode cX10_treaty 99 = .ok (.ior, 1) := by decide +kernel
theorem dX10_treaty_100 : decode cX10_treaty 100 = .ok (.goto 18, 3) := by decide +kernel
theorem dX10_treaty_103 : decode cX10_treaty 103 = .ok (.aload_n 0, 1) := by decide +kernel
theorem dX10_treaty_104 : decode cX10_treaty 104 = .ok (.getfield 7, 3) := by decide +kernel
theorem dX10_treaty_107 : decode cX10_treaty 107 = .ok (.bipush 46, 2) := by decide +kernel
theorem dX10_treaty_109 : decode cX10_treaty 109 = .ok (.iload_n 2, 1) := by decide +kernel
theorem dX10_treaty_110 : decode cX10_treaty 110 = .ok (.iadd, 1) := by decide +kernel
theorem dX10_treaty_111 : decode cX10_treaty 111 = .ok (.iaload, 1) := by decide +kernel
theorem dX10_treaty_112 : decode cX10_treaty 112 = .ok (.iconst 1, 1) := by decide +kernel
theorem dX10_treaty_113 : decode cX10_treaty 113 = .ok (.iload_n 1, 1) := by decide +kernel
theorem dX10_treaty_114 : decode cX10_treaty 114 = .ok (.ishl, 1) := by decide +kernel
theorem dX10_treaty_115 : decode cX10_treaty 115 = .ok (.iconst (-1), 1) := by decide +kernel
theorem dX10_treaty_116 : decode cX10_treaty 116 = .ok (.ixor, 1) := by decide +kernel
theorem dX10_treaty_117 : decode cX10_treaty 117 = .ok (.iand, 1) := by decide +kernel
theorem dX10_treaty_118 : decode cX10_treaty 118 = .ok (.iastore, 1) := by decide +kernel
theorem dX10_treaty_119 : decode cX10_treaty 119 = .ok (.iload 4, 2) := by decide +kernel
theorem dX10_treaty_121 : decode cX10_treaty 121 = .ok (.ireturn, 1) := by decide +kernel
theorem dX10_draw_0 : decode cX10_draw 0 = .ok (.aload_n 0, 1) := by decide +kernel
theorem dX10_draw_1 : decode cX10_draw 1 = .ok (.getfield 7, 3) := by decide +kernel
theorem dX10_draw_4 : decode cX10_draw 4 = .ok (.bipush 58, 2) := by decide +kernel
theorem dX10_draw_6 : decode cX10_draw 6 = .ok (.aload_n 0, 1) := by decide +kernel
theorem dX10_draw_7 : decode cX10_draw 7 = .ok (.getfield 7, 3) := by decide +kernel
theorem dX10_draw_10 : decode cX10_draw 10 = .ok (.bipush 58, 2) := by decide +kernel
theorem dX10_draw_12 : decode cX10_draw 12 = .ok (.iaload, 1) := by decide +kernel
theorem dX10_draw_13 : decode cX10_draw 13 = .ok (.i2l, 1) := by decide +kernel
theorem dX10_draw_14 : decode cX10_draw 14 = .ok (.ldc2_w 264, 3) := by decide +kernel
theorem dX10_draw_17 : decode cX10_draw 17 = .ok (.lmul, 1) := by decide +kernel
theorem dX10_draw_18 : decode cX10_draw 18 = .ok (.ldc2_w 266, 3) := by decide +kernel
theorem dX10_draw_21 : decode cX10_draw 21 = .ok (.ladd, 1) := by decide +kernel
theorem dX10_draw_22 : decode cX10_draw 22 = .ok (.ldc2_w 268, 3) := by decide +kernel
theorem dX10_draw_25 : decode cX10_draw 25 = .ok (.lrem, 1) := by decide +kernel
theorem dX10_draw_26 : decode cX10_draw 26 = .ok (.l2i, 1) := by decide +kernel
theorem dX10_draw_27 : decode cX10_draw 27 = .ok (.iastore, 1) := by decide +kernel
theorem dX10_draw_28 : decode cX10_draw 28 = .ok (.aload_n 0, 1) := by decide +kernel
theorem dX10_draw_29 : decode cX10_draw 29 = .ok (.getfield 7, 3) := by decide +kernel
theorem dX10_draw_32 : decode cX10_draw 32 = .ok (.bipush 58, 2) := by decide +kernel
theorem dX10_draw_34 : decode cX10_draw 34 = .ok (.iaload, 1) := by decide +kernel
theorem dX10_draw_35 : decode cX10_draw 35 = .ok (.ldc_w 270, 3) := by decide +kernel
theorem dX10_draw_38 : decode cX10_draw 38 = .ok (.idiv, 1) := by decide +kernel
theorem dX10_draw_39 : decode cX10_draw 39 = .ok (.iload_n 1, 1) := by decide +kernel
theorem dX10_draw_40 : decode cX10_draw 40 = .ok (.irem, 1) := by decide +kernel
theorem dX10_draw_41 : decode cX10_draw 41 = .ok (.ireturn, 1) := by decide +kernel
theorem dX10_nth_0 : decode cX10_nth 0 = .ok (.iconst 0, 1) := by decide +kernel
theorem dX10_nth_1 : decode cX10_nth 1 = .ok (.istore_n 2, 1) := by decide +kernel
theorem dX10_nth_2 : decode cX10_nth 2 = .ok (.iconst 0, 1) := by decide +kernel
theorem dX10_nth_3 : decode cX10_nth 3 = .ok (.istore_n 3, 1) := by decide +kernel
theorem dX10_nth_4 : decode cX10_nth 4 = .ok (.iload_n 3, 1) := by decide +kernel
theorem dX10_nth_5 : decode cX10_nth 5 = .ok (.bipush 8, 2) := by decide +kernel
theorem dX10_nth_7 : decode cX10_nth 7 = .ok (.if_icmp .ge 27, 3) := by decide +kernel
theorem dX10_nth_10 : decode cX10_nth 10 = .ok (.iload_n 0, 1) := by decide +kernel
theorem dX10_nth_11 : decode cX10_nth 11 = .ok (.iload_n 3, 1) := by decide +kernel
theorem dX10_nth_12 : decode cX10_nth 12 = .ok (.invokestatic 151, 3) := by decide +kernel
theorem dX10_nth_15 : decode cX10_nth 15 = .ok (.ifCond .eq 13, 3) := by decide +kernel
theorem dX10_nth_18 : decode cX10_nth 18 = .ok (.iload_n 2, 1) := by decide +kernel
theorem dX10_nth_19 : decode cX10_nth 19 = .ok (.iload_n 1, 1) := by decide +kernel
theorem dX10_nth_20 : decode cX10_nth 20 = .ok (.if_icmp .ne 5, 3) := by decide +kernel
theorem dX10_nth_23 : decode cX10_nth 23 = .ok (.iload_n 3, 1) := by decide +kernel
theorem dX10_nth_24 : decode cX10_nth 24 = .ok (.ireturn, 1) := by decide +kernel
theorem dX10_nth_25 : decode cX10_nth 25 = .ok (.iinc 2 1, 3) := by decide +kernel
theorem dX10_nth_28 : decode cX10_nth 28 = .ok (.iinc 3 1, 3) := by decide +kernel
theorem dX10_nth_31 : decode cX10_nth 31 = .ok (.goto (-27), 3) := by decide +kernel
theorem dX10_nth_34 : decode cX10_nth 34 = .ok (.iconst (-1), 1) := by decide +kernel
theorem dX10_nth_35 : decode cX10_nth 35 = .ok (.ireturn, 1) := by decide +kernel
theorem dX10_drift_0 : decode cX10_drift 0 = .ok (.iload_n 1, 1) := by decide +kernel
theorem dX10_drift_1 : decode cX10_drift 1 = .ok (.i2l, 1) := by decide +kernel
theorem dX10_drift_2 : decode cX10_drift 2 = .ok (.lconst 1, 1) := by decide +kernel
theorem dX10_drift_3 : decode cX10_drift 3 = .ok (.ldc2_w 250, 3) := by decide +kernel
theorem dX10_drift_6 : decode cX10_drift 6 = .ok (.invokestatic 93, 3) := by decide +kernel
theorem dX10_drift_9 : decode cX10_drift 9 = .ok (.ifCond .ne 6, 3) := by decide +kernel
theorem dX10_drift_12 : decode cX10_drift 12 = .ok (.ldc 109, 2) := by decide +kernel
theorem dX10_drift_14 : decode cX10_drift 14 = .ok (.ireturn, 1) := by decide +kernel
theorem dX10_drift_15 : decode cX10_drift 15 = .ok (.aload_n 0, 1) := by decide +kernel
theorem dX10_drift_16 : decode cX10_drift 16 = .ok (.getfield 90, 3) := by decide +kernel
theorem dX10_drift_19 : decode cX10_drift 19 = .ok (.ifCond .ne 6, 3) := by decide +kernel
theorem dX10_drift_22 : decode cX10_drift 22 = .ok (.ldc 249, 2) := by decide +kernel
theorem dX10_drift_24 : decode cX10_drift 24 = .ok (.ireturn, 1) := by decide +kernel
theorem dX10_drift_25 : decode cX10_drift 25 = .ok (.aload_n 0, 1) := by decide +kernel
theorem dX10_drift_26 : decode cX10_drift 26 = .ok (.getfield 7, 3) := by decide +kernel
theorem dX10_drift_29 : decode cX10_drift 29 = .ok (.iconst 0, 1) := by decide +kernel
theorem dX10_drift_30 : decode cX10_drift 30 = .ok (.iaload, 1) := by decide +kernel
theorem dX10_drift_31 : decode cX10_drift 31 = .ok (.sipush 9000, 3) := by decide +kernel
theorem dX10_drift_34 : decode cX10_drift 34 = .ok (.if_icmp .le 6, 3) := by decide +kernel
theorem dX10_drift_37 : decode cX10_drift 37 = .ok (.ldc 113, 2) := by decide +kernel
theorem dX10_drift_39 : decode cX10_drift 39 = .ok (.ireturn, 1) := by decide +kernel
theorem dX10_drift_40 : decode cX10_drift 40 = .ok (.aload_n 0, 1) := by decide +kernel
theorem dX10_drift_41 : decode cX10_drift 41 = .ok (.invokevirtual 252, 3) := by decide +kernel
theorem dX10_drift_44 : decode cX10_drift 44 = .ok (.iconst 0, 1) := by decide +kernel
theorem dX10_drift_45 : decode cX10_drift 45 = .ok (.istore_n 2, 1) := by decide +kernel
theorem dX10_drift_46 : decode cX10_drift 46 = .ok (.iload_n 2, 1) := by decide +kernel
theorem dX10_drift_47 : decode cX10_drift 47 = .ok (.iload_n 1, 1) := by decide +kernel
theorem dX10_drift_48 : decode cX10_drift 48 = .ok (.if_icmp .ge 111, 3) := by decide +kernel
theorem dX10_drift_51 : decode cX10_drift 51 = .ok (.aload_n 0, 1) := by decide +kernel
theorem dX10_drift_52 : decode cX10_drift 52 = .ok (.getfield 97, 3) := by decide +kernel
theorem dX10_drift_55 : decode cX10_drift 55 = .ok (.ifCond .le 14, 3) := by decide +kernel
theorem dX10_drift_58 : decode cX10_drift 58 = .ok (.aload_n 0, 1) := by decide +kernel
theorem dX10_drift_59 : decode cX10_drift 59 = .ok (.aload_n 0, 1) := by decide +kernel
theorem dX10_drift_60 : decode cX10_drift 60 = .ok (.getfield 97, 3) := by decide +kernel
theorem dX10_drift_63 : decode cX10_drift 63 = .ok (.invokevirtual 271, 3) := by decide +kernel
theorem dX10_drift_66 : decode cX10_drift 66 = .ok (.goto 4, 3) := by decide +kernel
theorem dX10_drift_69 : decode cX10_drift 69 = .ok (.iconst (-1), 1) := by decide +kernel
theorem dX10_drift_70 : decode cX10_drift 70 = .ok (.istore_n 3, 1) := by decide +kernel
theorem dX10_drift_71 : decode cX10_drift 71 = .ok (.iload_n 3, 1) := by decide +kernel
theorem dX10_drift_72 : decode cX10_drift 72 = .ok (.iconst (-1), 1) := by decide +kernel
theorem dX10_drift_73 : decode cX10_drift 73 = .ok (.if_icmp .eq 15, 3) := by decide +kernel
theorem dX10_drift_76 : decode cX10_drift 76 = .ok (.aload_n 0, 1) := by decide +kernel
theorem dX10_drift_77 : decode cX10_drift 77 = .ok (.getfield 7, 3) := by decide +kernel
theorem dX10_drift_80 : decode cX10_drift 80 = .ok (.bipush 6, 2) := by decide +kernel
theorem dX10_drift_82 : decode cX10_drift 82 = .ok (.iload_n 3, 1) := by decide +kernel
theorem dX10_drift_83 : decode cX10_drift 83 = .ok (.iadd, 1) := by decide +kernel
theorem dX10_drift_84 : decode cX10_drift 84 = .ok (.iaload, 1) := by decide +kernel
theorem dX10_drift_85 : decode cX10_drift 85 = .ok (.ifCond .le 7, 3) := by decide +kernel
theorem dX10_drift_88 : decode cX10_drift 88 = .ok (.iconst 0, 1) := by decide +kernel
theorem dX10_drift_89 : decode cX10_drift 89 = .ok (.goto 16, 3) := by decide +kernel
theorem dX10_drift_92 : decode cX10_drift 92 = .ok (.aload_n 0, 1) := by decide +kernel
theorem dX10_drift_93 : decode cX10_drift 93 = .ok (.getfield 17, 3) := by decide +kernel
theorem dX10_drift_96 : decode cX10_drift 96 = .ok (.aload_n 0, 1) := by decide +kernel
theorem dX10_drift_97 : decode cX10_drift 97 = .ok (.getfield 7, 3) := by decide +kernel
theorem dX10_drift_100 : decode cX10_drift 100 = .ok (.iconst 2, 1) := by decide +kernel
theorem dX10_drift_101 : decode cX10_drift 101 = .ok (.iload_n 3, 1) := by decide +kernel
theorem dX10_drift_102 : decode cX10_drift 102 = .ok (.iadd, 1) := by decide +kernel
theorem dX10_drift_103 : decode cX10_drift 103 = .ok (.iaload, 1) := by decide +kernel
theorem dX10_drift_104 : decode cX10_drift 104 = .ok (.iaload, 1) := by decide +kernel
theorem dX10_drift_105 : decode cX10_drift 105 = .ok (.istore 4, 2) := by decide +kernel
theorem dX10_drift_107 : decode cX10_drift 107 = .ok (.iload 4, 2) := by decide +kernel
theorem dX10_drift_109 : decode cX10_drift 109 = .ok (.ifCond .eq 39, 3) := by decide +kernel
theorem dX10_drift_112 : decode cX10_drift 112 = .ok (.aload_n 0, 1) := by decide +kernel
theorem dX10_drift_113 : decode cX10_drift 113 = .ok (.getfield 7, 3) := by decide +kernel
theorem dX10_drift_116 : decode cX10_drift 116 = .ok (.bipush 10, 2) := by decide +kernel
theorem dX10_drift_118 : decode cX10_drift 118 = .ok (.bipush 9, 2) := by decide +kernel
theorem dX10_drift_120 : decode cX10_drift 120 = .ok (.iload_n 3, 1) := by decide +kernel
theorem dX10_drift_121 : decode cX10_drift 121 = .ok (.imul, 1) := by decide +kernel
theorem dX10_drift_122 : decode cX10_drift 122 = .ok (.iadd, 1) := by decide +kernel
theorem dX10_drift_123 : decode cX10_drift 123 = .ok (.iload 4, 2) := by decide +kernel
theorem dX10_drift_125 : decode cX10_drift 125 = .ok (.aload_n 0, 1) := by decide +kernel
theorem dX10_drift_126 : decode cX10_drift 126 = .ok (.iload 4, 2) := by decide +kernel
theorem dX10_drift_128 : decode cX10_drift 128 = .ok (.invokestatic 274, 3) := by decide +kernel
theorem dX10_drift_131 : decode cX10_drift 131 = .ok (.invokevirtual 271, 3) := by decide +kernel
theorem dX10_drift_134 : decode cX10_drift 134 = .ok (.invokestatic 277, 3) := by decide +kernel
theorem dX10_drift_137 : decode cX10_drift 137 = .ok (.iastore, 1) := by decide +kernel
theorem dX10_drift_138 : decode cX10_drift 138 = .ok (.aload_n 0, 1) := by decide +kernel
theorem dX10_drift_139 : decode cX10_drift 139 = .ok (.getfield 7, 3) := by decide +kernel
theorem dX10_drift_142 : decode cX10_drift 142 = .ok (.bipush 6, 2) := by decide +kernel
theorem dX10_drift_144 : decode cX10_drift 144 = .ok (.iload_n 3, 1) := by decide +kernel
theorem dX10_drift_145 : decode cX10_drift 145 = .ok (.iadd, 1) := by decide +kernel
theorem dX10_drift_146 : decode cX10_drift 146 = .ok (.iconst 1, 1) := by decide +kernel
theorem dX10_drift_147 : decode cX10_drift 147 = .ok (.iastore, 1) := by decide +kernel
theorem dX10_drift_148 : decode cX10_drift 148 = .ok (.aload_n 0, 1) := by decide +kernel
theorem dX10_drift_149 : decode cX10_drift 149 = .ok (.iconst 0, 1) := by decide +kernel
theorem dX10_drift_150 : decode cX10_drift 150 = .ok (.invokevirtual 255, 3) := by decide +kernel
theorem dX10_drift_153 : decode cX10_drift 153 = .ok (.iinc 2 1, 3) := by decide +kernel
theorem dX10_drift_156 : decode cX10_drift 156 = .ok (.goto (-110), 3) := by decide +kernel
theorem dX10_drift_159 : decode cX10_drift 159 = .ok (.aload_n 0, 1) := by decide +kernel
theorem dX10_drift_160 : decode cX10_drift 160 = .ok (.getfield 7, 3) := by decide +kernel
theorem dX10_drift_163 : decode cX10_drift 163 = .ok (.iconst 1, 1) := by decide +kernel
theorem dX10_drift_164 : decode cX10_drift 164 = .ok (.iaload, 1) := by decide +kernel
theorem dX10_drift_165 : decode cX10_drift 165 = .ok (.ireturn, 1) := by decide +kernel
theorem dX10_tries_0 : decode cX10_tries 0 = .ok (.aload_n 0, 1) := by decide +kernel
theorem dX10_tries_1 : decode cX10_tries 1 = .ok (.iconst 0, 1) := by decide +kernel
theorem dX10_tries_2 : decode cX10_tries 2 = .ok (.bipush 59, 2) := by decide +kernel
theorem dX10_tries_4 : decode cX10_tries 4 = .ok (.invokevirtual 246, 3) := by decide +kernel
theorem dX10_tries_7 : decode cX10_tries 7 = .ok (.return_, 1) := by decide +kernel
theorem dX10_walksAll_0 : decode cX10_walksAll 0 = .ok (.iconst 0, 1) := by decide +kernel
theorem dX10_walksAll_1 : decode cX10_walksAll 1 = .ok (.istore_n 1, 1) := by decide +kernel
theorem dX10_walksAll_2 : decode cX10_walksAll 2 = .ok (.iload_n 1, 1) := by decide +kernel
theorem dX10_walksAll_3 : decode cX10_walksAll 3 = .ok (.aload_n 0, 1) := by decide +kernel
theorem dX10_walksAll_4 : decode cX10_walksAll 4 = .ok (.getfield 97, 3) := by decide +kernel
theorem dX10_walksAll_7 : decode cX10_walksAll 7 = .ok (.if_icmp .ge 16, 3) := by decide +kernel
theorem dX10_walksAll_10 : decode cX10_walksAll 10 = .ok (.aload_n 0, 1) := by decide +kernel
theorem dX10_walksAll_11 : decode cX10_walksAll 11 = .ok (.bipush 59, 2) := by decide +kernel
theorem dX10_walksAll_13 : decode cX10_walksAll 13 = .ok (.iload_n 1, 1) := by decide +kernel
theorem dX10_walksAll_14 : decode cX10_walksAll 14 = .ok (.invokevirtual 235, 3) := by decide +kernel
theorem dX10_walksAll_17 : decode cX10_walksAll 17 = .ok (.iinc 1 1, 3) := by decide +kernel
theorem dX10_walksAll_20 : decode cX10_walksAll 20 = .ok (.goto (-18), 3) := by decide +kernel
theorem dX10_walksAll_23 : decode cX10_walksAll 23 = .ok (.return_, 1) := by decide +kernel
theorem dX10_where_0 : decode cX10_where 0 = .ok (.aload_n 0, 1) := by decide +kernel
theorem dX10_where_1 : decode cX10_where 1 = .ok (.iload_n 1, 1) := by decide +kernel
theorem dX10_where_2 : decode cX10_where 2 = .ok (.invokevirtual 100, 3) := by decide +kernel
theorem dX10_where_5 : decode cX10_where 5 = .ok (.ifCond .ne 6, 3) := by decide +kernel
theorem dX10_where_8 : decode cX10_where 8 = .ok (.ldc 219, 2) := by decide +kernel
theorem dX10_where_10 : decode cX10_where 10 = .ok (.ireturn, 1) := by decide +kernel
theorem dX10_where_11 : decode cX10_where 11 = .ok (.iload_n 2, 1) := by decide +kernel
theorem dX10_where_12 : decode cX10_where 12 = .ok (.i2l, 1) := by decide +kernel
theorem dX10_where_13 : decode cX10_where 13 = .ok (.lconst 0, 1) := by decide +kernel
theorem dX10_where_14 : decode cX10_where 14 = .ok (.ldc2_w 280, 3) := by decide +kernel
theorem dX10_where_17 : decode cX10_where 17 = .ok (.invokestatic 93, 3) := by decide +kernel
theorem dX10_where_20 : decode cX10_where 20 = .ok (.ifCond .ne 6, 3) := by decide +kernel
theorem dX10_where_23 : decode cX10_where 23 = .ok (.ldc 109, 2) := by decide +kernel
theorem dX10_where_25 : decode cX10_where 25 = .ok (.ireturn, 1) := by decide +kernel
theorem dX10_where_26 : decode cX10_where 26 = .ok (.aload_n 0, 1) := by decide +kernel
theorem dX10_where_27 : decode cX10_where 27 = .ok (.invokevirtual 282, 3) := by decide +kernel
theorem dX10_where_30 : decode cX10_where 30 = .ok (.iconst 0, 1) := by decide +kernel
theorem dX10_where_31 : decode cX10_where 31 = .ok (.istore_n 3, 1) := by decide +kernel
theorem dX10_where_32 : decode cX10_where 32 = .ok (.iload_n 3, 1) := by decide +kernel
theorem dX10_where_33 : decode cX10_where 33 = .ok (.iload_n 2, 1) := by decide +kernel
theorem dX10_where_34 : decode cX10_where 34 = .ok (.if_icmp .ge 13, 3) := by decide +kernel
theorem dX10_where_37 : decode cX10_where 37 = .ok (.aload_n 0, 1) := by decide +kernel
theorem dX10_where_38 : decode cX10_where 38 = .ok (.invokevirtual 285, 3) := by decide +kernel
theorem dX10_where_41 : decode cX10_where 41 = .ok (.iinc 3 1, 3) := by decide +kernel
theorem dX10_where_44 : decode cX10_where 44 = .ok (.goto (-12), 3) := by decide +kernel
theorem dX10_where_47 : decode cX10_where 47 = .ok (.aload_n 0, 1) := by decide +kernel
theorem dX10_where_48 : decode cX10_where 48 = .ok (.getfield 7, 3) := by decide +kernel
theorem dX10_where_51 : decode cX10_where 51 = .ok (.bipush 61, 2) := by decide +kernel
theorem dX10_where_53 : decode cX10_where 53 = .ok (.iload_n 1, 1) := by decide +kernel
theorem dX10_where_54 : decode cX10_where 54 = .ok (.iadd, 1) := by decide +kernel
theorem dX10_where_55 : decode cX10_where 55 = .ok (.iaload, 1) := by decide +kernel
theorem dX10_where_56 : decode cX10_where 56 = .ok (.ireturn, 1) := by decide +kernel
theorem dX10_meets_0 : decode cX10_meets 0 = .ok (.aload_n 0, 1) := by decide +kernel
theorem dX10_meets_1 : decode cX10_meets 1 = .ok (.iload_n 1, 1) := by decide +kernel
theorem dX10_meets_2 : decode cX10_meets 2 = .ok (.iload_n 2, 1) := by decide +kernel
theorem dX10_meets_3 : decode cX10_meets 3 = .ok (.invokevirtual 261, 3) := by decide +kernel
theorem dX10_meets_6 : decode cX10_meets 6 = .ok (.ifCond .ne 6, 3) := by decide +kernel
theorem dX10_meets_9 : decode cX10_meets 9 = .ok (.ldc 219, 2) := by decide +kernel
theorem dX10_meets_11 : decode cX10_meets 11 = .ok (.ireturn, 1) := by decide +kernel
theorem dX10_meets_12 : decode cX10_meets 12 = .ok (.aload_n 0, 1) := by decide +kernel
theorem dX10_meets_13 : decode cX10_meets 13 = .ok (.invokevirtual 282, 3) := by decide +kernel
theorem dX10_meets_16 : decode cX10_meets 16 = .ok (.iconst 1, 1) := by decide +kernel
theorem dX10_meets_17 : decode cX10_meets 17 = .ok (.istore_n 3, 1) := by decide +kernel
theorem dX10_meets_18 : decode cX10_meets 18 = .ok (.iload_n 3, 1) := by decide +kernel
theorem dX10_meets_19 : decode cX10_meets 19 = .ok (.bipush 20, 2) := by decide +kernel
theorem dX10_meets_21 : decode cX10_meets 21 = .ok (.if_icmp .gt 26, 3) := by decide +kernel
theorem dX10_meets_24 : decode cX10_meets 24 = .ok (.aload_n 0, 1) := by decide +kernel
theorem dX10_meets_25 : decode cX10_meets 25 = .ok (.invokevirtual 285, 3) := by decide +kernel
theorem dX10_meets_28 : decode cX10_meets 28 = .ok (.aload_n 0, 1) := by decide +kernel
theorem dX10_meets_29 : decode cX10_meets 29 = .ok (.bipush 59, 2) := by decide +kernel
theorem dX10_meets_31 : decode cX10_meets 31 = .ok (.iload_n 1, 1) := by decide +kernel
theorem dX10_meets_32 : decode cX10_meets 32 = .ok (.iload_n 2, 1) := by decide +kernel
theorem dX10_meets_33 : decode cX10_meets 33 = .ok (.invokevirtual 239, 3) := by decide +kernel
theorem dX10_meets_36 : decode cX10_meets 36 = .ok (.ifCond .eq 5, 3) := by decide +kernel
theorem dX10_meets_39 : decode cX10_meets 39 = .ok (.iload_n 3, 1) := by decide +kernel
theorem dX10_meets_40 : decode cX10_meets 40 = .ok (.ireturn, 1) := by decide +kernel
theorem dX10_meets_41 : decode cX10_meets 41 = .ok (.iinc 3 1, 3) := by decide +kernel
theorem dX10_meets_44 : decode cX10_meets 44 = .ok (.goto (-26), 3) := by decide +kernel
theorem dX10_meets_47 : decode cX10_meets 47 = .ok (.iconst (-1), 1) := by decide +kernel
theorem dX10_meets_48 : decode cX10_meets 48 = .ok (.ireturn, 1) := by decide +kernel
theorem dX10_wayOf_0 : decode cX10_wayOf 0 = .ok (.iconst 1, 1) := by decide +kernel
theorem dX10_wayOf_1 : decode cX10_wayOf 1 = .ok (.iload_n 1, 1) := by decide +kernel
theorem dX10_wayOf_2 : decode cX10_wayOf 2 = .ok (.ishl, 1) := by decide +kernel
theorem dX10_wayOf_3 : decode cX10_wayOf 3 = .ok (.istore_n 3, 1) := by decide +kernel
theorem dX10_wayOf_4 : decode cX10_wayOf 4 = .ok (.iconst 0, 1) := by decide +kernel
theorem dX10_wayOf_5 : decode cX10_wayOf 5 = .ok (.istore 4, 2) := by decide +kernel
theorem dX10_wayOf_7 : decode cX10_wayOf 7 = .ok (.iload 4, 2) := by decide +kernel
theorem dX10_wayOf_9 : decode cX10_wayOf 9 = .ok (.bipush 8, 2) := by decide +kernel
theorem dX10_wayOf_11 : decode cX10_wayOf 11 = .ok (.if_icmp .ge 69, 3) := by decide +kernel
theorem dX10_wayOf_14 : decode cX10_wayOf 14 = .ok (.iload_n 3, 1) := by decide +kernel
theorem dX10_wayOf_15 : decode cX10_wayOf 15 = .ok (.iload_n 2, 1) := by decide +kernel
theorem dX10_wayOf_16 : decode cX10_wayOf 16 = .ok (.invokestatic 151, 3) := by decide +kernel
theorem dX10_wayOf_19 : decode cX10_wayOf 19 = .ok (.ifCond .eq 6, 3) := by decide +kernel
theorem dX10_wayOf_22 : decode cX10_wayOf 22 = .ok (.iload 4, 2) := by decide +kernel
theorem dX10_wayOf_24 : decode cX10_wayOf 24 = .ok (.ireturn, 1) := by decide +kernel
theorem dX10_wayOf_25 : decode cX10_wayOf 25 = .ok (.iload_n 3, 1) := by decide +kernel
theorem dX10_wayOf_26 : decode cX10_wayOf 26 = .ok (.istore 5, 2) := by decide +kernel
theorem dX10_wayOf_28 : decode cX10_wayOf 28 = .ok (.iconst 0, 1) := by decide +kernel
theorem dX10_wayOf_29 : decode cX10_wayOf 29 = .ok (.istore 6, 2) := by decide +kernel
theorem dX10_wayOf_31 : decode cX10_wayOf 31 = .ok (.iload 6, 2) := by decide +kernel
theorem dX10_wayOf_33 : decode cX10_wayOf 33 = .ok (.aload_n 0, 1) := by decide +kernel
theorem dX10_wayOf_34 : decode cX10_wayOf 34 = .ok (.getfield 90, 3) := by decide +kernel
theorem dX10_wayOf_37 : decode cX10_wayOf 37 = .ok (.if_icmp .ge 34, 3) := by decide +kernel
theorem dX10_wayOf_40 : decode cX10_wayOf 40 = .ok (.iload 5, 2) := by decide +kernel
theorem dX10_wayOf_42 : decode cX10_wayOf 42 = .ok (.iload_n 3, 1) := by decide +kernel
theorem dX10_wayOf_43 : decode cX10_wayOf 43 = .ok (.iload 6, 2) := by decide +kernel
theorem dX10_wayOf_45 : decode cX10_wayOf 45 = .ok (.invokestatic 151, 3) := by decide +kernel
theorem dX10_wayOf_48 : decode cX10_wayOf 48 = .ok (.ifCond .eq 13, 3) := by decide +kernel
theorem dX10_wayOf_51 : decode cX10_wayOf 51 = .ok (.aload_n 0, 1) := by decide +kernel
theorem dX10_wayOf_52 : decode cX10_wayOf 52 = .ok (.getfield 17, 3) := by decide +kernel
theorem dX10_wayOf_55 : decode cX10_wayOf 55 = .ok (.iload 6, 2) := by decide +kernel
theorem dX10_wayOf_57 : decode cX10_wayOf 57 = .ok (.iaload, 1) := by decide +kernel
theorem dX10_wayOf_58 : decode cX10_wayOf 58 = .ok (.goto 4, 3) := by decide +kernel
theorem dX10_wayOf_61 : decode cX10_wayOf 61 = .ok (.iconst 0, 1) := by decide +kernel
theorem dX10_wayOf_62 : decode cX10_wayOf 62 = .ok (.ior, 1) := by decide +kernel
theorem dX10_wayOf_63 : decode cX10_wayOf 63 = .ok (.istore 5, 2) := by decide +kernel
theorem dX10_wayOf_65 : decode cX10_wayOf 65 = .ok (.iinc 6 1, 3) := by decide +kernel
theorem dX10_wayOf_68 : decode cX10_wayOf 68 = .ok (.goto (-37), 3) := by decide +kernel
theorem dX10_wayOf_71 : decode cX10_wayOf 71 = .ok (.iload 5, 2) := by decide +kernel
theorem dX10_wayOf_73 : decode cX10_wayOf 73 = .ok (.istore_n 3, 1) := by decide +kernel
theorem dX10_wayOf_74 : decode cX10_wayOf 74 = .ok (.iinc 4 1, 3) := by decide +kernel
theorem dX10_wayOf_77 : decode cX10_wayOf 77 = .ok (.goto (-70), 3) := by decide +kernel
theorem dX10_wayOf_80 : decode cX10_wayOf 80 = .ok (.ldc_w 288, 3) := by decide +kernel
theorem dX10_wayOf_83 : decode cX10_wayOf 83 = .ok (.ireturn, 1) := by decide +kernel
theorem dX10_nextOf_0 : decode cX10_nextOf 0 = .ok (.aload_n 0, 1) := by decide +kernel
theorem dX10_nextOf_1 : decode cX10_nextOf 1 = .ok (.iload_n 1, 1) := by decide +kernel
theorem dX10_nextOf_2 : decode cX10_nextOf 2 = .ok (.iload_n 2, 1) := by decide +kernel
theorem dX10_nextOf_3 : decode cX10_nextOf 3 = .ok (.invokevirtual 289, 3) := by decide +kernel
theorem dX10_nextOf_6 : decode cX10_nextOf 6 = .ok (.istore_n 3, 1) := by decide +kernel
theorem dX10_nextOf_7 : decode cX10_nextOf 7 = .ok (.iconst 0, 1) := by decide +kernel
theorem dX10_nextOf_8 : decode cX10_nextOf 8 = .ok (.istore 4, 2) := by decide +kernel
theorem dX10_nextOf_10 : decode cX10_nextOf 10 = .ok (.iload 4, 2) := by decide +kernel
theorem dX10_nextOf_12 : decode cX10_nextOf 12 = .ok (.aload_n 0, 1) := by decide +kernel
theorem dX10_nextOf_13 : decode cX10_nextOf 13 = .ok (.getfield 90, 3) := by decide +kernel
theorem dX10_nextOf_16 : decode cX10_nextOf 16 = .ok (.if_icmp .ge 43, 3) := by decide +kernel
theorem dX10_nextOf_19 : decode cX10_nextOf 19 = .ok (.iload_n 3, 1) := by decide +kernel
theorem dX10_nextOf_20 : decode cX10_nextOf 20 = .ok (.ifCond .le 39, 3) := by decide +kernel
theorem dX10_nextOf_23 : decode cX10_nextOf 23 = .ok (.aload_n 0, 1) := by decide +kernel
theorem dX10_nextOf_24 : decode cX10_nextOf 24 = .ok (.getfield 17, 3) := by decide +kernel
theorem dX10_nextOf_27 : decode cX10_nextOf 27 = .ok (.iload_n 1, 1) := by decide +kernel
theorem dX10_nextOf_28 : decode cX10_nextOf 28 = .ok (.iaload, 1) := by decide +kernel
theorem dX10_nextOf_29 : decode cX10_nextOf 29 = .ok (.iload 4, 2) := by decide +kernel
theorem dX10_nextOf_31 : decode cX10_nextOf 31 = .ok (.invokestatic 151, 3) := by decide +kernel
theorem dX10_nextOf_34 : decode cX10_nextOf 34 = .ok (.ifCond .eq 19, 3) := by decide +kernel
theorem dX10_nextOf_37 : decode cX10_nextOf 37 = .ok (.aload_n 0, 1) := by decide +kernel
theorem dX10_nextOf_38 : decode cX10_nextOf 38 = .ok (.iload 4, 2) := by decide +kernel
theorem dX10_nextOf_40 : decode cX10_nextOf 40 = .ok (.iload_n 2, 1) := by decide +kernel
theorem dX10_nextOf_41 : decode cX10_nextOf 41 = .ok (.invokevirtual 289, 3) := by decide +kernel
theorem dX10_nextOf_44 : decode cX10_nextOf 44 = .ok (.iload_n 3, 1) := by decide +kernel
theorem dX10_nextOf_45 : decode cX10_nextOf 45 = .ok (.iconst 1, 1) := by decide +kernel
theorem dX10_nextOf_46 : decode cX10_nextOf 46 = .ok (.isub, 1) := by decide +kernel
theorem dX10_nextOf_47 : decode cX10_nextOf 47 = .ok (.if_icmp .ne 6, 3) := by decide +kernel
theorem dX10_nextOf_50 : decode cX10_nextOf 50 = .ok (.iload 4, 2) := by decide +kernel
theorem dX10_nextOf_52 : decode cX10_nextOf 52 = .ok (.ireturn, 1) := by decide +kernel
theorem dX10_nextOf_53 : decode cX10_nextOf 53 = .ok (.iinc 4 1, 3) := by decide +kernel
theorem dX10_nextOf_56 : decode cX10_nextOf 56 = .ok (.goto (-46), 3) := by decide +kernel
theorem dX10_nextOf_59 : decode cX10_nextOf 59 = .ok (.iconst (-1), 1) := by decide +kernel
theorem dX10_nextOf_60 : decode cX10_nextOf 60 = .ok (.ireturn, 1) := by decide +kernel
theorem dX10_way_0 : decode cX10_way 0 = .ok (.aload_n 0, 1) := by decide +kernel
theorem dX10_way_1 : decode cX10_way 1 = .ok (.iload_n 1, 1) := by decide +kernel
theorem dX10_way_2 : decode cX10_way 2 = .ok (.invokevirtual 216, 3) := by decide +kernel
theorem dX10_way_5 : decode cX10_way 5 = .ok (.ifCond .eq 11, 3) := by decide +kernel
theorem dX10_way_8 : decode cX10_way 8 = .ok (.aload_n 0, 1) := by decide +kernel
theorem dX10_way_9 : decode cX10_way 9 = .ok (.iload_n 2, 1) := by decide +kernel
theorem dX10_way_10 : decode cX10_way 10 = .ok (.invokevirtual 216, 3) := by decide +kernel
theorem dX10_way_13 : decode cX10_way 13 = .ok (.ifCond .ne 6, 3) := by decide +kernel
theorem dX10_way_16 : decode cX10_way 16 = .ok (.ldc 219, 2) := by decide +kernel
theorem dX10_way_18 : decode cX10_way 18 = .ok (.ireturn, 1) := by decide +kernel
theorem dX10_way_19 : decode cX10_way 19 = .ok (.iload_n 3, 1) := by decide +kernel
theorem dX10_way_20 : decode cX10_way 20 = .ok (.i2l, 1) := by decide +kernel
theorem dX10_way_21 : decode cX10_way 21 = .ok (.lconst 0, 1) := by decide +kernel
theorem dX10_way_22 : decode cX10_way 22 = .ok (.lconst 1, 1) := by decide +kernel
theorem dX10_way_23 : decode cX10_way 23 = .ok (.invokestatic 93, 3) := by decide +kernel
theorem dX10_way_26 : decode cX10_way 26 = .ok (.ifCond .ne 6, 3) := by decide +kernel
theorem dX10_way_29 : decode cX10_way 29 = .ok (.ldc 109, 2) := by decide +kernel
theorem dX10_way_31 : decode cX10_way 31 = .ok (.ireturn, 1) := by decide +kernel
theorem dX10_way_32 : decode cX10_way 32 = .ok (.aload_n 0, 1) := by decide +kernel
theorem dX10_way_33 : decode cX10_way 33 = .ok (.iload_n 1, 1) := by decide +kernel
theorem dX10_way_34 : decode cX10_way 34 = .ok (.iload_n 2, 1) := by decide +kernel
theorem dX10_way_35 : decode cX10_way 35 = .ok (.invokevirtual 289, 3) := by decide +kernel
theorem dX10_way_38 : decode cX10_way 38 = .ok (.ldc_w 288, 3) := by decide +kernel
theorem dX10_way_41 : decode cX10_way 41 = .ok (.if_icmp .ne 5, 3) := by decide +kernel
theorem dX10_way_44 : decode cX10_way 44 = .ok (.iconst (-1), 1) := by decide +kernel
theorem dX10_way_45 : decode cX10_way 45 = .ok (.ireturn, 1) := by decide +kernel
theorem dX10_way_46 : decode cX10_way 46 = .ok (.iload_n 3, 1) := by decide +kernel
theorem dX10_way_47 : decode cX10_way 47 = .ok (.ifCond .ne 12, 3) := by decide +kernel
theorem dX10_way_50 : decode cX10_way 50 = .ok (.aload_n 0, 1) := by decide +kernel
theorem dX10_way_51 : decode cX10_way 51 = .ok (.iload_n 1, 1) := by decide +kernel
theorem dX10_way_52 : decode cX10_way 52 = .ok (.iload_n 2, 1) := by decide +kernel
theorem dX10_way_53 : decode cX10_way 53 = .ok (.invokevirtual 289, 3) := by decide +kernel
theorem dX10_way_56 : decode cX10_way 56 = .ok (.goto 9, 3) := by decide +kernel
theorem dX10_way_59 : decode cX10_way 59 = .ok (.aload_n 0, 1) := by decide +kernel
theorem dX10_way_60 : decode cX10_way 60 = .ok (.iload_n 1, 1) := by decide +kernel
theorem dX10_way_61 : decode cX10_way 61 = .ok (.iload_n 2, 1) := by decide +kernel
theorem dX10_way_62 : decode cX10_way 62 = .ok (.invokevirtual 292, 3) := by decide +kernel
theorem dX10_way_65 : decode cX10_way 65 = .ok (.ireturn, 1) := by decide +kernel
theorem dX10_isApart_0 : decode cX10_isApart 0 = .ok (.aload_n 0, 1) := by decide +kernel
theorem dX10_isApart_1 : decode cX10_isApart 1 = .ok (.invokevirtual 282, 3) := by decide +kernel
theorem dX10_isApart_4 : decode cX10_isApart 4 = .ok (.iconst 1, 1) := by decide +kernel
theorem dX10_isApart_5 : decode cX10_isApart 5 = .ok (.istore_n 1, 1) := by decide +kernel
theorem dX10_isApart_6 : decode cX10_isApart 6 = .ok (.iload_n 1, 1) := by decide +kernel
theorem dX10_isApart_7 : decode cX10_isApart 7 = .ok (.bipush 20, 2) := by decide +kernel
theorem dX10_isApart_9 : decode cX10_isApart 9 = .ok (.if_icmp .gt 111, 3) := by decide +kernel
theorem dX10_isApart_12 : decode cX10_isApart 12 = .ok (.iconst 0, 1) := by decide +kernel
theorem dX10_isApart_13 : decode cX10_isApart 13 = .ok (.istore_n 2, 1) := by decide +kernel
theorem dX10_isApart_14 : decode cX10_isApart 14 = .ok (.iload_n 2, 1) := by decide +kernel
theorem dX10_isApart_15 : decode cX10_isApart 15 = .ok (.aload_n 0, 1) := by decide +kernel
theorem dX10_isApart_16 : decode cX10_isApart 16 = .ok (.getfield 97, 3) := by decide +kernel
theorem dX10_isApart_19 : decode cX10_isApart 19 = .ok (.if_icmp .ge 48, 3) := by decide +kernel
theorem dX10_isApart_22 : decode cX10_isApart 22 = .ok (.aload_n 0, 1) := by decide +kernel
theorem dX10_isApart_23 : decode cX10_isApart 23 = .ok (.getfield 54, 3) := by decide +kernel
theorem dX10_isApart_26 : decode cX10_isApart 26 = .ok (.iload_n 2, 1) := by decide +kernel
theorem dX10_isApart_27 : decode cX10_isApart 27 = .ok (.aload_n 0, 1) := by decide +kernel
theorem dX10_isApart_28 : decode cX10_isApart 28 = .ok (.getfield 7, 3) := by decide +kernel
theorem dX10_isApart_31 : decode cX10_isApart 31 = .ok (.bipush 61, 2) := by decide +kernel
theorem dX10_isApart_33 : decode cX10_isApart 33 = .ok (.iload_n 2, 1) := by decide +kernel
theorem dX10_isApart_34 : decode cX10_isApart 34 = .ok (.iadd, 1) := by decide +kernel
theorem dX10_isApart_35 : decode cX10_isApart 35 = .ok (.iaload, 1) := by decide +kernel
theorem dX10_isApart_36 : decode cX10_isApart 36 = .ok (.iastore, 1) := by decide +kernel
theorem dX10_isApart_37 : decode cX10_isApart 37 = .ok (.aload_n 0, 1) := by decide +kernel
theorem dX10_isApart_38 : decode cX10_isApart 38 = .ok (.getfield 57, 3) := by decide +kernel
theorem dX10_isApart_41 : decode cX10_isApart 41 = .ok (.iload_n 2, 1) := by decide +kernel
theorem dX10_isApart_42 : decode cX10_isApart 42 = .ok (.iconst 0, 1) := by decide +kernel
theorem dX10_isApart_43 : decode cX10_isApart 43 = .ok (.bastore, 1) := by decide +kernel
theorem dX10_isApart_44 : decode cX10_isApart 44 = .ok (.iload_n 1, 1) := by decide +kernel
theorem dX10_isApart_45 : decode cX10_isApart 45 = .ok (.aload_n 0, 1) := by decide +kernel
theorem dX10_isApart_46 : decode cX10_isApart 46 = .ok (.getfield 63, 3) := by decide +kernel
theorem dX10_isApart_49 : decode cX10_isApart 49 = .ok (.iload_n 2, 1) := by decide +kernel
theorem dX10_isApart_50 : decode cX10_isApart 50 = .ok (.iaload, 1) := by decide +kernel
theorem dX10_isApart_51 : decode cX10_isApart 51 = .ok (.if_icmp .le 10, 3) := by decide +kernel
theorem dX10_isApart_54 : decode cX10_isApart 54 = .ok (.aload_n 0, 1) := by decide +kernel
theorem dX10_isApart_55 : decode cX10_isApart 55 = .ok (.bipush 59, 2) := by decide +kernel
theorem dX10_isApart_57 : decode cX10_isApart 57 = .ok (.iload_n 2, 1) := by decide +kernel
theorem dX10_isApart_58 : decode cX10_isApart 58 = .ok (.invokevirtual 235, 3) := by decide +kernel
theorem dX10_isApart_61 : decode cX10_isApart 61 = .ok (.iinc 2 1, 3) := by decide +kernel
theorem dX10_isApart_64 : decode cX10_isApart 64 = .ok (.goto (-50), 3) := by decide +kernel
theorem dX10_isApart_67 : decode cX10_isApart 67 = .ok (.iconst 0, 1) := by decide +kernel
theorem dX10_isApart_68 : decode cX10_isApart 68 = .ok (.istore_n 2, 1) := by decide +kernel
theorem dX10_isApart_69 : decode cX10_isApart 69 = .ok (.iload_n 2, 1) := by decide +kernel
theorem dX10_isApart_70 : decode cX10_isApart 70 = .ok (.aload_n 0, 1) := by decide +kernel
theorem dX10_isApart_71 : decode cX10_isApart 71 = .ok (.getfield 97, 3) := by decide +kernel
theorem dX10_isApart_74 : decode cX10_isApart 74 = .ok (.if_icmp .ge 40, 3) := by decide +kernel
theorem dX10_isApart_77 : decode cX10_isApart 77 = .ok (.iload_n 2, 1) := by decide +kernel
theorem dX10_isApart_78 : decode cX10_isApart 78 = .ok (.iconst 1, 1) := by decide +kernel
theorem dX10_isApart_79 : decode cX10_isApart 79 = .ok (.iadd, 1) := by decide +kernel
theorem dX10_isApart_80 : decode cX10_isApart 80 = .ok (.istore_n 3, 1) := by decide +kernel
theorem dX10_isApart_81 : decode cX10_isApart 81 = .ok (.iload_n 3, 1) := by decide +kernel
theorem dX10_isApart_82 : decode cX10_isApart 82 = .ok (.aload_n 0, 1) := by decide +kernel
theorem dX10_isApart_83 : decode cX10_isApart 83 = .ok (.getfield 97, 3) := by decide +kernel
theorem dX10_isApart_86 : decode cX10_isApart 86 = .ok (.if_icmp .ge 22, 3) := by decide +kernel
theorem dX10_isApart_89 : decode cX10_isApart 89 = .ok (.aload_n 0, 1) := by decide +kernel
theorem dX10_isApart_90 : decode cX10_isApart 90 = .ok (.bipush 59, 2) := by decide +kernel
theorem dX10_isApart_92 : decode cX10_isApart 92 = .ok (.iload_n 2, 1) := by decide +kernel
theorem dX10_isApart_93 : decode cX10_isApart 93 = .ok (.iload_n 3, 1) := by decide +kernel
theorem dX10_isApart_94 : decode cX10_isApart 94 = .ok (.invokevirtual 239, 3) := by decide +kernel
theorem dX10_isApart_97 : decode cX10_isApart 97 = .ok (.ifCond .eq 5, 3) := by decide +kernel
theorem dX10_isApart_100 : decode cX10_isApart 100 = .ok (.iconst 0, 1) := by decide +kernel
theorem dX10_isApart_101 : decode cX10_isApart 101 = .ok (.ireturn, 1) := by decide +kernel
theorem dX10_isApart_102 : decode cX10_isApart 102 = .ok (.iinc 3 1, 3) := by decide +kernel
theorem dX10_isApart_105 : decode cX10_isApart 105 = .ok (.goto (-24), 3) := by decide +kernel
theorem dX10_isApart_108 : decode cX10_isApart 108 = .ok (.iinc 2 1, 3) := by decide +kernel
theorem dX10_isApart_111 : decode cX10_isApart 111 = .ok (.goto (-42), 3) := by decide +kernel
theorem dX10_isApart_114 : decode cX10_isApart 114 = .ok (.iinc 1 1, 3) := by decide +kernel
theorem dX10_isApart_117 : decode cX10_isApart 117 = .ok (.goto (-111), 3) := by decide +kernel
theorem dX10_isApart_120 : decode cX10_isApart 120 = .ok (.iconst 1, 1) := by decide +kernel
theorem dX10_isApart_121 : decode cX10_isApart 121 = .ok (.ireturn, 1) := by decide +kernel
theorem dX10_delays_0 : decode cX10_delays 0 = .ok (.iload_n 1, 1) := by decide +kernel
theorem dX10_delays_1 : decode cX10_delays 1 = .ok (.iconst (-1), 1) := by decide +kernel
theorem dX10_delays_2 : decode cX10_delays 2 = .ok (.if_icmp .eq 14, 3) := by decide +kernel
theorem dX10_delays_5 : decode cX10_delays 5 = .ok (.aload_n 0, 1) := by decide +kernel
theorem dX10_delays_6 : decode cX10_delays 6 = .ok (.iload_n 1, 1) := by decide +kernel
theorem dX10_delays_7 : decode cX10_delays 7 = .ok (.invokevirtual 100, 3) := by decide +kernel
theorem dX10_delays_10 : decode cX10_delays 10 = .ok (.ifCond .ne 6, 3) := by decide +kernel
theorem dX10_delays_13 : decode cX10_delays 13 = .ok (.ldc 219, 2) := by decide +kernel
theorem dX10_delays_15 : decode cX10_delays 15 = .ok (.ireturn, 1) := by decide +kernel
theorem dX10_delays_16 : decode cX10_delays 16 = .ok (.iconst 1, 1) := by decide +kernel
theorem dX10_delays_17 : decode cX10_delays 17 = .ok (.istore_n 2, 1) := by decide +kernel
theorem dX10_delays_18 : decode cX10_delays 18 = .ok (.iconst 0, 1) := by decide +kernel
theorem dX10_delays_19 : decode cX10_delays 19 = .ok (.istore_n 3, 1) := by decide +kernel
theorem dX10_delays_20 : decode cX10_delays 20 = .ok (.iload_n 3, 1) := by decide +kernel
theorem dX10_delays_21 : decode cX10_delays 21 = .ok (.aload_n 0, 1) := by decide +kernel
theorem dX10_delays_22 : decode cX10_delays 22 = .ok (.getfield 97, 3) := by decide +kernel
theorem dX10_delays_25 : decode cX10_delays 25 = .ok (.if_icmp .ge 13, 3) := by decide +kernel
theorem dX10_delays_28 : decode cX10_delays 28 = .ok (.iload_n 2, 1) := by decide +kernel
theorem dX10_delays_29 : decode cX10_delays 29 = .ok (.iconst 5, 1) := by decide +kernel
theorem dX10_delays_30 : decode cX10_delays 30 = .ok (.imul, 1) := by decide +kernel
theorem dX10_delays_31 : decode cX10_delays 31 = .ok (.istore_n 2, 1) := by decide +kernel
theorem dX10_delays_32 : decode cX10_delays 32 = .ok (.iinc 3 1, 3) := by decide +kernel
theorem dX10_delays_35 : decode cX10_delays 35 = .ok (.goto (-15), 3) := by decide +kernel
theorem dX10_delays_38 : decode cX10_delays 38 = .ok (.ldc_w 288, 3) := by decide +kernel
theorem dX10_delays_41 : decode cX10_delays 41 = .ok (.istore_n 3, 1) := by decide +kernel
theorem dX10_delays_42 : decode cX10_delays 42 = .ok (.iconst 0, 1) := by decide +kernel
theorem dX10_delays_43 : decode cX10_delays 43 = .ok (.istore 4, 2) := by decide +kernel
theorem dX10_delays_45 : decode cX10_delays 45 = .ok (.iload 4, 2) := by decide +kernel
theorem dX10_delays_47 : decode cX10_delays 47 = .ok (.iload_n 2, 1) := by decide +kernel
theorem dX10_delays_48 : decode cX10_delays 48 = .ok (.if_icmp .ge 153, 3) := by decide +kernel
theorem dX10_delays_51 : decode cX10_delays 51 = .ok (.iload 4, 2) := by decide +kernel
theorem dX10_delays_53 : decode cX10_delays 53 = .ok (.istore 5, 2) := by decide +kernel
theorem dX10_delays_55 : decode cX10_delays 55 = .ok (.iconst 0, 1) := by decide +kernel
theorem dX10_delays_56 : decode cX10_delays 56 = .ok (.istore 6, 2) := by decide +kernel
theorem dX10_delays_58 : decode cX10_delays 58 = .ok (.aload_n 0, 1) := by decide +kernel
theorem dX10_delays_59 : decode cX10_delays 59 = .ok (.getfield 97, 3) := by decide +kernel
theorem dX10_delays_62 : decode cX10_delays 62 = .ok (.iconst 1, 1) := by decide +kernel
theorem dX10_delays_63 : decode cX10_delays 63 = .ok (.isub, 1) := by decide +kernel
theorem dX10_delays_64 : decode cX10_delays 64 = .ok (.istore 7, 2) := by decide +kernel
theorem dX10_delays_66 : decode cX10_delays 66 = .ok (.iload 7, 2) := by decide +kernel
theorem dX10_delays_68 : decode cX10_delays 68 = .ok (.ifCond .lt 79, 3) := by decide +kernel
theorem dX10_delays_71 : decode cX10_delays 71 = .ok (.aload_n 0, 1) := by decide +kernel
theorem dX10_delays_72 : decode cX10_delays 72 = .ok (.getfield 63, 3) := by decide +kernel
theorem dX10_delays_75 : decode cX10_delays 75 = .ok (.iload 7, 2) := by decide +kernel
theorem dX10_delays_77 : decode cX10_delays 77 = .ok (.iload 5, 2) := by decide +kernel
theorem dX10_delays_79 : decode cX10_delays 79 = .ok (.iconst 5, 1) := by decide +kernel
theorem dX10_delays_80 : decode cX10_delays 80 = .ok (.irem, 1) := by decide +kernel
theorem dX10_delays_81 : decode cX10_delays 81 = .ok (.iastore, 1) := by decide +kernel
theorem dX10_delays_82 : decode cX10_delays 82 = .ok (.iload 5, 2) := by decide +kernel
theorem dX10_delays_84 : decode cX10_delays 84 = .ok (.iconst 5, 1) := by decide +kernel
theorem dX10_delays_85 : decode cX10_delays 85 = .ok (.idiv, 1) := by decide +kernel
theorem dX10_delays_86 : decode cX10_delays 86 = .ok (.istore 5, 2) := by decide +kernel
theorem dX10_delays_88 : decode cX10_delays 88 = .ok (.aload_n 0, 1) := by decide +kernel
theorem dX10_delays_89 : decode cX10_delays 89 = .ok (.getfield 7, 3) := by decide +kernel
theorem dX10_delays_92 : decode cX10_delays 92 = .ok (.bipush 6, 2) := by decide +kernel
theorem dX10_delays_94 : decode cX10_delays 94 = .ok (.iload 7, 2) := by decide +kernel
theorem dX10_delays_96 : decode cX10_delays 96 = .ok (.iadd, 1) := by decide +kernel
theorem dX10_delays_97 : decode cX10_delays 97 = .ok (.iaload, 1) := by decide +kernel
theorem dX10_delays_98 : decode cX10_delays 98 = .ok (.ifCond .le 24, 3) := by decide +kernel
theorem dX10_delays_101 : decode cX10_delays 101 = .ok (.aload_n 0, 1) := by decide +kernel
theorem dX10_delays_102 : decode cX10_delays 102 = .ok (.getfield 63, 3) := by decide +kernel
theorem dX10_delays_105 : decode cX10_delays 105 = .ok (.iload 7, 2) := by decide +kernel
theorem dX10_delays_107 : decode cX10_delays 107 = .ok (.iaload, 1) := by decide +kernel
theorem dX10_delays_108 : decode cX10_delays 108 = .ok (.aload_n 0, 1) := by decide +kernel
theorem dX10_delays_109 : decode cX10_delays 109 = .ok (.getfield 7, 3) := by decide +kernel
theorem dX10_delays_112 : decode cX10_delays 112 = .ok (.bipush 6, 2) := by decide +kernel
theorem dX10_delays_114 : decode cX10_delays 114 = .ok (.iload 7, 2) := by decide +kernel
theorem dX10_delays_116 : decode cX10_delays 116 = .ok (.iadd, 1) := by decide +kernel
theorem dX10_delays_117 : decode cX10_delays 117 = .ok (.iaload, 1) := by decide +kernel
theorem dX10_delays_118 : decode cX10_delays 118 = .ok (.iadd, 1) := by decide +kernel
theorem dX10_delays_119 : decode cX10_delays 119 = .ok (.goto 4, 3) := by decide +kernel
theorem dX10_delays_122 : decode cX10_delays 122 = .ok (.iconst 0, 1) := by decide +kernel
theorem dX10_delays_123 : decode cX10_delays 123 = .ok (.istore 8, 2) := by decide +kernel
theorem dX10_delays_125 : decode cX10_delays 125 = .ok (.iload 8, 2) := by decide +kernel
theorem dX10_delays_127 : decode cX10_delays 127 = .ok (.iload 6, 2) := by decide +kernel
theorem dX10_delays_129 : decode cX10_delays 129 = .ok (.if_icmp .le 8, 3) := by decide +kernel
theorem dX10_delays_132 : decode cX10_delays 132 = .ok (.iload 8, 2) := by decide +kernel
theorem dX10_delays_134 : decode cX10_delays 134 = .ok (.goto 5, 3) := by decide +kernel
theorem dX10_delays_137 : decode cX10_delays 137 = .ok (.iload 6, 2) := by decide +kernel
theorem dX10_delays_139 : decode cX10_delays 139 = .ok (.istore 6, 2) := by decide +kernel
theorem dX10_delays_141 : decode cX10_delays 141 = .ok (.iinc 7 (-1), 3) := by decide +kernel
theorem dX10_delays_144 : decode cX10_delays 144 = .ok (.goto (-78), 3) := by decide +kernel
theorem dX10_delays_147 : decode cX10_delays 147 = .ok (.iload 6, 2) := by decide +kernel
theorem dX10_delays_149 : decode cX10_delays 149 = .ok (.iload_n 3, 1) := by decide +kernel
theorem dX10_delays_150 : decode cX10_delays 150 = .ok (.if_icmp .ge 45, 3) := by decide +kernel
theorem dX10_delays_153 : decode cX10_delays 153 = .ok (.aload_n 0, 1) := by decide +kernel
theorem dX10_delays_154 : decode cX10_delays 154 = .ok (.invokevirtual 295, 3) := by decide +kernel
theorem dX10_delays_157 : decode cX10_delays 157 = .ok (.ifCond .eq 38, 3) := by decide +kernel
theorem dX10_delays_160 : decode cX10_delays 160 = .ok (.iload 6, 2) := by decide +kernel
theorem dX10_delays_162 : decode cX10_delays 162 = .ok (.istore_n 3, 1) := by decide +kernel
theorem dX10_delays_163 : decode cX10_delays 163 = .ok (.iconst 0, 1) := by decide +kernel
theorem dX10_delays_164 : decode cX10_delays 164 = .ok (.istore 7, 2) := by decide +kernel
theorem dX10_delays_166 : decode cX10_delays 166 = .ok (.iload 7, 2) := by decide +kernel
theorem dX10_delays_168 : decode cX10_delays 168 = .ok (.aload_n 0, 1) := by decide +kernel
theorem dX10_delays_169 : decode cX10_delays 169 = .ok (.getfield 97, 3) := by decide +kernel
theorem dX10_delays_172 : decode cX10_delays 172 = .ok (.if_icmp .ge 23, 3) := by decide +kernel
theorem dX10_delays_175 : decode cX10_delays 175 = .ok (.aload_n 0, 1) := by decide +kernel
theorem dX10_delays_176 : decode cX10_delays 176 = .ok (.getfield 66, 3) := by decide +kernel
theorem dX10_delays_179 : decode cX10_delays 179 = .ok (.iload 7, 2) := by decide +kernel
theorem dX10_delays_181 : decode cX10_delays 181 = .ok (.aload_n 0, 1) := by decide +kernel
theorem dX10_delays_182 : decode cX10_delays 182 = .ok (.getfield 63, 3) := by decide +kernel
theorem dX10_delays_185 : decode cX10_delays 185 = .ok (.iload 7, 2) := by decide +kernel
theorem dX10_delays_187 : decode cX10_delays 187 = .ok (.iaload, 1) := by decide +kernel
theorem dX10_delays_188 : decode cX10_delays 188 = .ok (.iastore, 1) := by decide +kernel
theorem dX10_delays_189 : decode cX10_delays 189 = .ok (.iinc 7 1, 3) := by decide +kernel
theorem dX10_delays_192 : decode cX10_delays 192 = .ok (.goto (-26), 3) := by decide +kernel
theorem dX10_delays_195 : decode cX10_delays 195 = .ok (.iinc 4 1, 3) := by decide +kernel
theorem dX10_delays_198 : decode cX10_delays 198 = .ok (.goto (-153), 3) := by decide +kernel
theorem dX10_delays_201 : decode cX10_delays 201 = .ok (.iload_n 3, 1) := by decide +kernel
theorem dX10_delays_202 : decode cX10_delays 202 = .ok (.ldc_w 288, 3) := by decide +kernel
theorem dX10_delays_205 : decode cX10_delays 205 = .ok (.if_icmp .ne 7, 3) := by decide +kernel
theorem dX10_delays_208 : decode cX10_delays 208 = .ok (.iconst (-1), 1) := by decide +kernel
theorem dX10_delays_209 : decode cX10_delays 209 = .ok (.goto 18, 3) := by decide +kernel
theorem dX10_delays_212 : decode cX10_delays 212 = .ok (.iload_n 1, 1) := by decide +kernel
theorem dX10_delays_213 : decode cX10_delays 213 = .ok (.iconst (-1), 1) := by decide +kernel
theorem dX10_delays_214 : decode cX10_delays 214 = .ok (.if_icmp .ne 7, 3) := by decide +kernel
theorem dX10_delays_217 : decode cX10_delays 217 = .ok (.iload_n 3, 1) := by decide +kernel
theorem dX10_delays_218 : decode cX10_delays 218 = .ok (.goto 9, 3) := by decide +kernel
theorem dX10_delays_221 : decode cX10_delays 221 = .ok (.aload_n 0, 1) := by decide +kernel
theorem dX10_delays_222 : decode cX10_delays 222 = .ok (.getfield 66, 3) := by decide +kernel
theorem dX10_delays_225 : decode cX10_delays 225 = .ok (.iload_n 1, 1) := by decide +kernel
theorem dX10_delays_226 : decode cX10_delays 226 = .ok (.iaload, 1) := by decide +kernel
theorem dX10_delays_227 : decode cX10_delays 227 = .ok (.ireturn, 1) := by decide +kernel
theorem dX10_servedBy_0 : decode cX10_servedBy 0 = .ok (.iload_n 1, 1) := by decide +kernel
theorem dX10_servedBy_1 : decode cX10_servedBy 1 = .ok (.istore_n 2, 1) := by decide +kernel
theorem dX10_servedBy_2 : decode cX10_servedBy 2 = .ok (.aload_n 0, 1) := by decide +kernel
theorem dX10_servedBy_3 : decode cX10_servedBy 3 = .ok (.getfield 197, 3) := by decide +kernel
theorem dX10_servedBy_6 : decode cX10_servedBy 6 = .ok (.iconst 1, 1) := by decide +kernel
theorem dX10_servedBy_7 : decode cX10_servedBy 7 = .ok (.isub, 1) := by decide +kernel
theorem dX10_servedBy_8 : decode cX10_servedBy 8 = .ok (.istore_n 3, 1) := by decide +kernel
theorem dX10_servedBy_9 : decode cX10_servedBy 9 = .ok (.iload_n 3, 1) := by decide +kernel
theorem dX10_servedBy_10 : decode cX10_servedBy 10 = .ok (.ifCond .lt 32, 3) := by decide +kernel
theorem dX10_servedBy_13 : decode cX10_servedBy 13 = .ok (.aload_n 0, 1) := by decide +kernel
theorem dX10_servedBy_14 : decode cX10_servedBy 14 = .ok (.getfield 69, 3) := by decide +kernel
theorem dX10_servedBy_17 : decode cX10_servedBy 17 = .ok (.iload_n 3, 1) := by decide +kernel
theorem dX10_servedBy_18 : decode cX10_servedBy 18 = .ok (.iload_n 2, 1) := by decide +kernel
theorem dX10_servedBy_19 : decode cX10_servedBy 19 = .ok (.aload_n 0, 1) := by decide +kernel
theorem dX10_servedBy_20 : decode cX10_servedBy 20 = .ok (.getfield 97, 3) := by decide +kernel
theorem dX10_servedBy_23 : decode cX10_servedBy 23 = .ok (.iconst 1, 1) := by decide +kernel
theorem dX10_servedBy_24 : decode cX10_servedBy 24 = .ok (.iadd, 1) := by decide +kernel
theorem dX10_servedBy_25 : decode cX10_servedBy 25 = .ok (.irem, 1) := by decide +kernel
theorem dX10_servedBy_26 : decode cX10_servedBy 26 = .ok (.iastore, 1) := by decide +kernel
theorem dX10_servedBy_27 : decode cX10_servedBy 27 = .ok (.iload_n 2, 1) := by decide +kernel
theorem dX10_servedBy_28 : decode cX10_servedBy 28 = .ok (.aload_n 0, 1) := by decide +kernel
theorem dX10_servedBy_29 : decode cX10_servedBy 29 = .ok (.getfield 97, 3) := by decide +kernel
theorem dX10_servedBy_32 : decode cX10_servedBy 32 = .ok (.iconst 1, 1) := by decide +kernel
theorem dX10_servedBy_33 : decode cX10_servedBy 33 = .ok (.iadd, 1) := by decide +kernel
theorem dX10_servedBy_34 : decode cX10_servedBy 34 = .ok (.idiv, 1) := by decide +kernel
theorem dX10_servedBy_35 : decode cX10_servedBy 35 = .ok (.istore_n 2, 1) := by decide +kernel
theorem dX10_servedBy_36 : decode cX10_servedBy 36 = .ok (.iinc 3 (-1), 3) := by decide +kernel
theorem dX10_servedBy_39 : decode cX10_servedBy 39 = .ok (.goto (-30), 3) := by decide +kernel
theorem dX10_servedBy_42 : decode cX10_servedBy 42 = .ok (.iconst 0, 1) := by decide +kernel
theorem dX10_servedBy_43 : decode cX10_servedBy 43 = .ok (.istore_n 3, 1) := by decide +kernel
theorem dX10_servedBy_44 : decode cX10_servedBy 44 = .ok (.iconst 0, 1) := by decide +kernel
theorem dX10_servedBy_45 : decode cX10_servedBy 45 = .ok (.istore 4, 2) := by decide +kernel
theorem dX10_servedBy_47 : decode cX10_servedBy 47 = .ok (.iconst 0, 1) := by decide +kernel
theorem dX10_servedBy_48 : decode cX10_servedBy 48 = .ok (.istore 5, 2) := by decide +kernel
theorem dX10_servedBy_50 : decode cX10_servedBy 50 = .ok (.iload 5, 2) := by decide +kernel
theorem dX10_servedBy_52 : decode cX10_servedBy 52 = .ok (.aload_n 0, 1) := by decide +kernel
theorem dX10_servedBy_53 : decode cX10_servedBy 53 = .ok (.getfield 197, 3) := by decide +kernel
theorem dX10_servedBy_56 : decode cX10_servedBy 56 = .ok (.if_icmp .ge 88, 3) := by decide +kernel
theorem dX10_servedBy_59 : decode cX10_servedBy 59 = .ok (.aload_n 0, 1) := by decide +kernel
theorem dX10_servedBy_60 : decode cX10_servedBy 60 = .ok (.getfield 69, 3) := by decide +kernel
theorem dX10_servedBy_63 : decode cX10_servedBy 63 = .ok (.iload 5, 2) := by decide +kernel
theorem dX10_servedBy_65 : decode cX10_servedBy 65 = .ok (.iaload, 1) := by decide +kernel
theorem dX10_servedBy_66 : decode cX10_servedBy 66 = .ok (.istore 6, 2) := by decide +kernel
theorem dX10_servedBy_68 : decode cX10_servedBy 68 = .ok (.iload 6, 2) := by decide +kernel
theorem dX10_servedBy_70 : decode cX10_servedBy 70 = .ok (.aload_n 0, 1) := by decide +kernel
theorem dX10_servedBy_71 : decode cX10_servedBy 71 = .ok (.getfield 97, 3) := by decide +kernel
theorem dX10_servedBy_74 : decode cX10_servedBy 74 = .ok (.if_icmp .ge 64, 3) := by decide +kernel
theorem dX10_servedBy_77 : decode cX10_servedBy 77 = .ok (.iload 4, 2) := by decide +kernel
theorem dX10_servedBy_79 : decode cX10_servedBy 79 = .ok (.iload 6, 2) := by decide +kernel
theorem dX10_servedBy_81 : decode cX10_servedBy 81 = .ok (.invokestatic 151, 3) := by decide +kernel
theorem dX10_servedBy_84 : decode cX10_servedBy 84 = .ok (.ifCond .ne 40, 3) := by decide +kernel
theorem dX10_servedBy_87 : decode cX10_servedBy 87 = .ok (.aload_n 0, 1) := by decide +kernel
theorem dX10_servedBy_88 : decode cX10_servedBy 88 = .ok (.getfield 7, 3) := by decide +kernel
theorem dX10_servedBy_91 : decode cX10_servedBy 91 = .ok (.iconst 0, 1) := by decide +kernel
theorem dX10_servedBy_92 : decode cX10_servedBy 92 = .ok (.iaload, 1) := by decide +kernel
theorem dX10_servedBy_93 : decode cX10_servedBy 93 = .ok (.aload_n 0, 1) := by decide +kernel
theorem dX10_servedBy_94 : decode cX10_servedBy 94 = .ok (.aload_n 0, 1) := by decide +kernel
theorem dX10_servedBy_95 : decode cX10_servedBy 95 = .ok (.getfield 7, 3) := by decide +kernel
theorem dX10_servedBy_98 : decode cX10_servedBy 98 = .ok (.iconst 2, 1) := by decide +kernel
theorem dX10_servedBy_99 : decode cX10_servedBy 99 = .ok (.iload 6, 2) := by decide +kernel
theorem dX10_servedBy_101 : decode cX10_servedBy 101 = .ok (.iadd, 1) := by decide +kernel
theorem dX10_servedBy_102 : decode cX10_servedBy 102 = .ok (.iaload, 1) := by decide +kernel
theorem dX10_servedBy_103 : decode cX10_servedBy 103 = .ok (.aload_n 0, 1) := by decide +kernel
theorem dX10_servedBy_104 : decode cX10_servedBy 104 = .ok (.getfield 29, 3) := by decide +kernel
theorem dX10_servedBy_107 : decode cX10_servedBy 107 = .ok (.iload 5, 2) := by decide +kernel
theorem dX10_servedBy_109 : decode cX10_servedBy 109 = .ok (.iaload, 1) := by decide +kernel
theorem dX10_servedBy_110 : decode cX10_servedBy 110 = .ok (.invokevirtual 289, 3) := by decide +kernel
theorem dX10_servedBy_113 : decode cX10_servedBy 113 = .ok (.iadd, 1) := by decide +kernel
theorem dX10_servedBy_114 : decode cX10_servedBy 114 = .ok (.aload_n 0, 1) := by decide +kernel
theorem dX10_servedBy_115 : decode cX10_servedBy 115 = .ok (.getfield 32, 3) := by decide +kernel
theorem dX10_servedBy_118 : decode cX10_servedBy 118 = .ok (.iload 5, 2) := by decide +kernel
theorem dX10_servedBy_120 : decode cX10_servedBy 120 = .ok (.iaload, 1) := by decide +kernel
theorem dX10_servedBy_121 : decode cX10_servedBy 121 = .ok (.if_icmp .le 5, 3) := by decide +kernel
theorem dX10_servedBy_124 : decode cX10_servedBy 124 = .ok (.iconst (-1), 1) := by decide +kernel
theorem dX10_servedBy_125 : decode cX10_servedBy 125 = .ok (.ireturn, 1) := by decide +kernel
theorem dX10_servedBy_126 : decode cX10_servedBy 126 = .ok (.iload 4, 2) := by decide +kernel
theorem dX10_servedBy_128 : decode cX10_servedBy 128 = .ok (.iconst 1, 1) := by decide +kernel
theorem dX10_servedBy_129 : decode cX10_servedBy 129 = .ok (.iload 6, 2) := by decide +kernel
theorem dX10_servedBy_131 : decode cX10_servedBy 131 = .ok (.ishl, 1) := by decide +kernel
theorem dX10_servedBy_132 : decode cX10_servedBy 132 = .ok (.ior, 1) := by decide +kernel
theorem dX10_servedBy_133 : decode cX10_servedBy 133 = .ok (.istore 4, 2) := by decide +kernel
theorem dX10_servedBy_135 : decode cX10_servedBy 135 = .ok (.iinc 3 1, 3) := by decide +kernel
theorem dX10_servedBy_138 : decode cX10_servedBy 138 = .ok (.iinc 5 1, 3) := by decide +kernel
theorem dX10_servedBy_141 : decode cX10_servedBy 141 = .ok (.goto (-91), 3) := by decide +kernel
theorem dX10_servedBy_144 : decode cX10_servedBy 144 = .ok (.iload_n 3, 1) := by decide +kernel
theorem dX10_servedBy_145 : decode cX10_servedBy 145 = .ok (.ireturn, 1) := by decide +kernel
theorem dX10_served_0 : decode cX10_served 0 = .ok (.iload_n 1, 1) := by decide +kernel
theorem dX10_served_1 : decode cX10_served 1 = .ok (.iconst (-1), 1) := by decide +kernel
theorem dX10_served_2 : decode cX10_served 2 = .ok (.if_icmp .eq 22, 3) := by decide +kernel
theorem dX10_served_5 : decode cX10_served 5 = .ok (.iload_n 1, 1) := by decide +kernel
theorem dX10_served_6 : decode cX10_served 6 = .ok (.i2l, 1) := by decide +kernel
theorem dX10_served_7 : decode cX10_served 7 = .ok (.lconst 0, 1) := by decide +kernel
theorem dX10_served_8 : decode cX10_served 8 = .ok (.aload_n 0, 1) := by decide +kernel
theorem dX10_served_9 : decode cX10_served 9 = .ok (.getfield 197, 3) := by decide +kernel
theorem dX10_served_12 : decode cX10_served 12 = .ok (.iconst 1, 1) := by decide +kernel
theorem dX10_served_13 : decode cX10_served 13 = .ok (.isub, 1) := by decide +kernel
theorem dX10_served_14 : decode cX10_served 14 = .ok (.i2l, 1) := by decide +kernel
theorem dX10_served_15 : decode cX10_served 15 = .ok (.invokestatic 93, 3) := by decide +kernel
theorem dX10_served_18 : decode cX10_served 18 = .ok (.ifCond .ne 6, 3) := by decide +kernel
theorem dX10_served_21 : decode cX10_served 21 = .ok (.ldc 219, 2) := by decide +kernel
theorem dX10_served_23 : decode cX10_served 23 = .ok (.ireturn, 1) := by decide +kernel
theorem dX10_served_24 : decode cX10_served 24 = .ok (.iconst 1, 1) := by decide +kernel
theorem dX10_served_25 : decode cX10_served 25 = .ok (.istore_n 2, 1) := by decide +kernel
theorem dX10_served_26 : decode cX10_served 26 = .ok (.iconst 0, 1) := by decide +kernel
theorem dX10_served_27 : decode cX10_served 27 = .ok (.istore_n 3, 1) := by decide +kernel
theorem dX10_served_28 : decode cX10_served 28 = .ok (.iload_n 3, 1) := by decide +kernel
theorem dX10_served_29 : decode cX10_served 29 = .ok (.aload_n 0, 1) := by decide +kernel
theorem dX10_served_30 : decode cX10_served 30 = .ok (.getfield 197, 3) := by decide +kernel
theorem dX10_served_33 : decode cX10_served 33 = .ok (.if_icmp .ge 18, 3) := by decide +kernel
theorem dX10_served_36 : decode cX10_served 36 = .ok (.iload_n 2, 1) := by decide +kernel
theorem dX10_served_37 : decode cX10_served 37 = .ok (.aload_n 0, 1) := by decide +kernel
theorem dX10_served_38 : decode cX10_served 38 = .ok (.getfield 97, 3) := by decide +kernel
theorem dX10_served_41 : decode cX10_served 41 = .ok (.iconst 1, 1) := by decide +kernel
theorem dX10_served_42 : decode cX10_served 42 = .ok (.iadd, 1) := by decide +kernel
theorem dX10_served_43 : decode cX10_served 43 = .ok (.imul, 1) := by decide +kernel
theorem dX10_served_44 : decode cX10_served 44 = .ok (.istore_n 2, 1) := by decide +kernel
theorem dX10_served_45 : decode cX10_served 45 = .ok (.iinc 3 1, 3) := by decide +kernel
theorem dX10_served_48 : decode cX10_served 48 = .ok (.goto (-20), 3) := by decide +kernel
theorem dX10_served_51 : decode cX10_served 51 = .ok (.iconst (-1), 1) := by decide +kernel
theorem dX10_served_52 : decode cX10_served 52 = .ok (.istore_n 3, 1) := by decide +kernel
theorem dX10_served_53 : decode cX10_served 53 = .ok (.iconst 0, 1) := by decide +kernel
theorem dX10_served_54 : decode cX10_served 54 = .ok (.istore 4, 2) := by decide +kernel
theorem dX10_served_56 : decode cX10_served 56 = .ok (.iload 4, 2) := by decide +kernel
theorem dX10_served_58 : decode cX10_served 58 = .ok (.iload_n 2, 1) := by decide +kernel
theorem dX10_served_59 : decode cX10_served 59 = .ok (.if_icmp .ge 58, 3) := by decide +kernel
theorem dX10_served_62 : decode cX10_served 62 = .ok (.aload_n 0, 1) := by decide +kernel
theorem dX10_served_63 : decode cX10_served 63 = .ok (.iload 4, 2) := by decide +kernel
theorem dX10_served_65 : decode cX10_served 65 = .ok (.invokevirtual 298, 3) := by decide +kernel
theorem dX10_served_68 : decode cX10_served 68 = .ok (.istore 5, 2) := by decide +kernel
theorem dX10_served_70 : decode cX10_served 70 = .ok (.iload 5, 2) := by decide +kernel
theorem dX10_served_72 : decode cX10_served 72 = .ok (.iload_n 3, 1) := by decide +kernel
theorem dX10_served_73 : decode cX10_served 73 = .ok (.if_icmp .le 38, 3) := by decide +kernel
theorem dX10_served_76 : decode cX10_served 76 = .ok (.iload 5, 2) := by decide +kernel
theorem dX10_served_78 : decode cX10_served 78 = .ok (.istore_n 3, 1) := by decide +kernel
theorem dX10_served_79 : decode cX10_served 79 = .ok (.iconst 0, 1) := by decide +kernel
theorem dX10_served_80 : decode cX10_served 80 = .ok (.istore 6, 2) := by decide +kernel
theorem dX10_served_82 : decode cX10_served 82 = .ok (.iload 6, 2) := by decide +kernel
theorem dX10_served_84 : decode cX10_served 84 = .ok (.aload_n 0, 1) := by decide +kernel
theorem dX10_served_85 : decode cX10_served 85 = .ok (.getfield 197, 3) := by decide +kernel
theorem dX10_served_88 : decode cX10_served 88 = .ok (.if_icmp .ge 23, 3) := by decide +kernel
theorem dX10_served_91 : decode cX10_served 91 = .ok (.aload_n 0, 1) := by decide +kernel
theorem dX10_served_92 : decode cX10_served 92 = .ok (.getfield 72, 3) := by decide +kernel
theorem dX10_served_95 : decode cX10_served 95 = .ok (.iload 6, 2) := by decide +kernel
theorem dX10_served_97 : decode cX10_served 97 = .ok (.aload_n 0, 1) := by decide +kernel
theorem dX10_served_98 : decode cX10_served 98 = .ok (.getfield 69, 3) := by decide +kernel
theorem dX10_served_101 : decode cX10_served 101 = .ok (.iload 6, 2) := by decide +kernel
theorem dX10_served_103 : decode cX10_served 103 = .ok (.iaload, 1) := by decide +kernel
theorem dX10_served_104 : decode cX10_served 104 = .ok (.iastore, 1) := by decide +kernel
theorem dX10_served_105 : decode cX10_served 105 = .ok (.iinc 6 1, 3) := by decide +kernel
theorem dX10_served_108 : decode cX10_served 108 = .ok (.goto (-26), 3) := by decide +kernel
theorem dX10_served_111 : decode cX10_served 111 = .ok (.iinc 4 1, 3) := by decide +kernel
theorem dX10_served_114 : decode cX10_served 114 = .ok (.goto (-58), 3) := by decide +kernel
theorem dX10_served_117 : decode cX10_served 117 = .ok (.iload_n 1, 1) := by decide +kernel
theorem dX10_served_118 : decode cX10_served 118 = .ok (.iconst (-1), 1) := by decide +kernel
theorem dX10_served_119 : decode cX10_served 119 = .ok (.if_icmp .ne 7, 3) := by decide +kernel
theorem dX10_served_122 : decode cX10_served 122 = .ok (.iload_n 3, 1) := by decide +kernel
theorem dX10_served_123 : decode cX10_served 123 = .ok (.goto 26, 3) := by decide +kernel
theorem dX10_served_126 : decode cX10_served 126 = .ok (.aload_n 0, 1) := by decide +kernel
theorem dX10_served_127 : decode cX10_served 127 = .ok (.getfield 72, 3) := by decide +kernel
theorem dX10_served_130 : decode cX10_served 130 = .ok (.iload_n 1, 1) := by decide +kernel
theorem dX10_served_131 : decode cX10_served 131 = .ok (.iaload, 1) := by decide +kernel
theorem dX10_served_132 : decode cX10_served 132 = .ok (.aload_n 0, 1) := by decide +kernel
theorem dX10_served_133 : decode cX10_served 133 = .ok (.getfield 97, 3) := by decide +kernel
theorem dX10_served_136 : decode cX10_served 136 = .ok (.if_icmp .ne 7, 3) := by decide +kernel
theorem dX10_served_139 : decode cX10_served 139 = .ok (.iconst (-1), 1) := by decide +kernel
theorem dX10_served_140 : decode cX10_served 140 = .ok (.goto 9, 3) := by decide +kernel
theorem dX10_served_143 : decode cX10_served 143 = .ok (.aload_n 0, 1) := by decide +kernel
theorem dX10_served_144 : decode cX10_served 144 = .ok (.getfield 72, 3) := by decide +kernel
theorem dX10_served_147 : decode cX10_served 147 = .ok (.iload_n 1, 1) := by decide +kernel
theorem dX10_served_148 : decode cX10_served 148 = .ok (.iaload, 1) := by decide +kernel
theorem dX10_served_149 : decode cX10_served 149 = .ok (.ireturn, 1) := by decide +kernel
theorem dX10_evened_0 : decode cX10_evened 0 = .ok (.aload_n 0, 1) := by decide +kernel
theorem dX10_evened_1 : decode cX10_evened 1 = .ok (.iload_n 1, 1) := by decide +kernel
theorem dX10_evened_2 : decode cX10_evened 2 = .ok (.invokevirtual 100, 3) := by decide +kernel
theorem dX10_evened_5 : decode cX10_evened 5 = .ok (.ifCond .ne 6, 3) := by decide +kernel
theorem dX10_evened_8 : decode cX10_evened 8 = .ok (.ldc 219, 2) := by decide +kernel
theorem dX10_evened_10 : decode cX10_evened 10 = .ok (.ireturn, 1) := by decide +kernel
theorem dX10_evened_11 : decode cX10_evened 11 = .ok (.iload_n 2, 1) := by decide +kernel
theorem dX10_evened_12 : decode cX10_evened 12 = .ok (.i2l, 1) := by decide +kernel
theorem dX10_evened_13 : decode cX10_evened 13 = .ok (.lconst 0, 1) := by decide +kernel
theorem dX10_evened_14 : decode cX10_evened 14 = .ok (.lconst 1, 1) := by decide +kernel
theorem dX10_evened_15 : decode cX10_evened 15 = .ok (.invokestatic 93, 3) := by decide +kernel
theorem dX10_evened_18 : decode cX10_evened 18 = .ok (.ifCond .ne 6, 3) := by decide +kernel
theorem dX10_evened_21 : decode cX10_evened 21 = .ok (.ldc 109, 2) := by decide +kernel
theorem dX10_evened_23 : decode cX10_evened 23 = .ok (.ireturn, 1) := by decide +kernel
theorem dX10_evened_24 : decode cX10_evened 24 = .ok (.aload_n 0, 1) := by decide +kernel
theorem dX10_evened_25 : decode cX10_evened 25 = .ok (.iconst 0, 1) := by decide +kernel
theorem dX10_evened_26 : decode cX10_evened 26 = .ok (.iload_n 1, 1) := by decide +kernel
theorem dX10_evened_27 : decode cX10_evened 27 = .ok (.invokevirtual 223, 3) := by decide +kernel
theorem dX10_evened_30 : decode cX10_evened 30 = .ok (.istore_n 3, 1) := by decide +kernel
theorem dX10_evened_31 : decode cX10_evened 31 = .ok (.iconst 0, 1) := by decide +kernel
theorem dX10_evened_32 : decode cX10_evened 32 = .ok (.istore 4, 2) := by decide +kernel
theorem dX10_evened_34 : decode cX10_evened 34 = .ok (.ldc_w 288, 3) := by decide +kernel
theorem dX10_evened_37 : decode cX10_evened 37 = .ok (.istore 5, 2) := by decide +kernel
theorem dX10_evened_39 : decode cX10_evened 39 = .ok (.iconst 0, 1) := by decide +kernel
theorem dX10_evened_40 : decode cX10_evened 40 = .ok (.istore 6, 2) := by decide +kernel
theorem dX10_evened_42 : decode cX10_evened 42 = .ok (.iload 6, 2) := by decide +kernel
theorem dX10_evened_44 : decode cX10_evened 44 = .ok (.sipush 256, 3) := by decide +kernel
theorem dX10_evened_47 : decode cX10_evened 47 = .ok (.if_icmp .ge 84, 3) := by decide +kernel
theorem dX10_evened_50 : decode cX10_evened 50 = .ok (.iload 6, 2) := by decide +kernel
theorem dX10_evened_52 : decode cX10_evened 52 = .ok (.iload_n 3, 1) := by decide +kernel
theorem dX10_evened_53 : decode cX10_evened 53 = .ok (.iconst (-1), 1) := by decide +kernel
theorem dX10_evened_54 : decode cX10_evened 54 = .ok (.ixor, 1) := by decide +kernel
theorem dX10_evened_55 : decode cX10_evened 55 = .ok (.iand, 1) := by decide +kernel
theorem dX10_evened_56 : decode cX10_evened 56 = .ok (.ifCond .ne 69, 3) := by decide +kernel
theorem dX10_evened_59 : decode cX10_evened 59 = .ok (.aload_n 0, 1) := by decide +kernel
theorem dX10_evened_60 : decode cX10_evened 60 = .ok (.iload 6, 2) := by decide +kernel
theorem dX10_evened_62 : decode cX10_evened 62 = .ok (.invokevirtual 220, 3) := by decide +kernel
theorem dX10_evened_65 : decode cX10_evened 65 = .ok (.aload_n 0, 1) := by decide +kernel
theorem dX10_evened_66 : decode cX10_evened 66 = .ok (.iload_n 3, 1) := by decide +kernel
theorem dX10_evened_67 : decode cX10_evened 67 = .ok (.iload 6, 2) := by decide +kernel
theorem dX10_evened_69 : decode cX10_evened 69 = .ok (.iconst (-1), 1) := by decide +kernel
theorem dX10_evened_70 : decode cX10_evened 70 = .ok (.ixor, 1) := by decide +kernel
theorem dX10_evened_71 : decode cX10_evened 71 = .ok (.iand, 1) := by decide +kernel
theorem dX10_evened_72 : decode cX10_evened 72 = .ok (.invokevirtual 220, 3) := by decide +kernel
theorem dX10_evened_75 : decode cX10_evened 75 = .ok (.isub, 1) := by decide +kernel
theorem dX10_evened_76 : decode cX10_evened 76 = .ok (.istore 7, 2) := by decide +kernel
theorem dX10_evened_78 : decode cX10_evened 78 = .ok (.iload 7, 2) := by decide +kernel
theorem dX10_evened_80 : decode cX10_evened 80 = .ok (.ifCond .ge 9, 3) := by decide +kernel
theorem dX10_evened_83 : decode cX10_evened 83 = .ok (.iload 7, 2) := by decide +kernel
theorem dX10_evened_85 : decode cX10_evened 85 = .ok (.ineg, 1) := by decide +kernel
theorem dX10_evened_86 : decode cX10_evened 86 = .ok (.goto 5, 3) := by decide +kernel
theorem dX10_evened_89 : decode cX10_evened 89 = .ok (.iload 7, 2) := by decide +kernel
theorem dX10_evened_91 : decode cX10_evened 91 = .ok (.istore 7, 2) := by decide +kernel
theorem dX10_evened_93 : decode cX10_evened 93 = .ok (.iload 7, 2) := by decide +kernel
theorem dX10_evened_95 : decode cX10_evened 95 = .ok (.iload 5, 2) := by decide +kernel
theorem dX10_evened_97 : decode cX10_evened 97 = .ok (.if_icmp .ge 8, 3) := by decide +kernel
theorem dX10_evened_100 : decode cX10_evened 100 = .ok (.iload 6, 2) := by decide +kernel
theorem dX10_evened_102 : decode cX10_evened 102 = .ok (.goto 5, 3) := by decide +kernel
theorem dX10_evened_105 : decode cX10_evened 105 = .ok (.iload 4, 2) := by decide +kernel
theorem dX10_evened_107 : decode cX10_evened 107 = .ok (.istore 4, 2) := by decide +kernel
theorem dX10_evened_109 : decode cX10_evened 109 = .ok (.iload 7, 2) := by decide +kernel
theorem dX10_evened_111 : decode cX10_evened 111 = .ok (.iload 5, 2) := by decide +kernel
theorem dX10_evened_113 : decode cX10_evened 113 = .ok (.if_icmp .ge 8, 3) := by decide +kernel
theorem dX10_evened_116 : decode cX10_evened 116 = .ok (.iload 7, 2) := by decide +kernel
theorem dX10_evened_118 : decode cX10_evened 118 = .ok (.goto 5, 3) := by decide +kernel
theorem dX10_evened_121 : decode cX10_evened 121 = .ok (.iload 5, 2) := by decide +kernel
theorem dX10_evened_123 : decode cX10_evened 123 = .ok (.istore 5, 2) := by decide +kernel
theorem dX10_evened_125 : decode cX10_evened 125 = .ok (.iinc 6 1, 3) := by decide +kernel
theorem dX10_evened_128 : decode cX10_evened 128 = .ok (.goto (-86), 3) := by decide +kernel
theorem dX10_evened_131 : decode cX10_evened 131 = .ok (.iload_n 2, 1) := by decide +kernel
theorem dX10_evened_132 : decode cX10_evened 132 = .ok (.ifCond .ne 8, 3) := by decide +kernel
theorem dX10_evened_135 : decode cX10_evened 135 = .ok (.iload 4, 2) := by decide +kernel
theorem dX10_evened_137 : decode cX10_evened 137 = .ok (.goto 5, 3) := by decide +kernel
theorem dX10_evened_140 : decode cX10_evened 140 = .ok (.iload 5, 2) := by decide +kernel
theorem dX10_evened_142 : decode cX10_evened 142 = .ok (.ireturn, 1) := by decide +kernel
theorem dX10_packed_0 : decode cX10_packed 0 = .ok (.aload_n 0, 1) := by decide +kernel
theorem dX10_packed_1 : decode cX10_packed 1 = .ok (.iload_n 1, 1) := by decide +kernel
theorem dX10_packed_2 : decode cX10_packed 2 = .ok (.invokevirtual 100, 3) := by decide +kernel
theorem dX10_packed_5 : decode cX10_packed 5 = .ok (.ifCond .ne 6, 3) := by decide +kernel
theorem dX10_packed_8 : decode cX10_packed 8 = .ok (.ldc 219, 2) := by decide +kernel
theorem dX10_packed_10 : decode cX10_packed 10 = .ok (.ireturn, 1) := by decide +kernel
theorem dX10_packed_11 : decode cX10_packed 11 = .ok (.iload_n 2, 1) := by decide +kernel
theorem dX10_packed_12 : decode cX10_packed 12 = .ok (.i2l, 1) := by decide +kernel
theorem dX10_packed_13 : decode cX10_packed 13 = .ok (.lconst 0, 1) := by decide +kernel
theorem dX10_packed_14 : decode cX10_packed 14 = .ok (.lconst 1, 1) := by decide +kernel
theorem dX10_packed_15 : decode cX10_packed 15 = .ok (.invokestatic 93, 3) := by decide +kernel
theorem dX10_packed_18 : decode cX10_packed 18 = .ok (.ifCond .ne 6, 3) := by decide +kernel
theorem dX10_packed_21 : decode cX10_packed 21 = .ok (.ldc 109, 2) := by decide +kernel
theorem dX10_packed_23 : decode cX10_packed 23 = .ok (.ireturn, 1) := by decide +kernel
theorem dX10_packed_24 : decode cX10_packed 24 = .ok (.aload_n 0, 1) := by decide +kernel
theorem dX10_packed_25 : decode cX10_packed 25 = .ok (.iconst 0, 1) := by decide +kernel
theorem dX10_packed_26 : decode cX10_packed 26 = .ok (.iconst (-1), 1) := by decide +kernel
theorem dX10_packed_27 : decode cX10_packed 27 = .ok (.invokevirtual 209, 3) := by decide +kernel
theorem dX10_packed_30 : decode cX10_packed 30 = .ok (.istore_n 3, 1) := by decide +kernel
theorem dX10_packed_31 : decode cX10_packed 31 = .ok (.aload_n 0, 1) := by decide +kernel
theorem dX10_packed_32 : decode cX10_packed 32 = .ok (.getfield 20, 3) := by decide +kernel
theorem dX10_packed_35 : decode cX10_packed 35 = .ok (.iload_n 1, 1) := by decide +kernel
theorem dX10_packed_36 : decode cX10_packed 36 = .ok (.iaload, 1) := by decide +kernel
theorem dX10_packed_37 : decode cX10_packed 37 = .ok (.aload_n 0, 1) := by decide +kernel
theorem dX10_packed_38 : decode cX10_packed 38 = .ok (.aload_n 0, 1) := by decide +kernel
theorem dX10_packed_39 : decode cX10_packed 39 = .ok (.iconst 0, 1) := by decide +kernel
theorem dX10_packed_40 : decode cX10_packed 40 = .ok (.iload_n 1, 1) := by decide +kernel
theorem dX10_packed_41 : decode cX10_packed 41 = .ok (.invokevirtual 223, 3) := by decide +kernel
theorem dX10_packed_44 : decode cX10_packed 44 = .ok (.invokevirtual 220, 3) := by decide +kernel
theorem dX10_packed_47 : decode cX10_packed 47 = .ok (.isub, 1) := by decide +kernel
theorem dX10_packed_48 : decode cX10_packed 48 = .ok (.istore 4, 2) := by decide +kernel
theorem dX10_packed_50 : decode cX10_packed 50 = .ok (.iconst 0, 1) := by decide +kernel
theorem dX10_packed_51 : decode cX10_packed 51 = .ok (.istore 5, 2) := by decide +kernel
theorem dX10_packed_53 : decode cX10_packed 53 = .ok (.iconst 0, 1) := by decide +kernel
theorem dX10_packed_54 : decode cX10_packed 54 = .ok (.istore 6, 2) := by decide +kernel
theorem dX10_packed_56 : decode cX10_packed 56 = .ok (.iload 6, 2) := by decide +kernel
theorem dX10_packed_58 : decode cX10_packed 58 = .ok (.sipush 256, 3) := by decide +kernel
theorem dX10_packed_61 : decode cX10_packed 61 = .ok (.if_icmp .ge 65, 3) := by decide +kernel
theorem dX10_packed_64 : decode cX10_packed 64 = .ok (.iload 6, 2) := by decide +kernel
theorem dX10_packed_66 : decode cX10_packed 66 = .ok (.iload_n 3, 1) := by decide +kernel
theorem dX10_packed_67 : decode cX10_packed 67 = .ok (.iconst (-1), 1) := by decide +kernel
theorem dX10_packed_68 : decode cX10_packed 68 = .ok (.ixor, 1) := by decide +kernel
theorem dX10_packed_69 : decode cX10_packed 69 = .ok (.iand, 1) := by decide +kernel
theorem dX10_packed_70 : decode cX10_packed 70 = .ok (.ifCond .ne 18, 3) := by decide +kernel
theorem dX10_packed_73 : decode cX10_packed 73 = .ok (.aload_n 0, 1) := by decide +kernel
theorem dX10_packed_74 : decode cX10_packed 74 = .ok (.iload 6, 2) := by decide +kernel
theorem dX10_packed_76 : decode cX10_packed 76 = .ok (.invokevirtual 220, 3) := by decide +kernel
theorem dX10_packed_79 : decode cX10_packed 79 = .ok (.iload 4, 2) := by decide +kernel
theorem dX10_packed_81 : decode cX10_packed 81 = .ok (.if_icmp .gt 7, 3) := by decide +kernel
theorem dX10_packed_84 : decode cX10_packed 84 = .ok (.iconst 1, 1) := by decide +kernel
theorem dX10_packed_85 : decode cX10_packed 85 = .ok (.goto 4, 3) := by decide +kernel
theorem dX10_packed_88 : decode cX10_packed 88 = .ok (.iconst 0, 1) := by decide +kernel
theorem dX10_packed_89 : decode cX10_packed 89 = .ok (.istore 7, 2) := by decide +kernel
theorem dX10_packed_91 : decode cX10_packed 91 = .ok (.iload 7, 2) := by decide +kernel
theorem dX10_packed_93 : decode cX10_packed 93 = .ok (.ifCond .eq 23, 3) := by decide +kernel
theorem dX10_packed_96 : decode cX10_packed 96 = .ok (.aload_n 0, 1) := by decide +kernel
theorem dX10_packed_97 : decode cX10_packed 97 = .ok (.iload 6, 2) := by decide +kernel
theorem dX10_packed_99 : decode cX10_packed 99 = .ok (.invokevirtual 213, 3) := by decide +kernel
theorem dX10_packed_102 : decode cX10_packed 102 = .ok (.aload_n 0, 1) := by decide +kernel
theorem dX10_packed_103 : decode cX10_packed 103 = .ok (.iload 5, 2) := by decide +kernel
theorem dX10_packed_105 : decode cX10_packed 105 = .ok (.invokevirtual 213, 3) := by decide +kernel
theorem dX10_packed_108 : decode cX10_packed 108 = .ok (.if_icmp .le 8, 3) := by decide +kernel
theorem dX10_packed_111 : decode cX10_packed 111 = .ok (.iload 6, 2) := by decide +kernel
theorem dX10_packed_113 : decode cX10_packed 113 = .ok (.goto 5, 3) := by decide +kernel
theorem dX10_packed_116 : decode cX10_packed 116 = .ok (.iload 5, 2) := by decide +kernel
theorem dX10_packed_118 : decode cX10_packed 118 = .ok (.istore 5, 2) := by decide +kernel
theorem dX10_packed_120 : decode cX10_packed 120 = .ok (.iinc 6 1, 3) := by decide +kernel
theorem dX10_packed_123 : decode cX10_packed 123 = .ok (.goto (-67), 3) := by decide +kernel
theorem dX10_packed_126 : decode cX10_packed 126 = .ok (.iload_n 2, 1) := by decide +kernel
theorem dX10_packed_127 : decode cX10_packed 127 = .ok (.ifCond .ne 8, 3) := by decide +kernel
theorem dX10_packed_130 : decode cX10_packed 130 = .ok (.iload 5, 2) := by decide +kernel
theorem dX10_packed_132 : decode cX10_packed 132 = .ok (.goto 9, 3) := by decide +kernel
theorem dX10_packed_135 : decode cX10_packed 135 = .ok (.aload_n 0, 1) := by decide +kernel
theorem dX10_packed_136 : decode cX10_packed 136 = .ok (.iload 5, 2) := by decide +kernel
theorem dX10_packed_138 : decode cX10_packed 138 = .ok (.invokevirtual 213, 3) := by decide +kernel
theorem dX10_packed_141 : decode cX10_packed 141 = .ok (.ireturn, 1) := by decide +kernel
theorem dX10_covered_0 : decode cX10_covered 0 = .ok (.aload_n 0, 1) := by decide +kernel
theorem dX10_covered_1 : decode cX10_covered 1 = .ok (.iload_n 1, 1) := by decide +kernel
theorem dX10_covered_2 : decode cX10_covered 2 = .ok (.invokevirtual 216, 3) := by decide +kernel
theorem dX10_covered_5 : decode cX10_covered 5 = .ok (.ifCond .ne 6, 3) := by decide +kernel
theorem dX10_covered_8 : decode cX10_covered 8 = .ok (.ldc 219, 2) := by decide +kernel
theorem dX10_covered_10 : decode cX10_covered 10 = .ok (.ireturn, 1) := by decide +kernel
theorem dX10_covered_11 : decode cX10_covered 11 = .ok (.iload_n 2, 1) := by decide +kernel
theorem dX10_covered_12 : decode cX10_covered 12 = .ok (.i2l, 1) := by decide +kernel
theorem dX10_covered_13 : decode cX10_covered 13 = .ok (.lconst 0, 1) := by decide +kernel
theorem dX10_covered_14 : decode cX10_covered 14 = .ok (.ldc2_w 280, 3) := by decide +kernel
theorem dX10_covered_17 : decode cX10_covered 17 = .ok (.invokestatic 93, 3) := by decide +kernel
theorem dX10_covered_20 : decode cX10_covered 20 = .ok (.ifCond .ne 6, 3) := by decide +kernel
theorem dX10_covered_23 : decode cX10_covered 23 = .ok (.ldc 109, 2) := by decide +kernel
theorem dX10_covered_25 : decode cX10_covered 25 = .ok (.ireturn, 1) := by decide +kernel
theorem dX10_covered_26 : decode cX10_covered 26 = .ok (.iconst 1, 1) := by decide +kernel
theorem dX10_covered_27 : decode cX10_covered 27 = .ok (.iload_n 1, 1) := by decide +kernel
theorem dX10_covered_28 : decode cX10_covered 28 = .ok (.ishl, 1) := by decide +kernel
theorem dX10_covered_29 : decode cX10_covered 29 = .ok (.istore_n 3, 1) := by decide +kernel
theorem dX10_covered_30 : decode cX10_covered 30 = .ok (.iconst 0, 1) := by decide +kernel
theorem dX10_covered_31 : decode cX10_covered 31 = .ok (.istore 4, 2) := by decide +kernel
theorem dX10_covered_33 : decode cX10_covered 33 = .ok (.iload 4, 2) := by decide +kernel
theorem dX10_covered_35 : decode cX10_covered 35 = .ok (.iload_n 2, 1) := by decide +kernel
theorem dX10_covered_36 : decode cX10_covered 36 = .ok (.if_icmp .ge 58, 3) := by decide +kernel
theorem dX10_covered_39 : decode cX10_covered 39 = .ok (.iconst 0, 1) := by decide +kernel
theorem dX10_covered_40 : decode cX10_covered 40 = .ok (.istore 5, 2) := by decide +kernel
theorem dX10_covered_42 : decode cX10_covered 42 = .ok (.iconst 0, 1) := by decide +kernel
theorem dX10_covered_43 : decode cX10_covered 43 = .ok (.istore 6, 2) := by decide +kernel
theorem dX10_covered_45 : decode cX10_covered 45 = .ok (.iload 6, 2) := by decide +kernel
theorem dX10_covered_47 : decode cX10_covered 47 = .ok (.aload_n 0, 1) := by decide +kernel
theorem dX10_covered_48 : decode cX10_covered 48 = .ok (.getfield 90, 3) := by decide +kernel
theorem dX10_covered_51 : decode cX10_covered 51 = .ok (.if_icmp .ge 34, 3) := by decide +kernel
theorem dX10_covered_54 : decode cX10_covered 54 = .ok (.iload 5, 2) := by decide +kernel
theorem dX10_covered_56 : decode cX10_covered 56 = .ok (.iload_n 3, 1) := by decide +kernel
theorem dX10_covered_57 : decode cX10_covered 57 = .ok (.iload 6, 2) := by decide +kernel
theorem dX10_covered_59 : decode cX10_covered 59 = .ok (.invokestatic 151, 3) := by decide +kernel
theorem dX10_covered_62 : decode cX10_covered 62 = .ok (.ifCond .eq 13, 3) := by decide +kernel
theorem dX10_covered_65 : decode cX10_covered 65 = .ok (.aload_n 0, 1) := by decide +kernel
theorem dX10_covered_66 : decode cX10_covered 66 = .ok (.getfield 17, 3) := by decide +kernel
theorem dX10_covered_69 : decode cX10_covered 69 = .ok (.iload 6, 2) := by decide +kernel
theorem dX10_covered_71 : decode cX10_covered 71 = .ok (.iaload, 1) := by decide +kernel
theorem dX10_covered_72 : decode cX10_covered 72 = .ok (.goto 4, 3) := by decide +kernel
theorem dX10_covered_75 : decode cX10_covered 75 = .ok (.iconst 0, 1) := by decide +kernel
theorem dX10_covered_76 : decode cX10_covered 76 = .ok (.ior, 1) := by decide +kernel
theorem dX10_covered_77 : decode cX10_covered 77 = .ok (.istore 5, 2) := by decide +kernel
theorem dX10_covered_79 : decode cX10_covered 79 = .ok (.iinc 6 1, 3) := by decide +kernel
theorem dX10_covered_82 : decode cX10_covered 82 = .ok (.goto (-37), 3) := by decide +kernel
theorem dX10_covered_85 : decode cX10_covered 85 = .ok (.iload 5, 2) := by decide +kernel
theorem dX10_covered_87 : decode cX10_covered 87 = .ok (.istore_n 3, 1) := by decide +kernel
theorem dX10_covered_88 : decode cX10_covered 88 = .ok (.iinc 4 1, 3) := by decide +kernel
theorem dX10_covered_91 : decode cX10_covered 91 = .ok (.goto (-58), 3) := by decide +kernel
theorem dX10_covered_94 : decode cX10_covered 94 = .ok (.iload_n 3, 1) := by decide +kernel
theorem dX10_covered_95 : decode cX10_covered 95 = .ok (.ireturn, 1) := by decide +kernel
theorem dX10_calm_0 : decode cX10_calm 0 = .ok (.iload_n 1, 1) := by decide +kernel
theorem dX10_calm_1 : decode cX10_calm 1 = .ok (.i2l, 1) := by decide +kernel
theorem dX10_calm_2 : decode cX10_calm 2 = .ok (.lconst 0, 1) := by decide +kernel
theorem dX10_calm_3 : decode cX10_calm 3 = .ok (.ldc2_w 250, 3) := by decide +kernel
theorem dX10_calm_6 : decode cX10_calm 6 = .ok (.invokestatic 93, 3) := by decide +kernel
theorem dX10_calm_9 : decode cX10_calm 9 = .ok (.ifCond .eq 15, 3) := by decide +kernel
theorem dX10_calm_12 : decode cX10_calm 12 = .ok (.iload_n 2, 1) := by decide +kernel
theorem dX10_calm_13 : decode cX10_calm 13 = .ok (.i2l, 1) := by decide +kernel
theorem dX10_calm_14 : decode cX10_calm 14 = .ok (.lconst 0, 1) := by decide +kernel
theorem dX10_calm_15 : decode cX10_calm 15 = .ok (.ldc2_w 301, 3) := by decide +kernel
theorem dX10_calm_18 : decode cX10_calm 18 = .ok (.invokestatic 93, 3) := by decide +kernel
theorem dX10_calm_21 : decode cX10_calm 21 = .ok (.ifCond .ne 6, 3) := by decide +kernel
theorem dX10_calm_24 : decode cX10_calm 24 = .ok (.ldc 109, 2) := by decide +kernel
theorem dX10_calm_26 : decode cX10_calm 26 = .ok (.ireturn, 1) := by decide +kernel
theorem dX10_calm_27 : decode cX10_calm 27 = .ok (.ldc2_w 303, 3) := by decide +kernel
theorem dX10_calm_30 : decode cX10_calm 30 = .ok (.lstore_n 3, 1) := by decide +kernel
theorem dX10_calm_31 : decode cX10_calm 31 = .ok (.iconst 0, 1) := by decide +kernel
theorem dX10_calm_32 : decode cX10_calm 32 = .ok (.istore 5, 2) := by decide +kernel
theorem dX10_calm_34 : decode cX10_calm 34 = .ok (.iload 5, 2) := by decide +kernel
theorem dX10_calm_36 : decode cX10_calm 36 = .ok (.iload_n 1, 1) := by decide +kernel
theorem dX10_calm_37 : decode cX10_calm 37 = .ok (.if_icmp .ge 21, 3) := by decide +kernel
theorem dX10_calm_40 : decode cX10_calm 40 = .ok (.lload_n 3, 1) := by decide +kernel
theorem dX10_calm_41 : decode cX10_calm 41 = .ok (.bipush 100, 2) := by decide +kernel
theorem dX10_calm_43 : decode cX10_calm 43 = .ok (.iload_n 2, 1) := by decide +kernel
theorem dX10_calm_44 : decode cX10_calm 44 = .ok (.isub, 1) := by decide +kernel
theorem dX10_calm_45 : decode cX10_calm 45 = .ok (.i2l, 1) := by decide +kernel
theorem dX10_calm_46 : decode cX10_calm 46 = .ok (.lmul, 1) := by decide +kernel
theorem dX10_calm_47 : decode cX10_calm 47 = .ok (.ldc2_w 301, 3) := by decide +kernel
theorem dX10_calm_50 : decode cX10_calm 50 = .ok (.ldiv, 1) := by decide +kernel
theorem dX10_calm_51 : decode cX10_calm 51 = .ok (.lstore_n 3, 1) := by decide +kernel
theorem dX10_calm_52 : decode cX10_calm 52 = .ok (.iinc 5 1, 3) := by decide +kernel
theorem dX10_calm_55 : decode cX10_calm 55 = .ok (.goto (-21), 3) := by decide +kernel
theorem dX10_calm_58 : decode cX10_calm 58 = .ok (.lload_n 3, 1) := by decide +kernel
theorem dX10_calm_59 : decode cX10_calm 59 = .ok (.l2i, 1) := by decide +kernel
theorem dX10_calm_60 : decode cX10_calm 60 = .ok (.ireturn, 1) := by decide +kernel
theorem dX10_see_0 : decode cX10_see 0 = .ok (.aload_n 0, 1) := by decide +kernel
theorem dX10_see_1 : decode cX10_see 1 = .ok (.iload_n 1, 1) := by decide +kernel
theorem dX10_see_2 : decode cX10_see 2 = .ok (.invokevirtual 216, 3) := by decide +kernel
theorem dX10_see_5 : decode cX10_see 5 = .ok (.ifCond .ne 6, 3) := by decide +kernel
theorem dX10_see_8 : decode cX10_see 8 = .ok (.ldc 219, 2) := by decide +kernel
theorem dX10_see_10 : decode cX10_see 10 = .ok (.ireturn, 1) := by decide +kernel
theorem dX10_see_11 : decode cX10_see 11 = .ok (.iload_n 2, 1) := by decide +kernel
theorem dX10_see_12 : decode cX10_see 12 = .ok (.i2l, 1) := by decide +kernel
theorem dX10_see_13 : decode cX10_see 13 = .ok (.lconst 1, 1) := by decide +kernel
theorem dX10_see_14 : decode cX10_see 14 = .ok (.ldc2_w 280, 3) := by decide +kernel
theorem dX10_see_17 : decode cX10_see 17 = .ok (.invokestatic 93, 3) := by decide +kernel
theorem dX10_see_20 : decode cX10_see 20 = .ok (.ifCond .ne 6, 3) := by decide +kernel
theorem dX10_see_23 : decode cX10_see 23 = .ok (.ldc 109, 2) := by decide +kernel
theorem dX10_see_25 : decode cX10_see 25 = .ok (.ireturn, 1) := by decide +kernel
theorem dX10_see_26 : decode cX10_see 26 = .ok (.aload_n 0, 1) := by decide +kernel
theorem dX10_see_27 : decode cX10_see 27 = .ok (.getfield 200, 3) := by decide +kernel
theorem dX10_see_30 : decode cX10_see 30 = .ok (.bipush 6, 2) := by decide +kernel
theorem dX10_see_32 : decode cX10_see 32 = .ok (.if_icmp .ne 6, 3) := by decide +kernel
theorem dX10_see_35 : decode cX10_see 35 = .ok (.ldc 113, 2) := by decide +kernel
theorem dX10_see_37 : decode cX10_see 37 = .ok (.ireturn, 1) := by decide +kernel
theorem dX10_see_38 : decode cX10_see 38 = .ok (.aload_n 0, 1) := by decide +kernel
theorem dX10_see_39 : decode cX10_see 39 = .ok (.getfield 75, 3) := by decide +kernel
theorem dX10_see_42 : decode cX10_see 42 = .ok (.aload_n 0, 1) := by decide +kernel
theorem dX10_see_43 : decode cX10_see 43 = .ok (.getfield 200, 3) := by decide +kernel
theorem dX10_see_46 : decode cX10_see 46 = .ok (.iload_n 1, 1) := by decide +kernel
theorem dX10_see_47 : decode cX10_see 47 = .ok (.iastore, 1) := by decide +kernel
theorem dX10_see_48 : decode cX10_see 48 = .ok (.aload_n 0, 1) := by decide +kernel
theorem dX10_see_49 : decode cX10_see 49 = .ok (.getfield 78, 3) := by decide +kernel
theorem dX10_see_52 : decode cX10_see 52 = .ok (.aload_n 0, 1) := by decide +kernel
theorem dX10_see_53 : decode cX10_see 53 = .ok (.getfield 200, 3) := by decide +kernel
theorem dX10_see_56 : decode cX10_see 56 = .ok (.iload_n 2, 1) := by decide +kernel
theorem dX10_see_57 : decode cX10_see 57 = .ok (.iastore, 1) := by decide +kernel
theorem dX10_see_58 : decode cX10_see 58 = .ok (.aload_n 0, 1) := by decide +kernel
theorem dX10_see_59 : decode cX10_see 59 = .ok (.getfield 81, 3) := by decide +kernel
theorem dX10_see_62 : decode cX10_see 62 = .ok (.aload_n 0, 1) := by decide +kernel
theorem dX10_see_63 : decode cX10_see 63 = .ok (.getfield 200, 3) := by decide +kernel
theorem dX10_see_66 : decode cX10_see 66 = .ok (.iload_n 3, 1) := by decide +kernel
theorem dX10_see_67 : decode cX10_see 67 = .ok (.bastore, 1) := by decide +kernel
theorem dX10_see_68 : decode cX10_see 68 = .ok (.aload_n 0, 1) := by decide +kernel
theorem dX10_see_69 : decode cX10_see 69 = .ok (.dup, 1) := by decide +kernel
theorem dX10_see_70 : decode cX10_see 70 = .ok (.getfield 200, 3) := by decide +kernel
theorem dX10_see_73 : decode cX10_see 73 = .ok (.iconst 1, 1) := by decide +kernel
theorem dX10_see_74 : decode cX10_see 74 = .ok (.iadd, 1) := by decide +kernel
theorem dX10_see_75 : decode cX10_see 75 = .ok (.putfield 200, 3) := by decide +kernel
theorem dX10_see_78 : decode cX10_see 78 = .ok (.aload_n 0, 1) := by decide +kernel
theorem dX10_see_79 : decode cX10_see 79 = .ok (.getfield 200, 3) := by decide +kernel
theorem dX10_see_82 : decode cX10_see 82 = .ok (.ireturn, 1) := by decide +kernel
theorem dX10_comesTo_0 : decode cX10_comesTo 0 = .ok (.iconst 0, 1) := by decide +kernel
theorem dX10_comesTo_1 : decode cX10_comesTo 1 = .ok (.istore_n 3, 1) := by decide +kernel
theorem dX10_comesTo_2 : decode cX10_comesTo 2 = .ok (.iconst 0, 1) := by decide +kernel
theorem dX10_comesTo_3 : decode cX10_comesTo 3 = .ok (.istore 4, 2) := by decide +kernel
theorem dX10_comesTo_5 : decode cX10_comesTo 5 = .ok (.iload 4, 2) := by decide +kernel
theorem dX10_comesTo_7 : decode cX10_comesTo 7 = .ok (.iload_n 2, 1) := by decide +kernel
theorem dX10_comesTo_8 : decode cX10_comesTo 8 = .ok (.if_icmp .ge 43, 3) := by decide +kernel
theorem dX10_comesTo_11 : decode cX10_comesTo 11 = .ok (.iload 4, 2) := by decide +kernel
theorem dX10_comesTo_13 : decode cX10_comesTo 13 = .ok (.aload_n 0, 1) := by decide +kernel
theorem dX10_comesTo_14 : decode cX10_comesTo 14 = .ok (.getfield 7, 3) := by decide +kernel
theorem dX10_comesTo_17 : decode cX10_comesTo 17 = .ok (.bipush 6, 2) := by decide +kernel
theorem dX10_comesTo_19 : decode cX10_comesTo 19 = .ok (.iload_n 1, 1) := by decide +kernel
theorem dX10_comesTo_20 : decode cX10_comesTo 20 = .ok (.iadd, 1) := by decide +kernel
theorem dX10_comesTo_21 : decode cX10_comesTo 21 = .ok (.iaload, 1) := by decide +kernel
theorem dX10_comesTo_22 : decode cX10_comesTo 22 = .ok (.if_icmp .ge 29, 3) := by decide +kernel
theorem dX10_comesTo_25 : decode cX10_comesTo 25 = .ok (.iload_n 3, 1) := by decide +kernel
theorem dX10_comesTo_26 : decode cX10_comesTo 26 = .ok (.iconst 1, 1) := by decide +kernel
theorem dX10_comesTo_27 : decode cX10_comesTo 27 = .ok (.aload_n 0, 1) := by decide +kernel
theorem dX10_comesTo_28 : decode cX10_comesTo 28 = .ok (.getfield 7, 3) := by decide +kernel
theorem dX10_comesTo_31 : decode cX10_comesTo 31 = .ok (.bipush 10, 2) := by decide +kernel
theorem dX10_comesTo_33 : decode cX10_comesTo 33 = .ok (.bipush 9, 2) := by decide +kernel
theorem dX10_comesTo_35 : decode cX10_comesTo 35 = .ok (.iload_n 1, 1) := by decide +kernel
theorem dX10_comesTo_36 : decode cX10_comesTo 36 = .ok (.imul, 1) := by decide +kernel
theorem dX10_comesTo_37 : decode cX10_comesTo 37 = .ok (.iadd, 1) := by decide +kernel
theorem dX10_comesTo_38 : decode cX10_comesTo 38 = .ok (.iload 4, 2) := by decide +kernel
theorem dX10_comesTo_40 : decode cX10_comesTo 40 = .ok (.iadd, 1) := by decide +kernel
theorem dX10_comesTo_41 : decode cX10_comesTo 41 = .ok (.iaload, 1) := by decide +kernel
theorem dX10_comesTo_42 : decode cX10_comesTo 42 = .ok (.ishl, 1) := by decide +kernel
theorem dX10_comesTo_43 : decode cX10_comesTo 43 = .ok (.ior, 1) := by decide +kernel
theorem dX10_comesTo_44 : decode cX10_comesTo 44 = .ok (.istore_n 3, 1) := by decide +kernel
theorem dX10_comesTo_45 : decode cX10_comesTo 45 = .ok (.iinc 4 1, 3) := by decide +kernel
theorem dX10_comesTo_48 : decode cX10_comesTo 48 = .ok (.goto (-43), 3) := by decide +kernel
theorem dX10_comesTo_51 : decode cX10_comesTo 51 = .ok (.iload_n 3, 1) := by decide +kernel
theorem dX10_comesTo_52 : decode cX10_comesTo 52 = .ok (.ireturn, 1) := by decide +kernel
theorem dX10_spillers_0 : decode cX10_spillers 0 = .ok (.iconst 0, 1) := by decide +kernel
theorem dX10_spillers_1 : decode cX10_spillers 1 = .ok (.istore_n 1, 1) := by decide +kernel
theorem dX10_spillers_2 : decode cX10_spillers 2 = .ok (.iconst 0, 1) := by decide +kernel
theorem dX10_spillers_3 : decode cX10_spillers 3 = .ok (.istore_n 2, 1) := by decide +kernel
theorem dX10_spillers_4 : decode cX10_spillers 4 = .ok (.iload_n 2, 1) := by decide +kernel
theorem dX10_spillers_5 : decode cX10_spillers 5 = .ok (.aload_n 0, 1) := by decide +kernel
theorem dX10_spillers_6 : decode cX10_spillers 6 = .ok (.getfield 97, 3) := by decide +kernel
theorem dX10_spillers_9 : decode cX10_spillers 9 = .ok (.if_icmp .ge 85, 3) := by decide +kernel
theorem dX10_spillers_12 : decode cX10_spillers 12 = .ok (.iconst 1, 1) := by decide +kernel
theorem dX10_spillers_13 : decode cX10_spillers 13 = .ok (.istore_n 3, 1) := by decide +kernel
theorem dX10_spillers_14 : decode cX10_spillers 14 = .ok (.iconst 0, 1) := by decide +kernel
theorem dX10_spillers_15 : decode cX10_spillers 15 = .ok (.istore 4, 2) := by decide +kernel
theorem dX10_spillers_17 : decode cX10_spillers 17 = .ok (.iload 4, 2) := by decide +kernel
theorem dX10_spillers_19 : decode cX10_spillers 19 = .ok (.aload_n 0, 1) := by decide +kernel
theorem dX10_spillers_20 : decode cX10_spillers 20 = .ok (.getfield 200, 3) := by decide +kernel
theorem dX10_spillers_23 : decode cX10_spillers 23 = .ok (.if_icmp .ge 51, 3) := by decide +kernel
theorem dX10_spillers_26 : decode cX10_spillers 26 = .ok (.iload_n 3, 1) := by decide +kernel
theorem dX10_spillers_27 : decode cX10_spillers 27 = .ok (.ifCond .eq 39, 3) := by decide +kernel
theorem dX10_spillers_30 : decode cX10_spillers 30 = .ok (.aload_n 0, 1) := by decide +kernel
theorem dX10_spillers_31 : decode cX10_spillers 31 = .ok (.iload_n 2, 1) := by decide +kernel
theorem dX10_spillers_32 : decode cX10_spillers 32 = .ok (.aload_n 0, 1) := by decide +kernel
theorem dX10_spillers_33 : decode cX10_spillers 33 = .ok (.getfield 78, 3) := by decide +kernel
theorem dX10_spillers_36 : decode cX10_spillers 36 = .ok (.iload 4, 2) := by decide +kernel
theorem dX10_spillers_38 : decode cX10_spillers 38 = .ok (.iaload, 1) := by decide +kernel
theorem dX10_spillers_39 : decode cX10_spillers 39 = .ok (.invokevirtual 305, 3) := by decide +kernel
theorem dX10_spillers_42 : decode cX10_spillers 42 = .ok (.aload_n 0, 1) := by decide +kernel
theorem dX10_spillers_43 : decode cX10_spillers 43 = .ok (.getfield 75, 3) := by decide +kernel
theorem dX10_spillers_46 : decode cX10_spillers 46 = .ok (.iload 4, 2) := by decide +kernel
theorem dX10_spillers_48 : decode cX10_spillers 48 = .ok (.iaload, 1) := by decide +kernel
theorem dX10_spillers_49 : decode cX10_spillers 49 = .ok (.invokestatic 151, 3) := by decide +kernel
theorem dX10_spillers_52 : decode cX10_spillers 52 = .ok (.aload_n 0, 1) := by decide +kernel
theorem dX10_spillers_53 : decode cX10_spillers 53 = .ok (.getfield 81, 3) := by decide +kernel
theorem dX10_spillers_56 : decode cX10_spillers 56 = .ok (.iload 4, 2) := by decide +kernel
theorem dX10_spillers_58 : decode cX10_spillers 58 = .ok (.baload, 1) := by decide +kernel
theorem dX10_spillers_59 : decode cX10_spillers 59 = .ok (.if_icmp .ne 7, 3) := by decide +kernel
theorem dX10_spillers_62 : decode cX10_spillers 62 = .ok (.iconst 1, 1) := by decide +kernel
theorem dX10_spillers_63 : decode cX10_spillers 63 = .ok (.goto 4, 3) := by decide +kernel
theorem dX10_spillers_66 : decode cX10_spillers 66 = .ok (.iconst 0, 1) := by decide +kernel
theorem dX10_spillers_67 : decode cX10_spillers 67 = .ok (.istore_n 3, 1) := by decide +kernel
theorem dX10_spillers_68 : decode cX10_spillers 68 = .ok (.iinc 4 1, 3) := by decide +kernel
theorem dX10_spillers_71 : decode cX10_spillers 71 = .ok (.goto (-54), 3) := by decide +kernel
theorem dX10_spillers_74 : decode cX10_spillers 74 = .ok (.iload_n 1, 1) := by decide +kernel
theorem dX10_spillers_75 : decode cX10_spillers 75 = .ok (.iload_n 3, 1) := by decide +kernel
theorem dX10_spillers_76 : decode cX10_spillers 76 = .ok (.ifCond .eq 9, 3) := by decide +kernel
theorem dX10_spillers_79 : decode cX10_spillers 79 = .ok (.iconst 1, 1) := by decide +kernel
theorem dX10_spillers_80 : decode cX10_spillers 80 = .ok (.iload_n 2, 1) := by decide +kernel
theorem dX10_spillers_81 : decode cX10_spillers 81 = .ok (.ishl, 1) := by decide +kernel
theorem dX10_spillers_82 : decode cX10_spillers 82 = .ok (.goto 4, 3) := by decide +kernel
theorem dX10_spillers_85 : decode cX10_spillers 85 = .ok (.iconst 0, 1) := by decide +kernel
theorem dX10_spillers_86 : decode cX10_spillers 86 = .ok (.ior, 1) := by decide +kernel
theorem dX10_spillers_87 : decode cX10_spillers 87 = .ok (.istore_n 1, 1) := by decide +kernel
theorem dX10_spillers_88 : decode cX10_spillers 88 = .ok (.iinc 2 1, 3) := by decide +kernel
theorem dX10_spillers_91 : decode cX10_spillers 91 = .ok (.goto (-87), 3) := by decide +kernel
theorem dX10_spillers_94 : decode cX10_spillers 94 = .ok (.iload_n 1, 1) := by decide +kernel
theorem dX10_spillers_95 : decode cX10_spillers 95 = .ok (.ireturn, 1) := by decide +kernel
theorem dX10_spiller_0 : decode cX10_spiller 0 = .ok (.aload_n 0, 1) := by decide +kernel
theorem dX10_spiller_1 : decode cX10_spiller 1 = .ok (.invokevirtual 308, 3) := by decide +kernel
theorem dX10_spiller_4 : decode cX10_spiller 4 = .ok (.ireturn, 1) := by decide +kernel
theorem dX10_look_0 : decode cX10_look 0 = .ok (.aload_n 0, 1) := by decide +kernel
theorem dX10_look_1 : decode cX10_look 1 = .ok (.invokevirtual 308, 3) := by decide +kernel
theorem dX10_look_4 : decode cX10_look 4 = .ok (.istore_n 1, 1) := by decide +kernel
theorem dX10_look_5 : decode cX10_look 5 = .ok (.iconst (-1), 1) := by decide +kernel
theorem dX10_look_6 : decode cX10_look 6 = .ok (.istore_n 2, 1) := by decide +kernel
theorem dX10_look_7 : decode cX10_look 7 = .ok (.iload_n 1, 1) := by decide +kernel
theorem dX10_look_8 : decode cX10_look 8 = .ok (.invokestatic 274, 3) := by decide +kernel
theorem dX10_look_11 : decode cX10_look 11 = .ok (.istore_n 3, 1) := by decide +kernel
theorem dX10_look_12 : decode cX10_look 12 = .ok (.iconst 0, 1) := by decide +kernel
theorem dX10_look_13 : decode cX10_look 13 = .ok (.istore 4, 2) := by decide +kernel
theorem dX10_look_15 : decode cX10_look 15 = .ok (.iload 4, 2) := by decide +kernel
theorem dX10_look_17 : decode cX10_look 17 = .ok (.aload_n 0, 1) := by decide +kernel
theorem dX10_look_18 : decode cX10_look 18 = .ok (.getfield 90, 3) := by decide +kernel
theorem dX10_look_21 : decode cX10_look 21 = .ok (.if_icmp .ge 117, 3) := by decide +kernel
theorem dX10_look_24 : decode cX10_look 24 = .ok (.iconst 0, 1) := by decide +kernel
theorem dX10_look_25 : decode cX10_look 25 = .ok (.istore 5, 2) := by decide +kernel
theorem dX10_look_27 : decode cX10_look 27 = .ok (.iconst 0, 1) := by decide +kernel
theorem dX10_look_28 : decode cX10_look 28 = .ok (.istore 6, 2) := by decide +kernel
theorem dX10_look_30 : decode cX10_look 30 = .ok (.iload 6, 2) := by decide +kernel
theorem dX10_look_32 : decode cX10_look 32 = .ok (.aload_n 0, 1) := by decide +kernel
theorem dX10_look_33 : decode cX10_look 33 = .ok (.getfield 97, 3) := by decide +kernel
theorem dX10_look_36 : decode cX10_look 36 = .ok (.if_icmp .ge 44, 3) := by decide +kernel
theorem dX10_look_39 : decode cX10_look 39 = .ok (.iload 5, 2) := by decide +kernel
theorem dX10_look_41 : decode cX10_look 41 = .ok (.iload_n 1, 1) := by decide +kernel
theorem dX10_look_42 : decode cX10_look 42 = .ok (.iload 6, 2) := by decide +kernel
theorem dX10_look_44 : decode cX10_look 44 = .ok (.invokestatic 151, 3) := by decide +kernel
theorem dX10_look_47 : decode cX10_look 47 = .ok (.ifCond .eq 23, 3) := by decide +kernel
theorem dX10_look_50 : decode cX10_look 50 = .ok (.aload_n 0, 1) := by decide +kernel
theorem dX10_look_51 : decode cX10_look 51 = .ok (.iload 6, 2) := by decide +kernel
theorem dX10_look_53 : decode cX10_look 53 = .ok (.bipush 20, 2) := by decide +kernel
theorem dX10_look_55 : decode cX10_look 55 = .ok (.invokevirtual 305, 3) := by decide +kernel
theorem dX10_look_58 : decode cX10_look 58 = .ok (.iload 4, 2) := by decide +kernel
theorem dX10_look_60 : decode cX10_look 60 = .ok (.invokestatic 151, 3) := by decide +kernel
theorem dX10_look_63 : decode cX10_look 63 = .ok (.ifCond .eq 7, 3) := by decide +kernel
theorem dX10_look_66 : decode cX10_look 66 = .ok (.iconst 1, 1) := by decide +kernel
theorem dX10_look_67 : decode cX10_look 67 = .ok (.goto 4, 3) := by decide +kernel
theorem dX10_look_70 : decode cX10_look 70 = .ok (.iconst 0, 1) := by decide +kernel
theorem dX10_look_71 : decode cX10_look 71 = .ok (.iadd, 1) := by decide +kernel
theorem dX10_look_72 : decode cX10_look 72 = .ok (.istore 5, 2) := by decide +kernel
theorem dX10_look_74 : decode cX10_look 74 = .ok (.iinc 6 1, 3) := by decide +kernel
theorem dX10_look_77 : decode cX10_look 77 = .ok (.goto (-47), 3) := by decide +kernel
theorem dX10_look_80 : decode cX10_look 80 = .ok (.iload 5, 2) := by decide +kernel
theorem dX10_look_82 : decode cX10_look 82 = .ok (.iload_n 1, 1) := by decide +kernel
theorem dX10_look_83 : decode cX10_look 83 = .ok (.invokestatic 274, 3) := by decide +kernel
theorem dX10_look_86 : decode cX10_look 86 = .ok (.iload 5, 2) := by decide +kernel
theorem dX10_look_88 : decode cX10_look 88 = .ok (.isub, 1) := by decide +kernel
theorem dX10_look_89 : decode cX10_look 89 = .ok (.if_icmp .le 8, 3) := by decide +kernel
theorem dX10_look_92 : decode cX10_look 92 = .ok (.iload 5, 2) := by decide +kernel
theorem dX10_look_94 : decode cX10_look 94 = .ok (.goto 10, 3) := by decide +kernel
theorem dX10_look_97 : decode cX10_look 97 = .ok (.iload_n 1, 1) := by decide +kernel
theorem dX10_look_98 : decode cX10_look 98 = .ok (.invokestatic 274, 3) := by decide +kernel
theorem dX10_look_101 : decode cX10_look 101 = .ok (.iload 5, 2) := by decide +kernel
theorem dX10_look_103 : decode cX10_look 103 = .ok (.isub, 1) := by decide +kernel
theorem dX10_look_104 : decode cX10_look 104 = .ok (.istore 6, 2) := by decide +kernel
theorem dX10_look_106 : decode cX10_look 106 = .ok (.iload 6, 2) := by decide +kernel
theorem dX10_look_108 : decode cX10_look 108 = .ok (.iload_n 3, 1) := by decide +kernel
theorem dX10_look_109 : decode cX10_look 109 = .ok (.if_icmp .ge 8, 3) := by decide +kernel
theorem dX10_look_112 : decode cX10_look 112 = .ok (.iload 4, 2) := by decide +kernel
theorem dX10_look_114 : decode cX10_look 114 = .ok (.goto 4, 3) := by decide +kernel
theorem dX10_look_117 : decode cX10_look 117 = .ok (.iload_n 2, 1) := by decide +kernel
theorem dX10_look_118 : decode cX10_look 118 = .ok (.istore_n 2, 1) := by decide +kernel
theorem dX10_look_119 : decode cX10_look 119 = .ok (.iload 6, 2) := by decide +kernel
theorem dX10_look_121 : decode cX10_look 121 = .ok (.iload_n 3, 1) := by decide +kernel
theorem dX10_look_122 : decode cX10_look 122 = .ok (.if_icmp .ge 8, 3) := by decide +kernel
theorem dX10_look_125 : decode cX10_look 125 = .ok (.iload 6, 2) := by decide +kernel
theorem dX10_look_127 : decode cX10_look 127 = .ok (.goto 4, 3) := by decide +kernel
theorem dX10_look_130 : decode cX10_look 130 = .ok (.iload_n 3, 1) := by decide +kernel
theorem dX10_look_131 : decode cX10_look 131 = .ok (.istore_n 3, 1) := by decide +kernel
theorem dX10_look_132 : decode cX10_look 132 = .ok (.iinc 4 1, 3) := by decide +kernel
theorem dX10_look_135 : decode cX10_look 135 = .ok (.goto (-120), 3) := by decide +kernel
theorem dX10_look_138 : decode cX10_look 138 = .ok (.iload_n 2, 1) := by decide +kernel
theorem dX10_look_139 : decode cX10_look 139 = .ok (.ireturn, 1) := by decide +kernel
theorem dX10_write_0 : decode cX10_write 0 = .ok (.aload_n 0, 1) := by decide +kernel
theorem dX10_write_1 : decode cX10_write 1 = .ok (.iload_n 1, 1) := by decide +kernel
theorem dX10_write_2 : decode cX10_write 2 = .ok (.invokevirtual 100, 3) := by decide +kernel
theorem dX10_write_5 : decode cX10_write 5 = .ok (.ifCond .eq 11, 3) := by decide +kernel
theorem dX10_write_8 : decode cX10_write 8 = .ok (.aload_n 0, 1) := by decide +kernel
theorem dX10_write_9 : decode cX10_write 9 = .ok (.iload_n 2, 1) := by decide +kernel
theorem dX10_write_10 : decode cX10_write 10 = .ok (.invokevirtual 216, 3) := by decide +kernel
theorem dX10_write_13 : decode cX10_write 13 = .ok (.ifCond .ne 6, 3) := by decide +kernel
theorem dX10_write_16 : decode cX10_write 16 = .ok (.ldc 219, 2) := by decide +kernel
theorem dX10_write_18 : decode cX10_write 18 = .ok (.ireturn, 1) := by decide +kernel
theorem dX10_write_19 : decode cX10_write 19 = .ok (.aload_n 0, 1) := by decide +kernel
theorem dX10_write_20 : decode cX10_write 20 = .ok (.getfield 203, 3) := by decide +kernel
theorem dX10_write_23 : decode cX10_write 23 = .ok (.bipush 15, 2) := by decide +kernel
theorem dX10_write_25 : decode cX10_write 25 = .ok (.if_icmp .ne 6, 3) := by decide +kernel
theorem dX10_write_28 : decode cX10_write 28 = .ok (.ldc 113, 2) := by decide +kernel
theorem dX10_write_30 : decode cX10_write 30 = .ok (.ireturn, 1) := by decide +kernel
theorem dX10_write_31 : decode cX10_write 31 = .ok (.aload_n 0, 1) := by decide +kernel
theorem dX10_write_32 : decode cX10_write 32 = .ok (.getfield 84, 3) := by decide +kernel
theorem dX10_write_35 : decode cX10_write 35 = .ok (.aload_n 0, 1) := by decide +kernel
theorem dX10_write_36 : decode cX10_write 36 = .ok (.getfield 203, 3) := by decide +kernel
theorem dX10_write_39 : decode cX10_write 39 = .ok (.iload_n 1, 1) := by decide +kernel
theorem dX10_write_40 : decode cX10_write 40 = .ok (.iastore, 1) := by decide +kernel
theorem dX10_write_41 : decode cX10_write 41 = .ok (.aload_n 0, 1) := by decide +kernel
theorem dX10_write_42 : decode cX10_write 42 = .ok (.getfield 87, 3) := by decide +kernel
theorem dX10_write_45 : decode cX10_write 45 = .ok (.aload_n 0, 1) := by decide +kernel
theorem dX10_write_46 : decode cX10_write 46 = .ok (.getfield 203, 3) := by decide +kernel
theorem dX10_write_49 : decode cX10_write 49 = .ok (.iload_n 2, 1) := by decide +kernel
theorem dX10_write_50 : decode cX10_write 50 = .ok (.iastore, 1) := by decide +kernel
theorem dX10_write_51 : decode cX10_write 51 = .ok (.aload_n 0, 1) := by decide +kernel
theorem dX10_write_52 : decode cX10_write 52 = .ok (.dup, 1) := by decide +kernel
theorem dX10_write_53 : decode cX10_write 53 = .ok (.getfield 203, 3) := by decide +kernel
theorem dX10_write_56 : decode cX10_write 56 = .ok (.iconst 1, 1) := by decide +kernel
theorem dX10_write_57 : decode cX10_write 57 = .ok (.iadd, 1) := by decide +kernel
theorem dX10_write_58 : decode cX10_write 58 = .ok (.putfield 203, 3) := by decide +kernel
theorem dX10_write_61 : decode cX10_write 61 = .ok (.aload_n 0, 1) := by decide +kernel
theorem dX10_write_62 : decode cX10_write 62 = .ok (.getfield 203, 3) := by decide +kernel
theorem dX10_write_65 : decode cX10_write 65 = .ok (.ireturn, 1) := by decide +kernel
theorem dX10_tear_0 : decode cX10_tear 0 = .ok (.aload_n 0, 1) := by decide +kernel
theorem dX10_tear_1 : decode cX10_tear 1 = .ok (.getfield 200, 3) := by decide +kernel
theorem dX10_tear_4 : decode cX10_tear 4 = .ok (.aload_n 0, 1) := by decide +kernel
theorem dX10_tear_5 : decode cX10_tear 5 = .ok (.getfield 203, 3) := by decide +kernel
theorem dX10_tear_8 : decode cX10_tear 8 = .ok (.iadd, 1) := by decide +kernel
theorem dX10_tear_9 : decode cX10_tear 9 = .ok (.istore_n 1, 1) := by decide +kernel
theorem dX10_tear_10 : decode cX10_tear 10 = .ok (.aload_n 0, 1) := by decide +kernel
theorem dX10_tear_11 : decode cX10_tear 11 = .ok (.iconst 0, 1) := by decide +kernel
theorem dX10_tear_12 : decode cX10_tear 12 = .ok (.putfield 200, 3) := by decide +kernel
theorem dX10_tear_15 : decode cX10_tear 15 = .ok (.aload_n 0, 1) := by decide +kernel
theorem dX10_tear_16 : decode cX10_tear 16 = .ok (.iconst 0, 1) := by decide +kernel
theorem dX10_tear_17 : decode cX10_tear 17 = .ok (.putfield 203, 3) := by decide +kernel
theorem dX10_tear_20 : decode cX10_tear 20 = .ok (.iload_n 1, 1) := by decide +kernel
theorem dX10_tear_21 : decode cX10_tear 21 = .ok (.ireturn, 1) := by decide +kernel
theorem dX10_judge_0 : decode cX10_judge 0 = .ok (.iconst 0, 1) := by decide +kernel
theorem dX10_judge_1 : decode cX10_judge 1 = .ok (.istore_n 1, 1) := by decide +kernel
theorem dX10_judge_2 : decode cX10_judge 2 = .ok (.iload_n 1, 1) := by decide +kernel
theorem dX10_judge_3 : decode cX10_judge 3 = .ok (.aload_n 0, 1) := by decide +kernel
theorem dX10_judge_4 : decode cX10_judge 4 = .ok (.getfield 203, 3) := by decide +kernel
theorem dX10_judge_7 : decode cX10_judge 7 = .ok (.if_icmp .ge 33, 3) := by decide +kernel
theorem dX10_judge_10 : decode cX10_judge 10 = .ok (.aload_n 0, 1) := by decide +kernel
theorem dX10_judge_11 : decode cX10_judge 11 = .ok (.getfield 7, 3) := by decide +kernel
theorem dX10_judge_14 : decode cX10_judge 14 = .ok (.iconst 2, 1) := by decide +kernel
theorem dX10_judge_15 : decode cX10_judge 15 = .ok (.aload_n 0, 1) := by decide +kernel
theorem dX10_judge_16 : decode cX10_judge 16 = .ok (.getfield 84, 3) := by decide +kernel
theorem dX10_judge_19 : decode cX10_judge 19 = .ok (.iload_n 1, 1) := by decide +kernel
theorem dX10_judge_20 : decode cX10_judge 20 = .ok (.iaload, 1) := by decide +kernel
theorem dX10_judge_21 : decode cX10_judge 21 = .ok (.iadd, 1) := by decide +kernel
theorem dX10_judge_22 : decode cX10_judge 22 = .ok (.iaload, 1) := by decide +kernel
theorem dX10_judge_23 : decode cX10_judge 23 = .ok (.aload_n 0, 1) := by decide +kernel
theorem dX10_judge_24 : decode cX10_judge 24 = .ok (.getfield 87, 3) := by decide +kernel
theorem dX10_judge_27 : decode cX10_judge 27 = .ok (.iload_n 1, 1) := by decide +kernel
theorem dX10_judge_28 : decode cX10_judge 28 = .ok (.iaload, 1) := by decide +kernel
theorem dX10_judge_29 : decode cX10_judge 29 = .ok (.if_icmp .eq 5, 3) := by decide +kernel
theorem dX10_judge_32 : decode cX10_judge 32 = .ok (.iload_n 1, 1) := by decide +kernel
theorem dX10_judge_33 : decode cX10_judge 33 = .ok (.ireturn, 1) := by decide +kernel
theorem dX10_judge_34 : decode cX10_judge 34 = .ok (.iinc 1 1, 3) := by decide +kernel
theorem dX10_judge_37 : decode cX10_judge 37 = .ok (.goto (-35), 3) := by decide +kernel
theorem dX10_judge_40 : decode cX10_judge 40 = .ok (.iconst (-1), 1) := by decide +kernel
theorem dX10_judge_41 : decode cX10_judge 41 = .ok (.ireturn, 1) := by decide +kernel
theorem dX10_seed_0 : decode cX10_seed 0 = .ok (.iload_n 1, 1) := by decide +kernel
theorem dX10_seed_1 : decode cX10_seed 1 = .ok (.ifCond .ge 6, 3) := by decide +kernel
theorem dX10_seed_4 : decode cX10_seed 4 = .ok (.ldc 109, 2) := by decide +kernel
theorem dX10_seed_6 : decode cX10_seed 6 = .ok (.ireturn, 1) := by decide +kernel
theorem dX10_seed_7 : decode cX10_seed 7 = .ok (.aload_n 0, 1) := by decide +kernel
theorem dX10_seed_8 : decode cX10_seed 8 = .ok (.getfield 7, 3) := by decide +kernel
theorem dX10_seed_11 : decode cX10_seed 11 = .ok (.bipush 58, 2) := by decide +kernel
theorem dX10_seed_13 : decode cX10_seed 13 = .ok (.iaload, 1) := by decide +kernel
theorem dX10_seed_14 : decode cX10_seed 14 = .ok (.istore_n 2, 1) := by decide +kernel
theorem dX10_seed_15 : decode cX10_seed 15 = .ok (.aload_n 0, 1) := by decide +kernel
theorem dX10_seed_16 : decode cX10_seed 16 = .ok (.getfield 7, 3) := by decide +kernel
theorem dX10_seed_19 : decode cX10_seed 19 = .ok (.bipush 58, 2) := by decide +kernel
theorem dX10_seed_21 : decode cX10_seed 21 = .ok (.iload_n 1, 1) := by decide +kernel
theorem dX10_seed_22 : decode cX10_seed 22 = .ok (.iastore, 1) := by decide +kernel
theorem dX10_seed_23 : decode cX10_seed 23 = .ok (.iload_n 2, 1) := by decide +kernel
theorem dX10_seed_24 : decode cX10_seed 24 = .ok (.ireturn, 1) := by decide +kernel
theorem dX10_keep_0 : decode cX10_keep 0 = .ok (.iload_n 1, 1) := by decide +kernel
theorem dX10_keep_1 : decode cX10_keep 1 = .ok (.i2l, 1) := by decide +kernel
theorem dX10_keep_2 : decode cX10_keep 2 = .ok (.lconst 0, 1) := by decide +kernel
theorem dX10_keep_3 : decode cX10_keep 3 = .ok (.lconst 1, 1) := by decide +kernel
theorem dX10_keep_4 : decode cX10_keep 4 = .ok (.invokestatic 93, 3) := by decide +kernel
theorem dX10_keep_7 : decode cX10_keep 7 = .ok (.ifCond .ne 6, 3) := by decide +kernel
theorem dX10_keep_10 : decode cX10_keep 10 = .ok (.ldc 219, 2) := by decide +kernel
theorem dX10_keep_12 : decode cX10_keep 12 = .ok (.ireturn, 1) := by decide +kernel
theorem dX10_keep_13 : decode cX10_keep 13 = .ok (.aload_n 0, 1) := by decide +kernel
theorem dX10_keep_14 : decode cX10_keep 14 = .ok (.iconst 0, 1) := by decide +kernel
theorem dX10_keep_15 : decode cX10_keep 15 = .ok (.bipush 118, 2) := by decide +kernel
theorem dX10_keep_17 : decode cX10_keep 17 = .ok (.bipush 59, 2) := by decide +kernel
theorem dX10_keep_19 : decode cX10_keep 19 = .ok (.iload_n 1, 1) := by decide +kernel
theorem dX10_keep_20 : decode cX10_keep 20 = .ok (.imul, 1) := by decide +kernel
theorem dX10_keep_21 : decode cX10_keep 21 = .ok (.iadd, 1) := by decide +kernel
theorem dX10_keep_22 : decode cX10_keep 22 = .ok (.invokevirtual 246, 3) := by decide +kernel
theorem dX10_keep_25 : decode cX10_keep 25 = .ok (.aload_n 0, 1) := by decide +kernel
theorem dX10_keep_26 : decode cX10_keep 26 = .ok (.getfield 13, 3) := by decide +kernel
theorem dX10_keep_29 : decode cX10_keep 29 = .ok (.iload_n 1, 1) := by decide +kernel
theorem dX10_keep_30 : decode cX10_keep 30 = .ok (.iconst 1, 1) := by decide +kernel
theorem dX10_keep_31 : decode cX10_keep 31 = .ok (.bastore, 1) := by decide +kernel
theorem dX10_keep_32 : decode cX10_keep 32 = .ok (.aload_n 0, 1) := by decide +kernel
theorem dX10_keep_33 : decode cX10_keep 33 = .ok (.iconst 0, 1) := by decide +kernel
theorem dX10_keep_34 : decode cX10_keep 34 = .ok (.putfield 206, 3) := by decide +kernel
theorem dX10_keep_37 : decode cX10_keep 37 = .ok (.iconst 1, 1) := by decide +kernel
theorem dX10_keep_38 : decode cX10_keep 38 = .ok (.ireturn, 1) := by decide +kernel
theorem dX10_goBack_0 : decode cX10_goBack 0 = .ok (.iload_n 1, 1) := by decide +kernel
theorem dX10_goBack_1 : decode cX10_goBack 1 = .ok (.i2l, 1) := by decide +kernel
theorem dX10_goBack_2 : decode cX10_goBack 2 = .ok (.lconst 0, 1) := by decide +kernel
theorem dX10_goBack_3 : decode cX10_goBack 3 = .ok (.lconst 1, 1) := by decide +kernel
theorem dX10_goBack_4 : decode cX10_goBack 4 = .ok (.invokestatic 93, 3) := by decide +kernel
theorem dX10_goBack_7 : decode cX10_goBack 7 = .ok (.ifCond .ne 6, 3) := by decide +kernel
theorem dX10_goBack_10 : decode cX10_goBack 10 = .ok (.ldc 219, 2) := by decide +kernel
theorem dX10_goBack_12 : decode cX10_goBack 12 = .ok (.ireturn, 1) := by decide +kernel
theorem dX10_goBack_13 : decode cX10_goBack 13 = .ok (.aload_n 0, 1) := by decide +kernel
theorem dX10_goBack_14 : decode cX10_goBack 14 = .ok (.getfield 13, 3) := by decide +kernel
theorem dX10_goBack_17 : decode cX10_goBack 17 = .ok (.iload_n 1, 1) := by decide +kernel
theorem dX10_goBack_18 : decode cX10_goBack 18 = .ok (.baload, 1) := by decide +kernel
theorem dX10_goBack_19 : decode cX10_goBack 19 = .ok (.ifCond .ne 6, 3) := by decide +kernel
theorem dX10_goBack_22 : decode cX10_goBack 22 = .ok (.ldc 249, 2) := by decide +kernel
theorem dX10_goBack_24 : decode cX10_goBack 24 = .ok (.ireturn, 1) := by decide +kernel
theorem dX10_goBack_25 : decode cX10_goBack 25 = .ok (.aload_n 0, 1) := by decide +kernel
theorem dX10_goBack_26 : decode cX10_goBack 26 = .ok (.bipush 118, 2) := by decide +kernel
theorem dX10_goBack_28 : decode cX10_goBack 28 = .ok (.bipush 59, 2) := by decide +kernel
theorem dX10_goBack_30 : decode cX10_goBack 30 = .ok (.iload_n 1, 1) := by decide +kernel
theorem dX10_goBack_31 : decode cX10_goBack 31 = .ok (.imul, 1) := by decide +kernel
theorem dX10_goBack_32 : decode cX10_goBack 32 = .ok (.iadd, 1) := by decide +kernel
theorem dX10_goBack_33 : decode cX10_goBack 33 = .ok (.iconst 0, 1) := by decide +kernel
theorem dX10_goBack_34 : decode cX10_goBack 34 = .ok (.invokevirtual 246, 3) := by decide +kernel
theorem dX10_goBack_37 : decode cX10_goBack 37 = .ok (.aload_n 0, 1) := by decide +kernel
theorem dX10_goBack_38 : decode cX10_goBack 38 = .ok (.iconst 0, 1) := by decide +kernel
theorem dX10_goBack_39 : decode cX10_goBack 39 = .ok (.putfield 206, 3) := by decide +kernel
theorem dX10_goBack_42 : decode cX10_goBack 42 = .ok (.iconst 1, 1) := by decide +kernel
theorem dX10_goBack_43 : decode cX10_goBack 43 = .ok (.ireturn, 1) := by decide +kernel

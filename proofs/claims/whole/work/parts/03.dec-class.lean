theorem dX0_init_0 : decode cX0_init 0 = .ok (.aload_n 0, 1) := by decide +kernel
theorem dX0_init_1 : decode cX0_init 1 = .ok (.invokespecial 3, 3) := by decide +kernel
theorem dX0_init_4 : decode cX0_init 4 = .ok (.aload_n 0, 1) := by decide +kernel
theorem dX0_init_5 : decode cX0_init 5 = .ok (.iconst 4, 1) := by decide +kernel
theorem dX0_init_6 : decode cX0_init 6 = .ok (.newarray .int, 2) := by decide +kernel
theorem dX0_init_8 : decode cX0_init 8 = .ok (.putfield 9, 3) := by decide +kernel
theorem dX0_init_11 : decode cX0_init 11 = .ok (.aload_n 0, 1) := by decide +kernel
theorem dX0_init_12 : decode cX0_init 12 = .ok (.aload_n 1, 1) := by decide +kernel
theorem dX0_init_13 : decode cX0_init 13 = .ok (.putfield 15, 3) := by decide +kernel
theorem dX0_init_16 : decode cX0_init 16 = .ok (.aload_n 0, 1) := by decide +kernel
theorem dX0_init_17 : decode cX0_init 17 = .ok (.aload_n 2, 1) := by decide +kernel
theorem dX0_init_18 : decode cX0_init 18 = .ok (.putfield 19, 3) := by decide +kernel
theorem dX0_init_21 : decode cX0_init 21 = .ok (.return_, 1) := by decide +kernel
theorem dX0_slant_0 : decode cX0_slant 0 = .ok (.aload_n 0, 1) := by decide +kernel
theorem dX0_slant_1 : decode cX0_slant 1 = .ok (.getfield 15, 3) := by decide +kernel
theorem dX0_slant_4 : decode cX0_slant 4 = .ok (.aload_n 0, 1) := by decide +kernel
theorem dX0_slant_5 : decode cX0_slant 5 = .ok (.getfield 19, 3) := by decide +kernel
theorem dX0_slant_8 : decode cX0_slant 8 = .ok (.iload_n 1, 1) := by decide +kernel
theorem dX0_slant_9 : decode cX0_slant 9 = .ok (.invokevirtual 23, 3) := by decide +kernel
theorem dX0_slant_12 : decode cX0_slant 12 = .ok (.aload_n 0, 1) := by decide +kernel
theorem dX0_slant_13 : decode cX0_slant 13 = .ok (.getfield 19, 3) := by decide +kernel
theorem dX0_slant_16 : decode cX0_slant 16 = .ok (.iload_n 1, 1) := by decide +kernel
theorem dX0_slant_17 : decode cX0_slant 17 = .ok (.iconst 0, 1) := by decide +kernel
theorem dX0_slant_18 : decode cX0_slant 18 = .ok (.invokestatic 29, 3) := by decide +kernel
theorem dX0_slant_21 : decode cX0_slant 21 = .ok (.invokevirtual 33, 3) := by decide +kernel
theorem dX0_slant_24 : decode cX0_slant 24 = .ok (.invokevirtual 36, 3) := by decide +kernel
theorem dX0_slant_27 : decode cX0_slant 27 = .ok (.ireturn, 1) := by decide +kernel
theorem dX0_tick_0 : decode cX0_tick 0 = .ok (.iconst 0, 1) := by decide +kernel
theorem dX0_tick_1 : decode cX0_tick 1 = .ok (.istore_n 1, 1) := by decide +kernel
theorem dX0_tick_2 : decode cX0_tick 2 = .ok (.iload_n 1, 1) := by decide +kernel
theorem dX0_tick_3 : decode cX0_tick 3 = .ok (.iconst 4, 1) := by decide +kernel
theorem dX0_tick_4 : decode cX0_tick 4 = .ok (.if_icmp .ge 32, 3) := by decide +kernel
theorem dX0_tick_7 : decode cX0_tick 7 = .ok (.aload_n 0, 1) := by decide +kernel
theorem dX0_tick_8 : decode cX0_tick 8 = .ok (.getfield 9, 3) := by decide +kernel
theorem dX0_tick_11 : decode cX0_tick 11 = .ok (.iload_n 1, 1) := by decide +kernel
theorem dX0_tick_12 : decode cX0_tick 12 = .ok (.aload_n 0, 1) := by decide +kernel
theorem dX0_tick_13 : decode cX0_tick 13 = .ok (.getfield 19, 3) := by decide +kernel
theorem dX0_tick_16 : decode cX0_tick 16 = .ok (.getfield 41, 3) := by decide +kernel
theorem dX0_tick_19 : decode cX0_tick 19 = .ok (.iload_n 1, 1) := by decide +kernel
theorem dX0_tick_20 : decode cX0_tick 20 = .ok (.iaload, 1) := by decide +kernel
theorem dX0_tick_21 : decode cX0_tick 21 = .ok (.iastore, 1) := by decide +kernel
theorem dX0_tick_22 : decode cX0_tick 22 = .ok (.aload_n 0, 1) := by decide +kernel
theorem dX0_tick_23 : decode cX0_tick 23 = .ok (.getfield 19, 3) := by decide +kernel
theorem dX0_tick_26 : decode cX0_tick 26 = .ok (.iload_n 1, 1) := by decide +kernel
theorem dX0_tick_27 : decode cX0_tick 27 = .ok (.invokevirtual 44, 3) := by decide +kernel
theorem dX0_tick_30 : decode cX0_tick 30 = .ok (.iinc 1 1, 3) := by decide +kernel
theorem dX0_tick_33 : decode cX0_tick 33 = .ok (.goto (-31), 3) := by decide +kernel
theorem dX0_tick_36 : decode cX0_tick 36 = .ok (.aload_n 0, 1) := by decide +kernel
theorem dX0_tick_37 : decode cX0_tick 37 = .ok (.invokevirtual 48, 3) := by decide +kernel
theorem dX0_tick_40 : decode cX0_tick 40 = .ok (.istore_n 1, 1) := by decide +kernel
theorem dX0_tick_41 : decode cX0_tick 41 = .ok (.iconst 0, 1) := by decide +kernel
theorem dX0_tick_42 : decode cX0_tick 42 = .ok (.istore_n 2, 1) := by decide +kernel
theorem dX0_tick_43 : decode cX0_tick 43 = .ok (.iload_n 2, 1) := by decide +kernel
theorem dX0_tick_44 : decode cX0_tick 44 = .ok (.aload_n 0, 1) := by decide +kernel
theorem dX0_tick_45 : decode cX0_tick 45 = .ok (.getfield 15, 3) := by decide +kernel
theorem dX0_tick_48 : decode cX0_tick 48 = .ok (.getfield 52, 3) := by decide +kernel
theorem dX0_tick_51 : decode cX0_tick 51 = .ok (.if_icmp .ge 56, 3) := by decide +kernel
theorem dX0_tick_54 : decode cX0_tick 54 = .ok (.iload_n 1, 1) := by decide +kernel
theorem dX0_tick_55 : decode cX0_tick 55 = .ok (.iload_n 2, 1) := by decide +kernel
theorem dX0_tick_56 : decode cX0_tick 56 = .ok (.invokestatic 56, 3) := by decide +kernel
theorem dX0_tick_59 : decode cX0_tick 59 = .ok (.ifCond .eq 42, 3) := by decide +kernel
theorem dX0_tick_62 : decode cX0_tick 62 = .ok (.aload_n 0, 1) := by decide +kernel
theorem dX0_tick_63 : decode cX0_tick 63 = .ok (.iload_n 2, 1) := by decide +kernel
theorem dX0_tick_64 : decode cX0_tick 64 = .ok (.invokevirtual 60, 3) := by decide +kernel
theorem dX0_tick_67 : decode cX0_tick 67 = .ok (.aload_n 0, 1) := by decide +kernel
theorem dX0_tick_68 : decode cX0_tick 68 = .ok (.getfield 15, 3) := by decide +kernel
theorem dX0_tick_71 : decode cX0_tick 71 = .ok (.getfield 63, 3) := by decide +kernel
theorem dX0_tick_74 : decode cX0_tick 74 = .ok (.if_icmp .le 27, 3) := by decide +kernel
theorem dX0_tick_77 : decode cX0_tick 77 = .ok (.aload_n 0, 1) := by decide +kernel
theorem dX0_tick_78 : decode cX0_tick 78 = .ok (.getfield 19, 3) := by decide +kernel
theorem dX0_tick_81 : decode cX0_tick 81 = .ok (.aload_n 0, 1) := by decide +kernel
theorem dX0_tick_82 : decode cX0_tick 82 = .ok (.getfield 15, 3) := by decide +kernel
theorem dX0_tick_85 : decode cX0_tick 85 = .ok (.aload_n 0, 1) := by decide +kernel
theorem dX0_tick_86 : decode cX0_tick 86 = .ok (.getfield 19, 3) := by decide +kernel
theorem dX0_tick_89 : decode cX0_tick 89 = .ok (.iload_n 2, 1) := by decide +kernel
theorem dX0_tick_90 : decode cX0_tick 90 = .ok (.invokevirtual 23, 3) := by decide +kernel
theorem dX0_tick_93 : decode cX0_tick 93 = .ok (.invokevirtual 66, 3) := by decide +kernel
theorem dX0_tick_96 : decode cX0_tick 96 = .ok (.bipush (-2), 2) := by decide +kernel
theorem dX0_tick_98 : decode cX0_tick 98 = .ok (.invokevirtual 69, 3) := by decide +kernel
theorem dX0_tick_101 : decode cX0_tick 101 = .ok (.iinc 2 1, 3) := by decide +kernel
theorem dX0_tick_104 : decode cX0_tick 104 = .ok (.goto (-61), 3) := by decide +kernel
theorem dX0_tick_107 : decode cX0_tick 107 = .ok (.aload_n 0, 1) := by decide +kernel
theorem dX0_tick_108 : decode cX0_tick 108 = .ok (.getfield 19, 3) := by decide +kernel
theorem dX0_tick_111 : decode cX0_tick 111 = .ok (.dup, 1) := by decide +kernel
theorem dX0_tick_112 : decode cX0_tick 112 = .ok (.getfield 73, 3) := by decide +kernel
theorem dX0_tick_115 : decode cX0_tick 115 = .ok (.iconst 1, 1) := by decide +kernel
theorem dX0_tick_116 : decode cX0_tick 116 = .ok (.iadd, 1) := by decide +kernel
theorem dX0_tick_117 : decode cX0_tick 117 = .ok (.putfield 73, 3) := by decide +kernel
theorem dX0_tick_120 : decode cX0_tick 120 = .ok (.return_, 1) := by decide +kernel
theorem dX0_countMeetings_0 : decode cX0_countMeetings 0 = .ok (.iconst 0, 1) := by decide +kernel
theorem dX0_countMeetings_1 : decode cX0_countMeetings 1 = .ok (.istore_n 1, 1) := by decide +kernel
theorem dX0_countMeetings_2 : decode cX0_countMeetings 2 = .ok (.iconst 0, 1) := by decide +kernel
theorem dX0_countMeetings_3 : decode cX0_countMeetings 3 = .ok (.istore_n 2, 1) := by decide +kernel
theorem dX0_countMeetings_4 : decode cX0_countMeetings 4 = .ok (.iload_n 2, 1) := by decide +kernel
theorem dX0_countMeetings_5 : decode cX0_countMeetings 5 = .ok (.aload_n 0, 1) := by decide +kernel
theorem dX0_countMeetings_6 : decode cX0_countMeetings 6 = .ok (.getfield 15, 3) := by decide +kernel
theorem dX0_countMeetings_9 : decode cX0_countMeetings 9 = .ok (.getfield 52, 3) := by decide +kernel
theorem dX0_countMeetings_12 : decode cX0_countMeetings 12 = .ok (.if_icmp .ge 80, 3) := by decide +kernel
theorem dX0_countMeetings_15 : decode cX0_countMeetings 15 = .ok (.iload_n 2, 1) := by decide +kernel
theorem dX0_countMeetings_16 : decode cX0_countMeetings 16 = .ok (.iconst 1, 1) := by decide +kernel
theorem dX0_countMeetings_17 : decode cX0_countMeetings 17 = .ok (.iadd, 1) := by decide +kernel
theorem dX0_countMeetings_18 : decode cX0_countMeetings 18 = .ok (.istore_n 3, 1) := by decide +kernel
theorem dX0_countMeetings_19 : decode cX0_countMeetings 19 = .ok (.iload_n 3, 1) := by decide +kernel
theorem dX0_countMeetings_20 : decode cX0_countMeetings 20 = .ok (.aload_n 0, 1) := by decide +kernel
theorem dX0_countMeetings_21 : decode cX0_countMeetings 21 = .ok (.getfield 15, 3) := by decide +kernel
theorem dX0_countMeetings_24 : decode cX0_countMeetings 24 = .ok (.getfield 52, 3) := by decide +kernel
theorem dX0_countMeetings_27 : decode cX0_countMeetings 27 = .ok (.if_icmp .ge 59, 3) := by decide +kernel
theorem dX0_countMeetings_30 : decode cX0_countMeetings 30 = .ok (.aload_n 0, 1) := by decide +kernel
theorem dX0_countMeetings_31 : decode cX0_countMeetings 31 = .ok (.iload_n 2, 1) := by decide +kernel
theorem dX0_countMeetings_32 : decode cX0_countMeetings 32 = .ok (.iload_n 3, 1) := by decide +kernel
theorem dX0_countMeetings_33 : decode cX0_countMeetings 33 = .ok (.invokevirtual 76, 3) := by decide +kernel
theorem dX0_countMeetings_36 : decode cX0_countMeetings 36 = .ok (.ifCond .ne 6, 3) := by decide +kernel
theorem dX0_countMeetings_39 : decode cX0_countMeetings 39 = .ok (.goto 41, 3) := by decide +kernel
theorem dX0_countMeetings_42 : decode cX0_countMeetings 42 = .ok (.aload_n 0, 1) := by decide +kernel
theorem dX0_countMeetings_43 : decode cX0_countMeetings 43 = .ok (.getfield 19, 3) := by decide +kernel
theorem dX0_countMeetings_46 : decode cX0_countMeetings 46 = .ok (.dup, 1) := by decide +kernel
theorem dX0_countMeetings_47 : decode cX0_countMeetings 47 = .ok (.getfield 79, 3) := by decide +kernel
theorem dX0_countMeetings_50 : decode cX0_countMeetings 50 = .ok (.iconst 1, 1) := by decide +kernel
theorem dX0_countMeetings_51 : decode cX0_countMeetings 51 = .ok (.iadd, 1) := by decide +kernel
theorem dX0_countMeetings_52 : decode cX0_countMeetings 52 = .ok (.putfield 79, 3) := by decide +kernel
theorem dX0_countMeetings_55 : decode cX0_countMeetings 55 = .ok (.aload_n 0, 1) := by decide +kernel
theorem dX0_countMeetings_56 : decode cX0_countMeetings 56 = .ok (.getfield 19, 3) := by decide +kernel
theorem dX0_countMeetings_59 : decode cX0_countMeetings 59 = .ok (.iload_n 2, 1) := by decide +kernel
theorem dX0_countMeetings_60 : decode cX0_countMeetings 60 = .ok (.invokevirtual 82, 3) := by decide +kernel
theorem dX0_countMeetings_63 : decode cX0_countMeetings 63 = .ok (.iload_n 3, 1) := by decide +kernel
theorem dX0_countMeetings_64 : decode cX0_countMeetings 64 = .ok (.invokestatic 56, 3) := by decide +kernel
theorem dX0_countMeetings_67 : decode cX0_countMeetings 67 = .ok (.ifCond .ne 13, 3) := by decide +kernel
theorem dX0_countMeetings_70 : decode cX0_countMeetings 70 = .ok (.iload_n 1, 1) := by decide +kernel
theorem dX0_countMeetings_71 : decode cX0_countMeetings 71 = .ok (.iconst 1, 1) := by decide +kernel
theorem dX0_countMeetings_72 : decode cX0_countMeetings 72 = .ok (.iload_n 2, 1) := by decide +kernel
theorem dX0_countMeetings_73 : decode cX0_countMeetings 73 = .ok (.ishl, 1) := by decide +kernel
theorem dX0_countMeetings_74 : decode cX0_countMeetings 74 = .ok (.iconst 1, 1) := by decide +kernel
theorem dX0_countMeetings_75 : decode cX0_countMeetings 75 = .ok (.iload_n 3, 1) := by decide +kernel
theorem dX0_countMeetings_76 : decode cX0_countMeetings 76 = .ok (.ishl, 1) := by decide +kernel
theorem dX0_countMeetings_77 : decode cX0_countMeetings 77 = .ok (.ior, 1) := by decide +kernel
theorem dX0_countMeetings_78 : decode cX0_countMeetings 78 = .ok (.ior, 1) := by decide +kernel
theorem dX0_countMeetings_79 : decode cX0_countMeetings 79 = .ok (.istore_n 1, 1) := by decide +kernel
theorem dX0_countMeetings_80 : decode cX0_countMeetings 80 = .ok (.iinc 3 1, 3) := by decide +kernel
theorem dX0_countMeetings_83 : decode cX0_countMeetings 83 = .ok (.goto (-64), 3) := by decide +kernel
theorem dX0_countMeetings_86 : decode cX0_countMeetings 86 = .ok (.iinc 2 1, 3) := by decide +kernel
theorem dX0_countMeetings_89 : decode cX0_countMeetings 89 = .ok (.goto (-85), 3) := by decide +kernel
theorem dX0_countMeetings_92 : decode cX0_countMeetings 92 = .ok (.iload_n 1, 1) := by decide +kernel
theorem dX0_countMeetings_93 : decode cX0_countMeetings 93 = .ok (.ireturn, 1) := by decide +kernel
theorem dX0_haveMet_0 : decode cX0_haveMet 0 = .ok (.aload_n 0, 1) := by decide +kernel
theorem dX0_haveMet_1 : decode cX0_haveMet 1 = .ok (.getfield 15, 3) := by decide +kernel
theorem dX0_haveMet_4 : decode cX0_haveMet 4 = .ok (.iload_n 1, 1) := by decide +kernel
theorem dX0_haveMet_5 : decode cX0_haveMet 5 = .ok (.iload_n 2, 1) := by decide +kernel
theorem dX0_haveMet_6 : decode cX0_haveMet 6 = .ok (.invokevirtual 85, 3) := by decide +kernel
theorem dX0_haveMet_9 : decode cX0_haveMet 9 = .ok (.ifCond .ne 5, 3) := by decide +kernel
theorem dX0_haveMet_12 : decode cX0_haveMet 12 = .ok (.iconst 0, 1) := by decide +kernel
theorem dX0_haveMet_13 : decode cX0_haveMet 13 = .ok (.ireturn, 1) := by decide +kernel
theorem dX0_haveMet_14 : decode cX0_haveMet 14 = .ok (.aload_n 0, 1) := by decide +kernel
theorem dX0_haveMet_15 : decode cX0_haveMet 15 = .ok (.getfield 9, 3) := by decide +kernel
theorem dX0_haveMet_18 : decode cX0_haveMet 18 = .ok (.iload_n 1, 1) := by decide +kernel
theorem dX0_haveMet_19 : decode cX0_haveMet 19 = .ok (.iaload, 1) := by decide +kernel
theorem dX0_haveMet_20 : decode cX0_haveMet 20 = .ok (.aload_n 0, 1) := by decide +kernel
theorem dX0_haveMet_21 : decode cX0_haveMet 21 = .ok (.getfield 19, 3) := by decide +kernel
theorem dX0_haveMet_24 : decode cX0_haveMet 24 = .ok (.getfield 41, 3) := by decide +kernel
theorem dX0_haveMet_27 : decode cX0_haveMet 27 = .ok (.iload_n 1, 1) := by decide +kernel
theorem dX0_haveMet_28 : decode cX0_haveMet 28 = .ok (.iaload, 1) := by decide +kernel
theorem dX0_haveMet_29 : decode cX0_haveMet 29 = .ok (.aload_n 0, 1) := by decide +kernel
theorem dX0_haveMet_30 : decode cX0_haveMet 30 = .ok (.getfield 9, 3) := by decide +kernel
theorem dX0_haveMet_33 : decode cX0_haveMet 33 = .ok (.iload_n 2, 1) := by decide +kernel
theorem dX0_haveMet_34 : decode cX0_haveMet 34 = .ok (.iaload, 1) := by decide +kernel
theorem dX0_haveMet_35 : decode cX0_haveMet 35 = .ok (.aload_n 0, 1) := by decide +kernel
theorem dX0_haveMet_36 : decode cX0_haveMet 36 = .ok (.getfield 19, 3) := by decide +kernel
theorem dX0_haveMet_39 : decode cX0_haveMet 39 = .ok (.getfield 41, 3) := by decide +kernel
theorem dX0_haveMet_42 : decode cX0_haveMet 42 = .ok (.iload_n 2, 1) := by decide +kernel
theorem dX0_haveMet_43 : decode cX0_haveMet 43 = .ok (.iaload, 1) := by decide +kernel
theorem dX0_haveMet_44 : decode cX0_haveMet 44 = .ok (.invokestatic 88, 3) := by decide +kernel
theorem dX0_haveMet_47 : decode cX0_haveMet 47 = .ok (.ireturn, 1) := by decide +kernel
theorem dX0_meetBetween_0 : decode cX0_meetBetween 0 = .ok (.iload_n 0, 1) := by decide +kernel
theorem dX0_meetBetween_1 : decode cX0_meetBetween 1 = .ok (.iload_n 1, 1) := by decide +kernel
theorem dX0_meetBetween_2 : decode cX0_meetBetween 2 = .ok (.if_icmp .ne 8, 3) := by decide +kernel
theorem dX0_meetBetween_5 : decode cX0_meetBetween 5 = .ok (.iload_n 2, 1) := by decide +kernel
theorem dX0_meetBetween_6 : decode cX0_meetBetween 6 = .ok (.iload_n 3, 1) := by decide +kernel
theorem dX0_meetBetween_7 : decode cX0_meetBetween 7 = .ok (.if_icmp .eq 7, 3) := by decide +kernel
theorem dX0_meetBetween_10 : decode cX0_meetBetween 10 = .ok (.iconst 1, 1) := by decide +kernel
theorem dX0_meetBetween_11 : decode cX0_meetBetween 11 = .ok (.goto 4, 3) := by decide +kernel
theorem dX0_meetBetween_14 : decode cX0_meetBetween 14 = .ok (.iconst 0, 1) := by decide +kernel
theorem dX0_meetBetween_15 : decode cX0_meetBetween 15 = .ok (.istore 4, 2) := by decide +kernel
theorem dX0_meetBetween_17 : decode cX0_meetBetween 17 = .ok (.iload 4, 2) := by decide +kernel
theorem dX0_meetBetween_19 : decode cX0_meetBetween 19 = .ok (.ifCond .eq 22, 3) := by decide +kernel
theorem dX0_meetBetween_22 : decode cX0_meetBetween 22 = .ok (.iload_n 1, 1) := by decide +kernel
theorem dX0_meetBetween_23 : decode cX0_meetBetween 23 = .ok (.iload_n 3, 1) := by decide +kernel
theorem dX0_meetBetween_24 : decode cX0_meetBetween 24 = .ok (.if_icmp .eq 13, 3) := by decide +kernel
theorem dX0_meetBetween_27 : decode cX0_meetBetween 27 = .ok (.iload_n 1, 1) := by decide +kernel
theorem dX0_meetBetween_28 : decode cX0_meetBetween 28 = .ok (.iload_n 2, 1) := by decide +kernel
theorem dX0_meetBetween_29 : decode cX0_meetBetween 29 = .ok (.if_icmp .ne 12, 3) := by decide +kernel
theorem dX0_meetBetween_32 : decode cX0_meetBetween 32 = .ok (.iload_n 3, 1) := by decide +kernel
theorem dX0_meetBetween_33 : decode cX0_meetBetween 33 = .ok (.iload_n 0, 1) := by decide +kernel
theorem dX0_meetBetween_34 : decode cX0_meetBetween 34 = .ok (.if_icmp .ne 7, 3) := by decide +kernel
theorem dX0_meetBetween_37 : decode cX0_meetBetween 37 = .ok (.iconst 1, 1) := by decide +kernel
theorem dX0_meetBetween_38 : decode cX0_meetBetween 38 = .ok (.goto 4, 3) := by decide +kernel
theorem dX0_meetBetween_41 : decode cX0_meetBetween 41 = .ok (.iconst 0, 1) := by decide +kernel
theorem dX0_meetBetween_42 : decode cX0_meetBetween 42 = .ok (.ireturn, 1) := by decide +kernel
theorem dX0_drawRoute_0 : decode cX0_drawRoute 0 = .ok (.aload_n 0, 1) := by decide +kernel
theorem dX0_drawRoute_1 : decode cX0_drawRoute 1 = .ok (.getfield 15, 3) := by decide +kernel
theorem dX0_drawRoute_4 : decode cX0_drawRoute 4 = .ok (.getfield 52, 3) := by decide +kernel
theorem dX0_drawRoute_7 : decode cX0_drawRoute 7 = .ok (.ifCond .ne 4, 3) := by decide +kernel
theorem dX0_drawRoute_10 : decode cX0_drawRoute 10 = .ok (.return_, 1) := by decide +kernel
theorem dX0_drawRoute_11 : decode cX0_drawRoute 11 = .ok (.aload_n 0, 1) := by decide +kernel
theorem dX0_drawRoute_12 : decode cX0_drawRoute 12 = .ok (.aload_n 0, 1) := by decide +kernel
theorem dX0_drawRoute_13 : decode cX0_drawRoute 13 = .ok (.getfield 15, 3) := by decide +kernel
theorem dX0_drawRoute_16 : decode cX0_drawRoute 16 = .ok (.getfield 52, 3) := by decide +kernel
theorem dX0_drawRoute_19 : decode cX0_drawRoute 19 = .ok (.invokevirtual 92, 3) := by decide +kernel
theorem dX0_drawRoute_22 : decode cX0_drawRoute 22 = .ok (.istore_n 1, 1) := by decide +kernel
theorem dX0_drawRoute_23 : decode cX0_drawRoute 23 = .ok (.aload_n 0, 1) := by decide +kernel
theorem dX0_drawRoute_24 : decode cX0_drawRoute 24 = .ok (.getfield 15, 3) := by decide +kernel
theorem dX0_drawRoute_27 : decode cX0_drawRoute 27 = .ok (.aload_n 0, 1) := by decide +kernel
theorem dX0_drawRoute_28 : decode cX0_drawRoute 28 = .ok (.getfield 19, 3) := by decide +kernel
theorem dX0_drawRoute_31 : decode cX0_drawRoute 31 = .ok (.iload_n 1, 1) := by decide +kernel
theorem dX0_drawRoute_32 : decode cX0_drawRoute 32 = .ok (.invokevirtual 95, 3) := by decide +kernel
theorem dX0_drawRoute_35 : decode cX0_drawRoute 35 = .ok (.invokevirtual 98, 3) := by decide +kernel
theorem dX0_drawRoute_38 : decode cX0_drawRoute 38 = .ok (.istore_n 2, 1) := by decide +kernel
theorem dX0_drawRoute_39 : decode cX0_drawRoute 39 = .ok (.aload_n 0, 1) := by decide +kernel
theorem dX0_drawRoute_40 : decode cX0_drawRoute 40 = .ok (.getfield 19, 3) := by decide +kernel
theorem dX0_drawRoute_43 : decode cX0_drawRoute 43 = .ok (.iload_n 1, 1) := by decide +kernel
theorem dX0_drawRoute_44 : decode cX0_drawRoute 44 = .ok (.invokevirtual 101, 3) := by decide +kernel
theorem dX0_drawRoute_47 : decode cX0_drawRoute 47 = .ok (.ifCond .ne 29, 3) := by decide +kernel
theorem dX0_drawRoute_50 : decode cX0_drawRoute 50 = .ok (.iload_n 2, 1) := by decide +kernel
theorem dX0_drawRoute_51 : decode cX0_drawRoute 51 = .ok (.ifCond .eq 25, 3) := by decide +kernel
theorem dX0_drawRoute_54 : decode cX0_drawRoute 54 = .ok (.aload_n 0, 1) := by decide +kernel
theorem dX0_drawRoute_55 : decode cX0_drawRoute 55 = .ok (.getfield 19, 3) := by decide +kernel
theorem dX0_drawRoute_58 : decode cX0_drawRoute 58 = .ok (.iload_n 1, 1) := by decide +kernel
theorem dX0_drawRoute_59 : decode cX0_drawRoute 59 = .ok (.iload_n 2, 1) := by decide +kernel
theorem dX0_drawRoute_60 : decode cX0_drawRoute 60 = .ok (.aload_n 0, 1) := by decide +kernel
theorem dX0_drawRoute_61 : decode cX0_drawRoute 61 = .ok (.iload_n 2, 1) := by decide +kernel
theorem dX0_drawRoute_62 : decode cX0_drawRoute 62 = .ok (.invokestatic 104, 3) := by decide +kernel
theorem dX0_drawRoute_65 : decode cX0_drawRoute 65 = .ok (.invokevirtual 92, 3) := by decide +kernel
theorem dX0_drawRoute_68 : decode cX0_drawRoute 68 = .ok (.invokestatic 109, 3) := by decide +kernel
theorem dX0_drawRoute_71 : decode cX0_drawRoute 71 = .ok (.iconst 1, 1) := by decide +kernel
theorem dX0_drawRoute_72 : decode cX0_drawRoute 72 = .ok (.iadd, 1) := by decide +kernel
theorem dX0_drawRoute_73 : decode cX0_drawRoute 73 = .ok (.invokevirtual 112, 3) := by decide +kernel
theorem dX0_drawRoute_76 : decode cX0_drawRoute 76 = .ok (.return_, 1) := by decide +kernel
theorem dX0_draw_0 : decode cX0_draw 0 = .ok (.aload_n 0, 1) := by decide +kernel
theorem dX0_draw_1 : decode cX0_draw 1 = .ok (.aload_n 0, 1) := by decide +kernel
theorem dX0_draw_2 : decode cX0_draw 2 = .ok (.getfield 115, 3) := by decide +kernel
theorem dX0_draw_5 : decode cX0_draw 5 = .ok (.i2l, 1) := by decide +kernel
theorem dX0_draw_6 : decode cX0_draw 6 = .ok (.ldc2_w 118, 3) := by decide +kernel
theorem dX0_draw_9 : decode cX0_draw 9 = .ok (.lmul, 1) := by decide +kernel
theorem dX0_draw_10 : decode cX0_draw 10 = .ok (.ldc2_w 120, 3) := by decide +kernel
theorem dX0_draw_13 : decode cX0_draw 13 = .ok (.ladd, 1) := by decide +kernel
theorem dX0_draw_14 : decode cX0_draw 14 = .ok (.ldc2_w 122, 3) := by decide +kernel
theorem dX0_draw_17 : decode cX0_draw 17 = .ok (.lrem, 1) := by decide +kernel
theorem dX0_draw_18 : decode cX0_draw 18 = .ok (.l2i, 1) := by decide +kernel
theorem dX0_draw_19 : decode cX0_draw 19 = .ok (.putfield 115, 3) := by decide +kernel
theorem dX0_draw_22 : decode cX0_draw 22 = .ok (.iload_n 1, 1) := by decide +kernel
theorem dX0_draw_23 : decode cX0_draw 23 = .ok (.ifCond .le 15, 3) := by decide +kernel
theorem dX0_draw_26 : decode cX0_draw 26 = .ok (.aload_n 0, 1) := by decide +kernel
theorem dX0_draw_27 : decode cX0_draw 27 = .ok (.getfield 115, 3) := by decide +kernel
theorem dX0_draw_30 : decode cX0_draw 30 = .ok (.ldc 124, 2) := by decide +kernel
theorem dX0_draw_32 : decode cX0_draw 32 = .ok (.idiv, 1) := by decide +kernel
theorem dX0_draw_33 : decode cX0_draw 33 = .ok (.iload_n 1, 1) := by decide +kernel
theorem dX0_draw_34 : decode cX0_draw 34 = .ok (.irem, 1) := by decide +kernel
theorem dX0_draw_35 : decode cX0_draw 35 = .ok (.goto 4, 3) := by decide +kernel
theorem dX0_draw_38 : decode cX0_draw 38 = .ok (.iconst 0, 1) := by decide +kernel
theorem dX0_draw_39 : decode cX0_draw 39 = .ok (.ireturn, 1) := by decide +kernel
theorem dX0_memberOf_0 : decode cX0_memberOf 0 = .ok (.iload_n 1, 1) := by decide +kernel
theorem dX0_memberOf_1 : decode cX0_memberOf 1 = .ok (.istore_n 2, 1) := by decide +kernel
theorem dX0_memberOf_2 : decode cX0_memberOf 2 = .ok (.iconst 0, 1) := by decide +kernel
theorem dX0_memberOf_3 : decode cX0_memberOf 3 = .ok (.istore_n 3, 1) := by decide +kernel
theorem dX0_memberOf_4 : decode cX0_memberOf 4 = .ok (.iload_n 3, 1) := by decide +kernel
theorem dX0_memberOf_5 : decode cX0_memberOf 5 = .ok (.bipush 8, 2) := by decide +kernel
theorem dX0_memberOf_7 : decode cX0_memberOf 7 = .ok (.if_icmp .ge 26, 3) := by decide +kernel
theorem dX0_memberOf_10 : decode cX0_memberOf 10 = .ok (.iload_n 0, 1) := by decide +kernel
theorem dX0_memberOf_11 : decode cX0_memberOf 11 = .ok (.iload_n 3, 1) := by decide +kernel
theorem dX0_memberOf_12 : decode cX0_memberOf 12 = .ok (.invokestatic 56, 3) := by decide +kernel
theorem dX0_memberOf_15 : decode cX0_memberOf 15 = .ok (.ifCond .eq 12, 3) := by decide +kernel
theorem dX0_memberOf_18 : decode cX0_memberOf 18 = .ok (.iload_n 2, 1) := by decide +kernel
theorem dX0_memberOf_19 : decode cX0_memberOf 19 = .ok (.ifCond .ne 5, 3) := by decide +kernel
theorem dX0_memberOf_22 : decode cX0_memberOf 22 = .ok (.iload_n 3, 1) := by decide +kernel
theorem dX0_memberOf_23 : decode cX0_memberOf 23 = .ok (.ireturn, 1) := by decide +kernel
theorem dX0_memberOf_24 : decode cX0_memberOf 24 = .ok (.iinc 2 (-1), 3) := by decide +kernel
theorem dX0_memberOf_27 : decode cX0_memberOf 27 = .ok (.iinc 3 1, 3) := by decide +kernel
theorem dX0_memberOf_30 : decode cX0_memberOf 30 = .ok (.goto (-26), 3) := by decide +kernel
theorem dX0_memberOf_33 : decode cX0_memberOf 33 = .ok (.iconst (-1), 1) := by decide +kernel
theorem dX0_memberOf_34 : decode cX0_memberOf 34 = .ok (.ireturn, 1) := by decide +kernel
theorem dX1_init_0 : decode cX1_init 0 = .ok (.aload_n 0, 1) := by decide +kernel
theorem dX1_init_1 : decode cX1_init 1 = .ok (.invokespecial 3, 3) := by decide +kernel
theorem dX1_init_4 : decode cX1_init 4 = .ok (.aload_n 0, 1) := by decide +kernel
theorem dX1_init_5 : decode cX1_init 5 = .ok (.bipush 84, 2) := by decide +kernel
theorem dX1_init_7 : decode cX1_init 7 = .ok (.newarray .int, 2) := by decide +kernel
theorem dX1_init_9 : decode cX1_init 9 = .ok (.putfield 9, 3) := by decide +kernel
theorem dX1_init_12 : decode cX1_init 12 = .ok (.aload_n 0, 1) := by decide +kernel
theorem dX1_init_13 : decode cX1_init 13 = .ok (.iconst 4, 1) := by decide +kernel
theorem dX1_init_14 : decode cX1_init 14 = .ok (.newarray .int, 2) := by decide +kernel
theorem dX1_init_16 : decode cX1_init 16 = .ok (.putfield 15, 3) := by decide +kernel
theorem dX1_init_19 : decode cX1_init 19 = .ok (.aload_n 0, 1) := by decide +kernel
theorem dX1_init_20 : decode cX1_init 20 = .ok (.bipush 16, 2) := by decide +kernel
theorem dX1_init_22 : decode cX1_init 22 = .ok (.newarray .int, 2) := by decide +kernel
theorem dX1_init_24 : decode cX1_init 24 = .ok (.putfield 18, 3) := by decide +kernel
theorem dX1_init_27 : decode cX1_init 27 = .ok (.aload_n 0, 1) := by decide +kernel
theorem dX1_init_28 : decode cX1_init 28 = .ok (.iconst 4, 1) := by decide +kernel
theorem dX1_init_29 : decode cX1_init 29 = .ok (.newarray .int, 2) := by decide +kernel
theorem dX1_init_31 : decode cX1_init 31 = .ok (.putfield 21, 3) := by decide +kernel
theorem dX1_init_34 : decode cX1_init 34 = .ok (.aload_n 0, 1) := by decide +kernel
theorem dX1_init_35 : decode cX1_init 35 = .ok (.iconst 4, 1) := by decide +kernel
theorem dX1_init_36 : decode cX1_init 36 = .ok (.newarray .int, 2) := by decide +kernel
theorem dX1_init_38 : decode cX1_init 38 = .ok (.putfield 24, 3) := by decide +kernel
theorem dX1_init_41 : decode cX1_init 41 = .ok (.aload_n 0, 1) := by decide +kernel
theorem dX1_init_42 : decode cX1_init 42 = .ok (.aload_n 1, 1) := by decide +kernel
theorem dX1_init_43 : decode cX1_init 43 = .ok (.putfield 27, 3) := by decide +kernel
theorem dX1_init_46 : decode cX1_init 46 = .ok (.aload_n 0, 1) := by decide +kernel
theorem dX1_init_47 : decode cX1_init 47 = .ok (.aload_n 2, 1) := by decide +kernel
theorem dX1_init_48 : decode cX1_init 48 = .ok (.putfield 31, 3) := by decide +kernel
theorem dX1_init_51 : decode cX1_init 51 = .ok (.return_, 1) := by decide +kernel
theorem dX1_firstMeeting_0 : decode cX1_firstMeeting 0 = .ok (.aload_n 0, 1) := by decide +kernel
theorem dX1_firstMeeting_1 : decode cX1_firstMeeting 1 = .ok (.invokevirtual 35, 3) := by decide +kernel
theorem dX1_firstMeeting_4 : decode cX1_firstMeeting 4 = .ok (.aload_n 0, 1) := by decide +kernel
theorem dX1_firstMeeting_5 : decode cX1_firstMeeting 5 = .ok (.iload_n 1, 1) := by decide +kernel
theorem dX1_firstMeeting_6 : decode cX1_firstMeeting 6 = .ok (.iconst 0, 1) := by decide +kernel
theorem dX1_firstMeeting_7 : decode cX1_firstMeeting 7 = .ok (.iload_n 2, 1) := by decide +kernel
theorem dX1_firstMeeting_8 : decode cX1_firstMeeting 8 = .ok (.iconst 0, 1) := by decide +kernel
theorem dX1_firstMeeting_9 : decode cX1_firstMeeting 9 = .ok (.invokevirtual 38, 3) := by decide +kernel
theorem dX1_firstMeeting_12 : decode cX1_firstMeeting 12 = .ok (.ireturn, 1) := by decide +kernel
theorem dX1_answer_0 : decode cX1_answer 0 = .ok (.iload_n 1, 1) := by decide +kernel
theorem dX1_answer_1 : decode cX1_answer 1 = .ok (.iconst (-1), 1) := by decide +kernel
theorem dX1_answer_2 : decode cX1_answer 2 = .ok (.if_icmp .eq 11, 3) := by decide +kernel
theorem dX1_answer_5 : decode cX1_answer 5 = .ok (.aload_n 0, 1) := by decide +kernel
theorem dX1_answer_6 : decode cX1_answer 6 = .ok (.getfield 42, 3) := by decide +kernel
theorem dX1_answer_9 : decode cX1_answer 9 = .ok (.iconst (-1), 1) := by decide +kernel
theorem dX1_answer_10 : decode cX1_answer 10 = .ok (.if_icmp .ne 8, 3) := by decide +kernel
theorem dX1_answer_13 : decode cX1_answer 13 = .ok (.aload_n 0, 1) := by decide +kernel
theorem dX1_answer_14 : decode cX1_answer 14 = .ok (.getfield 42, 3) := by decide +kernel
theorem dX1_answer_17 : decode cX1_answer 17 = .ok (.ireturn, 1) := by decide +kernel
theorem dX1_answer_18 : decode cX1_answer 18 = .ok (.aload_n 0, 1) := by decide +kernel
theorem dX1_answer_19 : decode cX1_answer 19 = .ok (.getfield 27, 3) := by decide +kernel
theorem dX1_answer_22 : decode cX1_answer 22 = .ok (.iload_n 1, 1) := by decide +kernel
theorem dX1_answer_23 : decode cX1_answer 23 = .ok (.invokevirtual 46, 3) := by decide +kernel
theorem dX1_answer_26 : decode cX1_answer 26 = .ok (.ifCond .eq 12, 3) := by decide +kernel
theorem dX1_answer_29 : decode cX1_answer 29 = .ok (.aload_n 0, 1) := by decide +kernel
theorem dX1_answer_30 : decode cX1_answer 30 = .ok (.getfield 24, 3) := by decide +kernel
theorem dX1_answer_33 : decode cX1_answer 33 = .ok (.iload_n 1, 1) := by decide +kernel
theorem dX1_answer_34 : decode cX1_answer 34 = .ok (.iaload, 1) := by decide +kernel
theorem dX1_answer_35 : decode cX1_answer 35 = .ok (.goto 5, 3) := by decide +kernel
theorem dX1_answer_38 : decode cX1_answer 38 = .ok (.ldc 52, 2) := by decide +kernel
theorem dX1_answer_40 : decode cX1_answer 40 = .ok (.ireturn, 1) := by decide +kernel
theorem dX1_seek_0 : decode cX1_seek 0 = .ok (.aload_n 0, 1) := by decide +kernel
theorem dX1_seek_1 : decode cX1_seek 1 = .ok (.invokevirtual 35, 3) := by decide +kernel
theorem dX1_seek_4 : decode cX1_seek 4 = .ok (.aload_n 0, 1) := by decide +kernel
theorem dX1_seek_5 : decode cX1_seek 5 = .ok (.invokevirtual 53, 3) := by decide +kernel
theorem dX1_seek_8 : decode cX1_seek 8 = .ok (.aload_n 0, 1) := by decide +kernel
theorem dX1_seek_9 : decode cX1_seek 9 = .ok (.iconst (-1), 1) := by decide +kernel
theorem dX1_seek_10 : decode cX1_seek 10 = .ok (.putfield 42, 3) := by decide +kernel
theorem dX1_seek_13 : decode cX1_seek 13 = .ok (.iconst 5, 1) := by decide +kernel
theorem dX1_seek_14 : decode cX1_seek 14 = .ok (.aload_n 0, 1) := by decide +kernel
theorem dX1_seek_15 : decode cX1_seek 15 = .ok (.getfield 27, 3) := by decide +kernel
theorem dX1_seek_18 : decode cX1_seek 18 = .ok (.getfield 56, 3) := by decide +kernel
theorem dX1_seek_21 : decode cX1_seek 21 = .ok (.invokestatic 59, 3) := by decide +kernel
theorem dX1_seek_24 : decode cX1_seek 24 = .ok (.istore_n 1, 1) := by decide +kernel
theorem dX1_seek_25 : decode cX1_seek 25 = .ok (.iconst 0, 1) := by decide +kernel
theorem dX1_seek_26 : decode cX1_seek 26 = .ok (.istore_n 2, 1) := by decide +kernel
theorem dX1_seek_27 : decode cX1_seek 27 = .ok (.iload_n 2, 1) := by decide +kernel
theorem dX1_seek_28 : decode cX1_seek 28 = .ok (.iload_n 1, 1) := by decide +kernel
theorem dX1_seek_29 : decode cX1_seek 29 = .ok (.if_icmp .ge 72, 3) := by decide +kernel
theorem dX1_seek_32 : decode cX1_seek 32 = .ok (.iload_n 2, 1) := by decide +kernel
theorem dX1_seek_33 : decode cX1_seek 33 = .ok (.iconst 5, 1) := by decide +kernel
theorem dX1_seek_34 : decode cX1_seek 34 = .ok (.aload_n 0, 1) := by decide +kernel
theorem dX1_seek_35 : decode cX1_seek 35 = .ok (.getfield 21, 3) := by decide +kernel
theorem dX1_seek_38 : decode cX1_seek 38 = .ok (.aload_n 0, 1) := by decide +kernel
theorem dX1_seek_39 : decode cX1_seek 39 = .ok (.getfield 27, 3) := by decide +kernel
theorem dX1_seek_42 : decode cX1_seek 42 = .ok (.getfield 56, 3) := by decide +kernel
theorem dX1_seek_45 : decode cX1_seek 45 = .ok (.invokestatic 63, 3) := by decide +kernel
theorem dX1_seek_48 : decode cX1_seek 48 = .ok (.aload_n 0, 1) := by decide +kernel
theorem dX1_seek_49 : decode cX1_seek 49 = .ok (.invokevirtual 67, 3) := by decide +kernel
theorem dX1_seek_52 : decode cX1_seek 52 = .ok (.istore_n 3, 1) := by decide +kernel
theorem dX1_seek_53 : decode cX1_seek 53 = .ok (.aload_n 0, 1) := by decide +kernel
theorem dX1_seek_54 : decode cX1_seek 54 = .ok (.getfield 42, 3) := by decide +kernel
theorem dX1_seek_57 : decode cX1_seek 57 = .ok (.iconst (-1), 1) := by decide +kernel
theorem dX1_seek_58 : decode cX1_seek 58 = .ok (.if_icmp .eq 11, 3) := by decide +kernel
theorem dX1_seek_61 : decode cX1_seek 61 = .ok (.iload_n 3, 1) := by decide +kernel
theorem dX1_seek_62 : decode cX1_seek 62 = .ok (.aload_n 0, 1) := by decide +kernel
theorem dX1_seek_63 : decode cX1_seek 63 = .ok (.getfield 42, 3) := by decide +kernel
theorem dX1_seek_66 : decode cX1_seek 66 = .ok (.if_icmp .ge 29, 3) := by decide +kernel
theorem dX1_seek_69 : decode cX1_seek 69 = .ok (.aload_n 0, 1) := by decide +kernel
theorem dX1_seek_70 : decode cX1_seek 70 = .ok (.invokevirtual 71, 3) := by decide +kernel
theorem dX1_seek_73 : decode cX1_seek 73 = .ok (.ifCond .ne 22, 3) := by decide +kernel
theorem dX1_seek_76 : decode cX1_seek 76 = .ok (.aload_n 0, 1) := by decide +kernel
theorem dX1_seek_77 : decode cX1_seek 77 = .ok (.iload_n 3, 1) := by decide +kernel
theorem dX1_seek_78 : decode cX1_seek 78 = .ok (.putfield 42, 3) := by decide +kernel
theorem dX1_seek_81 : decode cX1_seek 81 = .ok (.aload_n 0, 1) := by decide +kernel
theorem dX1_seek_82 : decode cX1_seek 82 = .ok (.getfield 21, 3) := by decide +kernel
theorem dX1_seek_85 : decode cX1_seek 85 = .ok (.iconst 0, 1) := by decide +kernel
theorem dX1_seek_86 : decode cX1_seek 86 = .ok (.aload_n 0, 1) := by decide +kernel
theorem dX1_seek_87 : decode cX1_seek 87 = .ok (.getfield 24, 3) := by decide +kernel
theorem dX1_seek_90 : decode cX1_seek 90 = .ok (.iconst 0, 1) := by decide +kernel
theorem dX1_seek_91 : decode cX1_seek 91 = .ok (.iconst 4, 1) := by decide +kernel
theorem dX1_seek_92 : decode cX1_seek 92 = .ok (.invokestatic 75, 3) := by decide +kernel
theorem dX1_seek_95 : decode cX1_seek 95 = .ok (.iinc 2 1, 3) := by decide +kernel
theorem dX1_seek_98 : decode cX1_seek 98 = .ok (.goto (-71), 3) := by decide +kernel
theorem dX1_seek_101 : decode cX1_seek 101 = .ok (.return_, 1) := by decide +kernel
theorem dX1_layTracks_0 : decode cX1_layTracks 0 = .ok (.iconst 0, 1) := by decide +kernel
theorem dX1_layTracks_1 : decode cX1_layTracks 1 = .ok (.istore_n 1, 1) := by decide +kernel
theorem dX1_layTracks_2 : decode cX1_layTracks 2 = .ok (.iload_n 1, 1) := by decide +kernel
theorem dX1_layTracks_3 : decode cX1_layTracks 3 = .ok (.iconst 4, 1) := by decide +kernel
theorem dX1_layTracks_4 : decode cX1_layTracks 4 = .ok (.if_icmp .ge 60, 3) := by decide +kernel
theorem dX1_layTracks_7 : decode cX1_layTracks 7 = .ok (.aload_n 0, 1) := by decide +kernel
theorem dX1_layTracks_8 : decode cX1_layTracks 8 = .ok (.getfield 15, 3) := by decide +kernel
theorem dX1_layTracks_11 : decode cX1_layTracks 11 = .ok (.iload_n 1, 1) := by decide +kernel
theorem dX1_layTracks_12 : decode cX1_layTracks 12 = .ok (.aload_n 0, 1) := by decide +kernel
theorem dX1_layTracks_13 : decode cX1_layTracks 13 = .ok (.getfield 31, 3) := by decide +kernel
theorem dX1_layTracks_16 : decode cX1_layTracks 16 = .ok (.iload_n 1, 1) := by decide +kernel
theorem dX1_layTracks_17 : decode cX1_layTracks 17 = .ok (.invokevirtual 81, 3) := by decide +kernel
theorem dX1_layTracks_20 : decode cX1_layTracks 20 = .ok (.invokestatic 87, 3) := by decide +kernel
theorem dX1_layTracks_23 : decode cX1_layTracks 23 = .ok (.iastore, 1) := by decide +kernel
theorem dX1_layTracks_24 : decode cX1_layTracks 24 = .ok (.iconst 0, 1) := by decide +kernel
theorem dX1_layTracks_25 : decode cX1_layTracks 25 = .ok (.istore_n 2, 1) := by decide +kernel
theorem dX1_layTracks_26 : decode cX1_layTracks 26 = .ok (.iload_n 2, 1) := by decide +kernel
theorem dX1_layTracks_27 : decode cX1_layTracks 27 = .ok (.bipush 20, 2) := by decide +kernel
theorem dX1_layTracks_29 : decode cX1_layTracks 29 = .ok (.if_icmp .gt 29, 3) := by decide +kernel
theorem dX1_layTracks_32 : decode cX1_layTracks 32 = .ok (.aload_n 0, 1) := by decide +kernel
theorem dX1_layTracks_33 : decode cX1_layTracks 33 = .ok (.getfield 9, 3) := by decide +kernel
theorem dX1_layTracks_36 : decode cX1_layTracks 36 = .ok (.iload_n 1, 1) := by decide +kernel
theorem dX1_layTracks_37 : decode cX1_layTracks 37 = .ok (.bipush 21, 2) := by decide +kernel
theorem dX1_layTracks_39 : decode cX1_layTracks 39 = .ok (.imul, 1) := by decide +kernel
theorem dX1_layTracks_40 : decode cX1_layTracks 40 = .ok (.iload_n 2, 1) := by decide +kernel
theorem dX1_layTracks_41 : decode cX1_layTracks 41 = .ok (.iadd, 1) := by decide +kernel
theorem dX1_layTracks_42 : decode cX1_layTracks 42 = .ok (.aload_n 0, 1) := by decide +kernel
theorem dX1_layTracks_43 : decode cX1_layTracks 43 = .ok (.getfield 31, 3) := by decide +kernel
theorem dX1_layTracks_46 : decode cX1_layTracks 46 = .ok (.iload_n 1, 1) := by decide +kernel
theorem dX1_layTracks_47 : decode cX1_layTracks 47 = .ok (.iload_n 2, 1) := by decide +kernel
theorem dX1_layTracks_48 : decode cX1_layTracks 48 = .ok (.invokevirtual 90, 3) := by decide +kernel
theorem dX1_layTracks_51 : decode cX1_layTracks 51 = .ok (.iastore, 1) := by decide +kernel
theorem dX1_layTracks_52 : decode cX1_layTracks 52 = .ok (.iinc 2 1, 3) := by decide +kernel
theorem dX1_layTracks_55 : decode cX1_layTracks 55 = .ok (.goto (-29), 3) := by decide +kernel
theorem dX1_layTracks_58 : decode cX1_layTracks 58 = .ok (.iinc 1 1, 3) := by decide +kernel
theorem dX1_layTracks_61 : decode cX1_layTracks 61 = .ok (.goto (-59), 3) := by decide +kernel
theorem dX1_layTracks_64 : decode cX1_layTracks 64 = .ok (.return_, 1) := by decide +kernel
theorem dX1_trackAt_0 : decode cX1_trackAt 0 = .ok (.aload_n 0, 1) := by decide +kernel
theorem dX1_trackAt_1 : decode cX1_trackAt 1 = .ok (.getfield 27, 3) := by decide +kernel
theorem dX1_trackAt_4 : decode cX1_trackAt 4 = .ok (.iload_n 1, 1) := by decide +kernel
theorem dX1_trackAt_5 : decode cX1_trackAt 5 = .ok (.invokevirtual 46, 3) := by decide +kernel
theorem dX1_trackAt_8 : decode cX1_trackAt 8 = .ok (.ifCond .eq 9, 3) := by decide +kernel
theorem dX1_trackAt_11 : decode cX1_trackAt 11 = .ok (.iload_n 2, 1) := by decide +kernel
theorem dX1_trackAt_12 : decode cX1_trackAt 12 = .ok (.bipush 20, 2) := by decide +kernel
theorem dX1_trackAt_14 : decode cX1_trackAt 14 = .ok (.if_icmp .le 5, 3) := by decide +kernel
theorem dX1_trackAt_17 : decode cX1_trackAt 17 = .ok (.iconst (-1), 1) := by decide +kernel
theorem dX1_trackAt_18 : decode cX1_trackAt 18 = .ok (.ireturn, 1) := by decide +kernel
theorem dX1_trackAt_19 : decode cX1_trackAt 19 = .ok (.aload_n 0, 1) := by decide +kernel
theorem dX1_trackAt_20 : decode cX1_trackAt 20 = .ok (.getfield 9, 3) := by decide +kernel
theorem dX1_trackAt_23 : decode cX1_trackAt 23 = .ok (.iload_n 1, 1) := by decide +kernel
theorem dX1_trackAt_24 : decode cX1_trackAt 24 = .ok (.bipush 21, 2) := by decide +kernel
theorem dX1_trackAt_26 : decode cX1_trackAt 26 = .ok (.imul, 1) := by decide +kernel
theorem dX1_trackAt_27 : decode cX1_trackAt 27 = .ok (.iload_n 2, 1) := by decide +kernel
theorem dX1_trackAt_28 : decode cX1_trackAt 28 = .ok (.iconst 0, 1) := by decide +kernel
theorem dX1_trackAt_29 : decode cX1_trackAt 29 = .ok (.invokestatic 93, 3) := by decide +kernel
theorem dX1_trackAt_32 : decode cX1_trackAt 32 = .ok (.iadd, 1) := by decide +kernel
theorem dX1_trackAt_33 : decode cX1_trackAt 33 = .ok (.iaload, 1) := by decide +kernel
theorem dX1_trackAt_34 : decode cX1_trackAt 34 = .ok (.ireturn, 1) := by decide +kernel
theorem dX1_meetingOf_0 : decode cX1_meetingOf 0 = .ok (.iconst 1, 1) := by decide +kernel
theorem dX1_meetingOf_1 : decode cX1_meetingOf 1 = .ok (.istore 5, 2) := by decide +kernel
theorem dX1_meetingOf_3 : decode cX1_meetingOf 3 = .ok (.iload 5, 2) := by decide +kernel
theorem dX1_meetingOf_5 : decode cX1_meetingOf 5 = .ok (.bipush 20, 2) := by decide +kernel
theorem dX1_meetingOf_7 : decode cX1_meetingOf 7 = .ok (.if_icmp .gt 68, 3) := by decide +kernel
theorem dX1_meetingOf_10 : decode cX1_meetingOf 10 = .ok (.aload_n 0, 1) := by decide +kernel
theorem dX1_meetingOf_11 : decode cX1_meetingOf 11 = .ok (.iload_n 1, 1) := by decide +kernel
theorem dX1_meetingOf_12 : decode cX1_meetingOf 12 = .ok (.iload 5, 2) := by decide +kernel
theorem dX1_meetingOf_14 : decode cX1_meetingOf 14 = .ok (.iconst 1, 1) := by decide +kernel
theorem dX1_meetingOf_15 : decode cX1_meetingOf 15 = .ok (.isub, 1) := by decide +kernel
theorem dX1_meetingOf_16 : decode cX1_meetingOf 16 = .ok (.iload_n 2, 1) := by decide +kernel
theorem dX1_meetingOf_17 : decode cX1_meetingOf 17 = .ok (.isub, 1) := by decide +kernel
theorem dX1_meetingOf_18 : decode cX1_meetingOf 18 = .ok (.invokevirtual 98, 3) := by decide +kernel
theorem dX1_meetingOf_21 : decode cX1_meetingOf 21 = .ok (.istore 6, 2) := by decide +kernel
theorem dX1_meetingOf_23 : decode cX1_meetingOf 23 = .ok (.aload_n 0, 1) := by decide +kernel
theorem dX1_meetingOf_24 : decode cX1_meetingOf 24 = .ok (.iload_n 3, 1) := by decide +kernel
theorem dX1_meetingOf_25 : decode cX1_meetingOf 25 = .ok (.iload 5, 2) := by decide +kernel
theorem dX1_meetingOf_27 : decode cX1_meetingOf 27 = .ok (.iconst 1, 1) := by decide +kernel
theorem dX1_meetingOf_28 : decode cX1_meetingOf 28 = .ok (.isub, 1) := by decide +kernel
theorem dX1_meetingOf_29 : decode cX1_meetingOf 29 = .ok (.iload 4, 2) := by decide +kernel
theorem dX1_meetingOf_31 : decode cX1_meetingOf 31 = .ok (.isub, 1) := by decide +kernel
theorem dX1_meetingOf_32 : decode cX1_meetingOf 32 = .ok (.invokevirtual 98, 3) := by decide +kernel
theorem dX1_meetingOf_35 : decode cX1_meetingOf 35 = .ok (.istore 7, 2) := by decide +kernel
theorem dX1_meetingOf_37 : decode cX1_meetingOf 37 = .ok (.iload 6, 2) := by decide +kernel
theorem dX1_meetingOf_39 : decode cX1_meetingOf 39 = .ok (.aload_n 0, 1) := by decide +kernel
theorem dX1_meetingOf_40 : decode cX1_meetingOf 40 = .ok (.iload_n 1, 1) := by decide +kernel
theorem dX1_meetingOf_41 : decode cX1_meetingOf 41 = .ok (.iload 5, 2) := by decide +kernel
theorem dX1_meetingOf_43 : decode cX1_meetingOf 43 = .ok (.iload_n 2, 1) := by decide +kernel
theorem dX1_meetingOf_44 : decode cX1_meetingOf 44 = .ok (.isub, 1) := by decide +kernel
theorem dX1_meetingOf_45 : decode cX1_meetingOf 45 = .ok (.invokevirtual 98, 3) := by decide +kernel
theorem dX1_meetingOf_48 : decode cX1_meetingOf 48 = .ok (.iload 7, 2) := by decide +kernel
theorem dX1_meetingOf_50 : decode cX1_meetingOf 50 = .ok (.aload_n 0, 1) := by decide +kernel
theorem dX1_meetingOf_51 : decode cX1_meetingOf 51 = .ok (.iload_n 3, 1) := by decide +kernel
theorem dX1_meetingOf_52 : decode cX1_meetingOf 52 = .ok (.iload 5, 2) := by decide +kernel
theorem dX1_meetingOf_54 : decode cX1_meetingOf 54 = .ok (.iload 4, 2) := by decide +kernel
theorem dX1_meetingOf_56 : decode cX1_meetingOf 56 = .ok (.isub, 1) := by decide +kernel
theorem dX1_meetingOf_57 : decode cX1_meetingOf 57 = .ok (.invokevirtual 98, 3) := by decide +kernel
theorem dX1_meetingOf_60 : decode cX1_meetingOf 60 = .ok (.invokestatic 101, 3) := by decide +kernel
theorem dX1_meetingOf_63 : decode cX1_meetingOf 63 = .ok (.ifCond .eq 6, 3) := by decide +kernel
theorem dX1_meetingOf_66 : decode cX1_meetingOf 66 = .ok (.iload 5, 2) := by decide +kernel
theorem dX1_meetingOf_68 : decode cX1_meetingOf 68 = .ok (.ireturn, 1) := by decide +kernel
theorem dX1_meetingOf_69 : decode cX1_meetingOf 69 = .ok (.iinc 5 1, 3) := by decide +kernel
theorem dX1_meetingOf_72 : decode cX1_meetingOf 72 = .ok (.goto (-69), 3) := by decide +kernel
theorem dX1_meetingOf_75 : decode cX1_meetingOf 75 = .ok (.iconst (-1), 1) := by decide +kernel
theorem dX1_meetingOf_76 : decode cX1_meetingOf 76 = .ok (.ireturn, 1) := by decide +kernel
theorem dX1_markClashes_0 : decode cX1_markClashes 0 = .ok (.iconst 0, 1) := by decide +kernel
theorem dX1_markClashes_1 : decode cX1_markClashes 1 = .ok (.istore_n 1, 1) := by decide +kernel
theorem dX1_markClashes_2 : decode cX1_markClashes 2 = .ok (.iload_n 1, 1) := by decide +kernel
theorem dX1_markClashes_3 : decode cX1_markClashes 3 = .ok (.aload_n 0, 1) := by decide +kernel
theorem dX1_markClashes_4 : decode cX1_markClashes 4 = .ok (.getfield 27, 3) := by decide +kernel
theorem dX1_markClashes_7 : decode cX1_markClashes 7 = .ok (.getfield 56, 3) := by decide +kernel
theorem dX1_markClashes_10 : decode cX1_markClashes 10 = .ok (.if_icmp .ge 36, 3) := by decide +kernel
theorem dX1_markClashes_13 : decode cX1_markClashes 13 = .ok (.iload_n 1, 1) := by decide +kernel
theorem dX1_markClashes_14 : decode cX1_markClashes 14 = .ok (.iconst 1, 1) := by decide +kernel
theorem dX1_markClashes_15 : decode cX1_markClashes 15 = .ok (.iadd, 1) := by decide +kernel
theorem dX1_markClashes_16 : decode cX1_markClashes 16 = .ok (.istore_n 2, 1) := by decide +kernel
theorem dX1_markClashes_17 : decode cX1_markClashes 17 = .ok (.iload_n 2, 1) := by decide +kernel
theorem dX1_markClashes_18 : decode cX1_markClashes 18 = .ok (.aload_n 0, 1) := by decide +kernel
theorem dX1_markClashes_19 : decode cX1_markClashes 19 = .ok (.getfield 27, 3) := by decide +kernel
theorem dX1_markClashes_22 : decode cX1_markClashes 22 = .ok (.getfield 56, 3) := by decide +kernel
theorem dX1_markClashes_25 : decode cX1_markClashes 25 = .ok (.if_icmp .ge 15, 3) := by decide +kernel
theorem dX1_markClashes_28 : decode cX1_markClashes 28 = .ok (.aload_n 0, 1) := by decide +kernel
theorem dX1_markClashes_29 : decode cX1_markClashes 29 = .ok (.iload_n 1, 1) := by decide +kernel
theorem dX1_markClashes_30 : decode cX1_markClashes 30 = .ok (.iload_n 2, 1) := by decide +kernel
theorem dX1_markClashes_31 : decode cX1_markClashes 31 = .ok (.invokevirtual 107, 3) := by decide +kernel
theorem dX1_markClashes_34 : decode cX1_markClashes 34 = .ok (.iinc 2 1, 3) := by decide +kernel
theorem dX1_markClashes_37 : decode cX1_markClashes 37 = .ok (.goto (-20), 3) := by decide +kernel
theorem dX1_markClashes_40 : decode cX1_markClashes 40 = .ok (.iinc 1 1, 3) := by decide +kernel
theorem dX1_markClashes_43 : decode cX1_markClashes 43 = .ok (.goto (-41), 3) := by decide +kernel
theorem dX1_markClashes_46 : decode cX1_markClashes 46 = .ok (.return_, 1) := by decide +kernel
theorem dX1_setClashes_0 : decode cX1_setClashes 0 = .ok (.iconst 0, 1) := by decide +kernel
theorem dX1_setClashes_1 : decode cX1_setClashes 1 = .ok (.istore_n 3, 1) := by decide +kernel
theorem dX1_setClashes_2 : decode cX1_setClashes 2 = .ok (.bipush (-4), 2) := by decide +kernel
theorem dX1_setClashes_4 : decode cX1_setClashes 4 = .ok (.istore 4, 2) := by decide +kernel
theorem dX1_setClashes_6 : decode cX1_setClashes 6 = .ok (.iload 4, 2) := by decide +kernel
theorem dX1_setClashes_8 : decode cX1_setClashes 8 = .ok (.iconst 5, 1) := by decide +kernel
theorem dX1_setClashes_9 : decode cX1_setClashes 9 = .ok (.if_icmp .ge 41, 3) := by decide +kernel
theorem dX1_setClashes_12 : decode cX1_setClashes 12 = .ok (.aload_n 0, 1) := by decide +kernel
theorem dX1_setClashes_13 : decode cX1_setClashes 13 = .ok (.iload_n 1, 1) := by decide +kernel
theorem dX1_setClashes_14 : decode cX1_setClashes 14 = .ok (.iload 4, 2) := by decide +kernel
theorem dX1_setClashes_16 : decode cX1_setClashes 16 = .ok (.iconst 0, 1) := by decide +kernel
theorem dX1_setClashes_17 : decode cX1_setClashes 17 = .ok (.invokestatic 93, 3) := by decide +kernel
theorem dX1_setClashes_20 : decode cX1_setClashes 20 = .ok (.iload_n 2, 1) := by decide +kernel
theorem dX1_setClashes_21 : decode cX1_setClashes 21 = .ok (.iload 4, 2) := by decide +kernel
theorem dX1_setClashes_23 : decode cX1_setClashes 23 = .ok (.ineg, 1) := by decide +kernel
theorem dX1_setClashes_24 : decode cX1_setClashes 24 = .ok (.iconst 0, 1) := by decide +kernel
theorem dX1_setClashes_25 : decode cX1_setClashes 25 = .ok (.invokestatic 93, 3) := by decide +kernel
theorem dX1_setClashes_28 : decode cX1_setClashes 28 = .ok (.invokevirtual 38, 3) := by decide +kernel
theorem dX1_setClashes_31 : decode cX1_setClashes 31 = .ok (.iconst (-1), 1) := by decide +kernel
theorem dX1_setClashes_32 : decode cX1_setClashes 32 = .ok (.if_icmp .eq 12, 3) := by decide +kernel
theorem dX1_setClashes_35 : decode cX1_setClashes 35 = .ok (.iload_n 3, 1) := by decide +kernel
theorem dX1_setClashes_36 : decode cX1_setClashes 36 = .ok (.iconst 1, 1) := by decide +kernel
theorem dX1_setClashes_37 : decode cX1_setClashes 37 = .ok (.iload 4, 2) := by decide +kernel
theorem dX1_setClashes_39 : decode cX1_setClashes 39 = .ok (.iconst 5, 1) := by decide +kernel
theorem dX1_setClashes_40 : decode cX1_setClashes 40 = .ok (.iadd, 1) := by decide +kernel
theorem dX1_setClashes_41 : decode cX1_setClashes 41 = .ok (.ishl, 1) := by decide +kernel
theorem dX1_setClashes_42 : decode cX1_setClashes 42 = .ok (.ior, 1) := by decide +kernel
theorem dX1_setClashes_43 : decode cX1_setClashes 43 = .ok (.istore_n 3, 1) := by decide +kernel
theorem dX1_setClashes_44 : decode cX1_setClashes 44 = .ok (.iinc 4 1, 3) := by decide +kernel
theorem dX1_setClashes_47 : decode cX1_setClashes 47 = .ok (.goto (-41), 3) := by decide +kernel
theorem dX1_setClashes_50 : decode cX1_setClashes 50 = .ok (.aload_n 0, 1) := by decide +kernel
theorem dX1_setClashes_51 : decode cX1_setClashes 51 = .ok (.getfield 27, 3) := by decide +kernel
theorem dX1_setClashes_54 : decode cX1_setClashes 54 = .ok (.iload_n 1, 1) := by decide +kernel
theorem dX1_setClashes_55 : decode cX1_setClashes 55 = .ok (.iload_n 2, 1) := by decide +kernel
theorem dX1_setClashes_56 : decode cX1_setClashes 56 = .ok (.invokevirtual 111, 3) := by decide +kernel
theorem dX1_setClashes_59 : decode cX1_setClashes 59 = .ok (.ifCond .eq 14, 3) := by decide +kernel
theorem dX1_setClashes_62 : decode cX1_setClashes 62 = .ok (.aload_n 0, 1) := by decide +kernel
theorem dX1_setClashes_63 : decode cX1_setClashes 63 = .ok (.getfield 18, 3) := by decide +kernel
theorem dX1_setClashes_66 : decode cX1_setClashes 66 = .ok (.iload_n 1, 1) := by decide +kernel
theorem dX1_setClashes_67 : decode cX1_setClashes 67 = .ok (.iconst 4, 1) := by decide +kernel
theorem dX1_setClashes_68 : decode cX1_setClashes 68 = .ok (.imul, 1) := by decide +kernel
theorem dX1_setClashes_69 : decode cX1_setClashes 69 = .ok (.iload_n 2, 1) := by decide +kernel
theorem dX1_setClashes_70 : decode cX1_setClashes 70 = .ok (.iadd, 1) := by decide +kernel
theorem dX1_setClashes_71 : decode cX1_setClashes 71 = .ok (.iload_n 3, 1) := by decide +kernel
theorem dX1_setClashes_72 : decode cX1_setClashes 72 = .ok (.iastore, 1) := by decide +kernel
theorem dX1_setClashes_73 : decode cX1_setClashes 73 = .ok (.return_, 1) := by decide +kernel
theorem dX1_haveClash_0 : decode cX1_haveClash 0 = .ok (.iconst 0, 1) := by decide +kernel
theorem dX1_haveClash_1 : decode cX1_haveClash 1 = .ok (.istore_n 1, 1) := by decide +kernel
theorem dX1_haveClash_2 : decode cX1_haveClash 2 = .ok (.iload_n 1, 1) := by decide +kernel
theorem dX1_haveClash_3 : decode cX1_haveClash 3 = .ok (.aload_n 0, 1) := by decide +kernel
theorem dX1_haveClash_4 : decode cX1_haveClash 4 = .ok (.getfield 27, 3) := by decide +kernel
theorem dX1_haveClash_7 : decode cX1_haveClash 7 = .ok (.getfield 56, 3) := by decide +kernel
theorem dX1_haveClash_10 : decode cX1_haveClash 10 = .ok (.if_icmp .ge 68, 3) := by decide +kernel
theorem dX1_haveClash_13 : decode cX1_haveClash 13 = .ok (.iload_n 1, 1) := by decide +kernel
theorem dX1_haveClash_14 : decode cX1_haveClash 14 = .ok (.iconst 1, 1) := by decide +kernel
theorem dX1_haveClash_15 : decode cX1_haveClash 15 = .ok (.iadd, 1) := by decide +kernel
theorem dX1_haveClash_16 : decode cX1_haveClash 16 = .ok (.istore_n 2, 1) := by decide +kernel
theorem dX1_haveClash_17 : decode cX1_haveClash 17 = .ok (.iload_n 2, 1) := by decide +kernel
theorem dX1_haveClash_18 : decode cX1_haveClash 18 = .ok (.aload_n 0, 1) := by decide +kernel
theorem dX1_haveClash_19 : decode cX1_haveClash 19 = .ok (.getfield 27, 3) := by decide +kernel
theorem dX1_haveClash_22 : decode cX1_haveClash 22 = .ok (.getfield 56, 3) := by decide +kernel
theorem dX1_haveClash_25 : decode cX1_haveClash 25 = .ok (.if_icmp .ge 47, 3) := by decide +kernel
theorem dX1_haveClash_28 : decode cX1_haveClash 28 = .ok (.iload_n 2, 1) := by decide +kernel
theorem dX1_haveClash_29 : decode cX1_haveClash 29 = .ok (.iconst 4, 1) := by decide +kernel
theorem dX1_haveClash_30 : decode cX1_haveClash 30 = .ok (.if_icmp .ge 42, 3) := by decide +kernel
theorem dX1_haveClash_33 : decode cX1_haveClash 33 = .ok (.aload_n 0, 1) := by decide +kernel
theorem dX1_haveClash_34 : decode cX1_haveClash 34 = .ok (.getfield 18, 3) := by decide +kernel
theorem dX1_haveClash_37 : decode cX1_haveClash 37 = .ok (.iload_n 1, 1) := by decide +kernel
theorem dX1_haveClash_38 : decode cX1_haveClash 38 = .ok (.iconst 4, 1) := by decide +kernel
theorem dX1_haveClash_39 : decode cX1_haveClash 39 = .ok (.imul, 1) := by decide +kernel
theorem dX1_haveClash_40 : decode cX1_haveClash 40 = .ok (.iload_n 2, 1) := by decide +kernel
theorem dX1_haveClash_41 : decode cX1_haveClash 41 = .ok (.iadd, 1) := by decide +kernel
theorem dX1_haveClash_42 : decode cX1_haveClash 42 = .ok (.iaload, 1) := by decide +kernel
theorem dX1_haveClash_43 : decode cX1_haveClash 43 = .ok (.aload_n 0, 1) := by decide +kernel
theorem dX1_haveClash_44 : decode cX1_haveClash 44 = .ok (.getfield 21, 3) := by decide +kernel
theorem dX1_haveClash_47 : decode cX1_haveClash 47 = .ok (.iload_n 1, 1) := by decide +kernel
theorem dX1_haveClash_48 : decode cX1_haveClash 48 = .ok (.iaload, 1) := by decide +kernel
theorem dX1_haveClash_49 : decode cX1_haveClash 49 = .ok (.aload_n 0, 1) := by decide +kernel
theorem dX1_haveClash_50 : decode cX1_haveClash 50 = .ok (.getfield 21, 3) := by decide +kernel
theorem dX1_haveClash_53 : decode cX1_haveClash 53 = .ok (.iload_n 2, 1) := by decide +kernel
theorem dX1_haveClash_54 : decode cX1_haveClash 54 = .ok (.iaload, 1) := by decide +kernel
theorem dX1_haveClash_55 : decode cX1_haveClash 55 = .ok (.isub, 1) := by decide +kernel
theorem dX1_haveClash_56 : decode cX1_haveClash 56 = .ok (.iconst 5, 1) := by decide +kernel
theorem dX1_haveClash_57 : decode cX1_haveClash 57 = .ok (.iadd, 1) := by decide +kernel
theorem dX1_haveClash_58 : decode cX1_haveClash 58 = .ok (.invokestatic 115, 3) := by decide +kernel
theorem dX1_haveClash_61 : decode cX1_haveClash 61 = .ok (.ifCond .eq 5, 3) := by decide +kernel
theorem dX1_haveClash_64 : decode cX1_haveClash 64 = .ok (.iconst 1, 1) := by decide +kernel
theorem dX1_haveClash_65 : decode cX1_haveClash 65 = .ok (.ireturn, 1) := by decide +kernel
theorem dX1_haveClash_66 : decode cX1_haveClash 66 = .ok (.iinc 2 1, 3) := by decide +kernel
theorem dX1_haveClash_69 : decode cX1_haveClash 69 = .ok (.goto (-52), 3) := by decide +kernel
theorem dX1_haveClash_72 : decode cX1_haveClash 72 = .ok (.iinc 1 1, 3) := by decide +kernel
theorem dX1_haveClash_75 : decode cX1_haveClash 75 = .ok (.goto (-73), 3) := by decide +kernel
theorem dX1_haveClash_78 : decode cX1_haveClash 78 = .ok (.iconst 0, 1) := by decide +kernel
theorem dX1_haveClash_79 : decode cX1_haveClash 79 = .ok (.ireturn, 1) := by decide +kernel
theorem dX1_endOfAll_0 : decode cX1_endOfAll 0 = .ok (.iconst 0, 1) := by decide +kernel
theorem dX1_endOfAll_1 : decode cX1_endOfAll 1 = .ok (.istore_n 1, 1) := by decide +kernel
theorem dX1_endOfAll_2 : decode cX1_endOfAll 2 = .ok (.iconst 0, 1) := by decide +kernel
theorem dX1_endOfAll_3 : decode cX1_endOfAll 3 = .ok (.istore_n 2, 1) := by decide +kernel
theorem dX1_endOfAll_4 : decode cX1_endOfAll 4 = .ok (.iload_n 2, 1) := by decide +kernel
theorem dX1_endOfAll_5 : decode cX1_endOfAll 5 = .ok (.aload_n 0, 1) := by decide +kernel
theorem dX1_endOfAll_6 : decode cX1_endOfAll 6 = .ok (.getfield 27, 3) := by decide +kernel
theorem dX1_endOfAll_9 : decode cX1_endOfAll 9 = .ok (.getfield 56, 3) := by decide +kernel
theorem dX1_endOfAll_12 : decode cX1_endOfAll 12 = .ok (.if_icmp .ge 41, 3) := by decide +kernel
theorem dX1_endOfAll_15 : decode cX1_endOfAll 15 = .ok (.iload_n 2, 1) := by decide +kernel
theorem dX1_endOfAll_16 : decode cX1_endOfAll 16 = .ok (.iconst 4, 1) := by decide +kernel
theorem dX1_endOfAll_17 : decode cX1_endOfAll 17 = .ok (.if_icmp .ge 36, 3) := by decide +kernel
theorem dX1_endOfAll_20 : decode cX1_endOfAll 20 = .ok (.aload_n 0, 1) := by decide +kernel
theorem dX1_endOfAll_21 : decode cX1_endOfAll 21 = .ok (.getfield 15, 3) := by decide +kernel
theorem dX1_endOfAll_24 : decode cX1_endOfAll 24 = .ok (.iload_n 2, 1) := by decide +kernel
theorem dX1_endOfAll_25 : decode cX1_endOfAll 25 = .ok (.iaload, 1) := by decide +kernel
theorem dX1_endOfAll_26 : decode cX1_endOfAll 26 = .ok (.ifCond .le 21, 3) := by decide +kernel
theorem dX1_endOfAll_29 : decode cX1_endOfAll 29 = .ok (.iload_n 1, 1) := by decide +kernel
theorem dX1_endOfAll_30 : decode cX1_endOfAll 30 = .ok (.aload_n 0, 1) := by decide +kernel
theorem dX1_endOfAll_31 : decode cX1_endOfAll 31 = .ok (.getfield 21, 3) := by decide +kernel
theorem dX1_endOfAll_34 : decode cX1_endOfAll 34 = .ok (.iload_n 2, 1) := by decide +kernel
theorem dX1_endOfAll_35 : decode cX1_endOfAll 35 = .ok (.iaload, 1) := by decide +kernel
theorem dX1_endOfAll_36 : decode cX1_endOfAll 36 = .ok (.aload_n 0, 1) := by decide +kernel
theorem dX1_endOfAll_37 : decode cX1_endOfAll 37 = .ok (.getfield 15, 3) := by decide +kernel
theorem dX1_endOfAll_40 : decode cX1_endOfAll 40 = .ok (.iload_n 2, 1) := by decide +kernel
theorem dX1_endOfAll_41 : decode cX1_endOfAll 41 = .ok (.iaload, 1) := by decide +kernel
theorem dX1_endOfAll_42 : decode cX1_endOfAll 42 = .ok (.iadd, 1) := by decide +kernel
theorem dX1_endOfAll_43 : decode cX1_endOfAll 43 = .ok (.invokestatic 93, 3) := by decide +kernel
theorem dX1_endOfAll_46 : decode cX1_endOfAll 46 = .ok (.istore_n 1, 1) := by decide +kernel
theorem dX1_endOfAll_47 : decode cX1_endOfAll 47 = .ok (.iinc 2 1, 3) := by decide +kernel
theorem dX1_endOfAll_50 : decode cX1_endOfAll 50 = .ok (.goto (-46), 3) := by decide +kernel
theorem dX1_endOfAll_53 : decode cX1_endOfAll 53 = .ok (.iload_n 1, 1) := by decide +kernel
theorem dX1_endOfAll_54 : decode cX1_endOfAll 54 = .ok (.ireturn, 1) := by decide +kernel
theorem dX2_init_0 : decode cX2_init 0 = .ok (.aload_n 0, 1) := by decide +kernel
theorem dX2_init_1 : decode cX2_init 1 = .ok (.invokespecial 1, 3) := by decide +kernel
theorem dX2_init_4 : decode cX2_init 4 = .ok (.aload_n 0, 1) := by decide +kernel
theorem dX2_init_5 : decode cX2_init 5 = .ok (.new 7, 3) := by decide +kernel
theorem dX2_init_8 : decode cX2_init 8 = .ok (.dup, 1) := by decide +kernel
theorem dX2_init_9 : decode cX2_init 9 = .ok (.invokespecial 9, 3) := by decide +kernel
theorem dX2_init_12 : decode cX2_init 12 = .ok (.putfield 10, 3) := by decide +kernel
theorem dX2_init_15 : decode cX2_init 15 = .ok (.return_, 1) := by decide +kernel
theorem dX3_init_0 : decode cX3_init 0 = .ok (.aload_n 0, 1) := by decide +kernel
theorem dX3_init_1 : decode cX3_init 1 = .ok (.invokespecial 3, 3) := by decide +kernel
theorem dX3_init_4 : decode cX3_init 4 = .ok (.aload_n 0, 1) := by decide +kernel
theorem dX3_init_5 : decode cX3_init 5 = .ok (.bipush 6, 2) := by decide +kernel
theorem dX3_init_7 : decode cX3_init 7 = .ok (.newarray .int, 2) := by decide +kernel
theorem dX3_init_9 : decode cX3_init 9 = .ok (.putfield 9, 3) := by decide +kernel
theorem dX3_init_12 : decode cX3_init 12 = .ok (.aload_n 0, 1) := by decide +kernel
theorem dX3_init_13 : decode cX3_init 13 = .ok (.bipush 6, 2) := by decide +kernel
theorem dX3_init_15 : decode cX3_init 15 = .ok (.newarray .int, 2) := by decide +kernel
theorem dX3_init_17 : decode cX3_init 17 = .ok (.putfield 15, 3) := by decide +kernel
theorem dX3_init_20 : decode cX3_init 20 = .ok (.aload_n 0, 1) := by decide +kernel
theorem dX3_init_21 : decode cX3_init 21 = .ok (.bipush 6, 2) := by decide +kernel
theorem dX3_init_23 : decode cX3_init 23 = .ok (.newarray .boolean, 2) := by decide +kernel
theorem dX3_init_25 : decode cX3_init 25 = .ok (.putfield 18, 3) := by decide +kernel
theorem dX3_init_28 : decode cX3_init 28 = .ok (.aload_n 0, 1) := by decide +kernel
theorem dX3_init_29 : decode cX3_init 29 = .ok (.bipush 15, 2) := by decide +kernel
theorem dX3_init_31 : decode cX3_init 31 = .ok (.newarray .int, 2) := by decide +kernel
theorem dX3_init_33 : decode cX3_init 33 = .ok (.putfield 22, 3) := by decide +kernel
theorem dX3_init_36 : decode cX3_init 36 = .ok (.aload_n 0, 1) := by decide +kernel
theorem dX3_init_37 : decode cX3_init 37 = .ok (.bipush 15, 2) := by decide +kernel
theorem dX3_init_39 : decode cX3_init 39 = .ok (.newarray .int, 2) := by decide +kernel
theorem dX3_init_41 : decode cX3_init 41 = .ok (.putfield 25, 3) := by decide +kernel
theorem dX3_init_44 : decode cX3_init 44 = .ok (.aload_n 0, 1) := by decide +kernel
theorem dX3_init_45 : decode cX3_init 45 = .ok (.aload_n 1, 1) := by decide +kernel
theorem dX3_init_46 : decode cX3_init 46 = .ok (.putfield 28, 3) := by decide +kernel
theorem dX3_init_49 : decode cX3_init 49 = .ok (.aload_n 0, 1) := by decide +kernel
theorem dX3_init_50 : decode cX3_init 50 = .ok (.aload_n 2, 1) := by decide +kernel
theorem dX3_init_51 : decode cX3_init 51 = .ok (.putfield 32, 3) := by decide +kernel
theorem dX3_init_54 : decode cX3_init 54 = .ok (.return_, 1) := by decide +kernel
theorem dX3_clear_0 : decode cX3_clear 0 = .ok (.aload_n 0, 1) := by decide +kernel
theorem dX3_clear_1 : decode cX3_clear 1 = .ok (.iconst 0, 1) := by decide +kernel
theorem dX3_clear_2 : decode cX3_clear 2 = .ok (.putfield 36, 3) := by decide +kernel
theorem dX3_clear_5 : decode cX3_clear 5 = .ok (.aload_n 0, 1) := by decide +kernel
theorem dX3_clear_6 : decode cX3_clear 6 = .ok (.iconst 0, 1) := by decide +kernel
theorem dX3_clear_7 : decode cX3_clear 7 = .ok (.putfield 40, 3) := by decide +kernel
theorem dX3_clear_10 : decode cX3_clear 10 = .ok (.return_, 1) := by decide +kernel
theorem dX3_addSight_0 : decode cX3_addSight 0 = .ok (.aload_n 0, 1) := by decide +kernel
theorem dX3_addSight_1 : decode cX3_addSight 1 = .ok (.getfield 36, 3) := by decide +kernel
theorem dX3_addSight_4 : decode cX3_addSight 4 = .ok (.bipush 6, 2) := by decide +kernel
theorem dX3_addSight_6 : decode cX3_addSight 6 = .ok (.if_icmp .lt 5, 3) := by decide +kernel
theorem dX3_addSight_9 : decode cX3_addSight 9 = .ok (.iconst 0, 1) := by decide +kernel
theorem dX3_addSight_10 : decode cX3_addSight 10 = .ok (.ireturn, 1) := by decide +kernel
theorem dX3_addSight_11 : decode cX3_addSight 11 = .ok (.aload_n 0, 1) := by decide +kernel
theorem dX3_addSight_12 : decode cX3_addSight 12 = .ok (.getfield 9, 3) := by decide +kernel
theorem dX3_addSight_15 : decode cX3_addSight 15 = .ok (.aload_n 0, 1) := by decide +kernel
theorem dX3_addSight_16 : decode cX3_addSight 16 = .ok (.getfield 36, 3) := by decide +kernel
theorem dX3_addSight_19 : decode cX3_addSight 19 = .ok (.iload_n 1, 1) := by decide +kernel
theorem dX3_addSight_20 : decode cX3_addSight 20 = .ok (.iastore, 1) := by decide +kernel
theorem dX3_addSight_21 : decode cX3_addSight 21 = .ok (.aload_n 0, 1) := by decide +kernel
theorem dX3_addSight_22 : decode cX3_addSight 22 = .ok (.getfield 15, 3) := by decide +kernel
theorem dX3_addSight_25 : decode cX3_addSight 25 = .ok (.aload_n 0, 1) := by decide +kernel
theorem dX3_addSight_26 : decode cX3_addSight 26 = .ok (.getfield 36, 3) := by decide +kernel
theorem dX3_addSight_29 : decode cX3_addSight 29 = .ok (.iload_n 2, 1) := by decide +kernel
theorem dX3_addSight_30 : decode cX3_addSight 30 = .ok (.iastore, 1) := by decide +kernel
theorem dX3_addSight_31 : decode cX3_addSight 31 = .ok (.aload_n 0, 1) := by decide +kernel
theorem dX3_addSight_32 : decode cX3_addSight 32 = .ok (.getfield 18, 3) := by decide +kernel
theorem dX3_addSight_35 : decode cX3_addSight 35 = .ok (.aload_n 0, 1) := by decide +kernel
theorem dX3_addSight_36 : decode cX3_addSight 36 = .ok (.getfield 36, 3) := by decide +kernel
theorem dX3_addSight_39 : decode cX3_addSight 39 = .ok (.iload_n 3, 1) := by decide +kernel
theorem dX3_addSight_40 : decode cX3_addSight 40 = .ok (.bastore, 1) := by decide +kernel
theorem dX3_addSight_41 : decode cX3_addSight 41 = .ok (.aload_n 0, 1) := by decide +kernel
theorem dX3_addSight_42 : decode cX3_addSight 42 = .ok (.dup, 1) := by decide +kernel
theorem dX3_addSight_43 : decode cX3_addSight 43 = .ok (.getfield 36, 3) := by decide +kernel
theorem dX3_addSight_46 : decode cX3_addSight 46 = .ok (.iconst 1, 1) := by decide +kernel
theorem dX3_addSight_47 : decode cX3_addSight 47 = .ok (.iadd, 1) := by decide +kernel
theorem dX3_addSight_48 : decode cX3_addSight 48 = .ok (.putfield 36, 3) := by decide +kernel
theorem dX3_addSight_51 : decode cX3_addSight 51 = .ok (.iconst 1, 1) := by decide +kernel
theorem dX3_addSight_52 : decode cX3_addSight 52 = .ok (.ireturn, 1) := by decide +kernel
theorem dX3_addEntry_0 : decode cX3_addEntry 0 = .ok (.aload_n 0, 1) := by decide +kernel
theorem dX3_addEntry_1 : decode cX3_addEntry 1 = .ok (.getfield 40, 3) := by decide +kernel
theorem dX3_addEntry_4 : decode cX3_addEntry 4 = .ok (.bipush 15, 2) := by decide +kernel
theorem dX3_addEntry_6 : decode cX3_addEntry 6 = .ok (.if_icmp .lt 5, 3) := by decide +kernel
theorem dX3_addEntry_9 : decode cX3_addEntry 9 = .ok (.iconst 0, 1) := by decide +kernel
theorem dX3_addEntry_10 : decode cX3_addEntry 10 = .ok (.ireturn, 1) := by decide +kernel
theorem dX3_addEntry_11 : decode cX3_addEntry 11 = .ok (.aload_n 0, 1) := by decide +kernel
theorem dX3_addEntry_12 : decode cX3_addEntry 12 = .ok (.getfield 22, 3) := by decide +kernel
theorem dX3_addEntry_15 : decode cX3_addEntry 15 = .ok (.aload_n 0, 1) := by decide +kernel
theorem dX3_addEntry_16 : decode cX3_addEntry 16 = .ok (.getfield 40, 3) := by decide +kernel
theorem dX3_addEntry_19 : decode cX3_addEntry 19 = .ok (.iload_n 1, 1) := by decide +kernel
theorem dX3_addEntry_20 : decode cX3_addEntry 20 = .ok (.iastore, 1) := by decide +kernel
theorem dX3_addEntry_21 : decode cX3_addEntry 21 = .ok (.aload_n 0, 1) := by decide +kernel
theorem dX3_addEntry_22 : decode cX3_addEntry 22 = .ok (.getfield 25, 3) := by decide +kernel
theorem dX3_addEntry_25 : decode cX3_addEntry 25 = .ok (.aload_n 0, 1) := by decide +kernel
theorem dX3_addEntry_26 : decode cX3_addEntry 26 = .ok (.getfield 40, 3) := by decide +kernel
theorem dX3_addEntry_29 : decode cX3_addEntry 29 = .ok (.iload_n 2, 1) := by decide +kernel
theorem dX3_addEntry_30 : decode cX3_addEntry 30 = .ok (.iastore, 1) := by decide +kernel
theorem dX3_addEntry_31 : decode cX3_addEntry 31 = .ok (.aload_n 0, 1) := by decide +kernel
theorem dX3_addEntry_32 : decode cX3_addEntry 32 = .ok (.dup, 1) := by decide +kernel
theorem dX3_addEntry_33 : decode cX3_addEntry 33 = .ok (.getfield 40, 3) := by decide +kernel
theorem dX3_addEntry_36 : decode cX3_addEntry 36 = .ok (.iconst 1, 1) := by decide +kernel
theorem dX3_addEntry_37 : decode cX3_addEntry 37 = .ok (.iadd, 1) := by decide +kernel
theorem dX3_addEntry_38 : decode cX3_addEntry 38 = .ok (.putfield 40, 3) := by decide +kernel
theorem dX3_addEntry_41 : decode cX3_addEntry 41 = .ok (.iconst 1, 1) := by decide +kernel
theorem dX3_addEntry_42 : decode cX3_addEntry 42 = .ok (.ireturn, 1) := by decide +kernel
theorem dX3_suspects_0 : decode cX3_suspects 0 = .ok (.iconst 0, 1) := by decide +kernel
theorem dX3_suspects_1 : decode cX3_suspects 1 = .ok (.istore_n 1, 1) := by decide +kernel
theorem dX3_suspects_2 : decode cX3_suspects 2 = .ok (.iconst 0, 1) := by decide +kernel
theorem dX3_suspects_3 : decode cX3_suspects 3 = .ok (.istore_n 2, 1) := by decide +kernel
theorem dX3_suspects_4 : decode cX3_suspects 4 = .ok (.iload_n 2, 1) := by decide +kernel
theorem dX3_suspects_5 : decode cX3_suspects 5 = .ok (.aload_n 0, 1) := by decide +kernel
theorem dX3_suspects_6 : decode cX3_suspects 6 = .ok (.getfield 28, 3) := by decide +kernel
theorem dX3_suspects_9 : decode cX3_suspects 9 = .ok (.getfield 43, 3) := by decide +kernel
theorem dX3_suspects_12 : decode cX3_suspects 12 = .ok (.if_icmp .ge 23, 3) := by decide +kernel
theorem dX3_suspects_15 : decode cX3_suspects 15 = .ok (.aload_n 0, 1) := by decide +kernel
theorem dX3_suspects_16 : decode cX3_suspects 16 = .ok (.iload_n 2, 1) := by decide +kernel
theorem dX3_suspects_17 : decode cX3_suspects 17 = .ok (.invokevirtual 48, 3) := by decide +kernel
theorem dX3_suspects_20 : decode cX3_suspects 20 = .ok (.ifCond .eq 9, 3) := by decide +kernel
theorem dX3_suspects_23 : decode cX3_suspects 23 = .ok (.iload_n 1, 1) := by decide +kernel
theorem dX3_suspects_24 : decode cX3_suspects 24 = .ok (.iconst 1, 1) := by decide +kernel
theorem dX3_suspects_25 : decode cX3_suspects 25 = .ok (.iload_n 2, 1) := by decide +kernel
theorem dX3_suspects_26 : decode cX3_suspects 26 = .ok (.ishl, 1) := by decide +kernel
theorem dX3_suspects_27 : decode cX3_suspects 27 = .ok (.ior, 1) := by decide +kernel
theorem dX3_suspects_28 : decode cX3_suspects 28 = .ok (.istore_n 1, 1) := by decide +kernel
theorem dX3_suspects_29 : decode cX3_suspects 29 = .ok (.iinc 2 1, 3) := by decide +kernel
theorem dX3_suspects_32 : decode cX3_suspects 32 = .ok (.goto (-28), 3) := by decide +kernel
theorem dX3_suspects_35 : decode cX3_suspects 35 = .ok (.iload_n 1, 1) := by decide +kernel
theorem dX3_suspects_36 : decode cX3_suspects 36 = .ok (.ireturn, 1) := by decide +kernel
theorem dX3_fitsAllSeen_0 : decode cX3_fitsAllSeen 0 = .ok (.iconst 0, 1) := by decide +kernel
theorem dX3_fitsAllSeen_1 : decode cX3_fitsAllSeen 1 = .ok (.istore_n 2, 1) := by decide +kernel
theorem dX3_fitsAllSeen_2 : decode cX3_fitsAllSeen 2 = .ok (.iload_n 2, 1) := by decide +kernel
theorem dX3_fitsAllSeen_3 : decode cX3_fitsAllSeen 3 = .ok (.aload_n 0, 1) := by decide +kernel
theorem dX3_fitsAllSeen_4 : decode cX3_fitsAllSeen 4 = .ok (.getfield 36, 3) := by decide +kernel
theorem dX3_fitsAllSeen_7 : decode cX3_fitsAllSeen 7 = .ok (.if_icmp .ge 49, 3) := by decide +kernel
theorem dX3_fitsAllSeen_10 : decode cX3_fitsAllSeen 10 = .ok (.iload_n 2, 1) := by decide +kernel
theorem dX3_fitsAllSeen_11 : decode cX3_fitsAllSeen 11 = .ok (.bipush 6, 2) := by decide +kernel
theorem dX3_fitsAllSeen_13 : decode cX3_fitsAllSeen 13 = .ok (.if_icmp .ge 43, 3) := by decide +kernel
theorem dX3_fitsAllSeen_16 : decode cX3_fitsAllSeen 16 = .ok (.aload_n 0, 1) := by decide +kernel
theorem dX3_fitsAllSeen_17 : decode cX3_fitsAllSeen 17 = .ok (.getfield 32, 3) := by decide +kernel
theorem dX3_fitsAllSeen_20 : decode cX3_fitsAllSeen 20 = .ok (.iload_n 1, 1) := by decide +kernel
theorem dX3_fitsAllSeen_21 : decode cX3_fitsAllSeen 21 = .ok (.aload_n 0, 1) := by decide +kernel
theorem dX3_fitsAllSeen_22 : decode cX3_fitsAllSeen 22 = .ok (.getfield 15, 3) := by decide +kernel
theorem dX3_fitsAllSeen_25 : decode cX3_fitsAllSeen 25 = .ok (.iload_n 2, 1) := by decide +kernel
theorem dX3_fitsAllSeen_26 : decode cX3_fitsAllSeen 26 = .ok (.iaload, 1) := by decide +kernel
theorem dX3_fitsAllSeen_27 : decode cX3_fitsAllSeen 27 = .ok (.invokevirtual 52, 3) := by decide +kernel
theorem dX3_fitsAllSeen_30 : decode cX3_fitsAllSeen 30 = .ok (.aload_n 0, 1) := by decide +kernel
theorem dX3_fitsAllSeen_31 : decode cX3_fitsAllSeen 31 = .ok (.getfield 9, 3) := by decide +kernel
theorem dX3_fitsAllSeen_34 : decode cX3_fitsAllSeen 34 = .ok (.iload_n 2, 1) := by decide +kernel
theorem dX3_fitsAllSeen_35 : decode cX3_fitsAllSeen 35 = .ok (.iaload, 1) := by decide +kernel
theorem dX3_fitsAllSeen_36 : decode cX3_fitsAllSeen 36 = .ok (.invokestatic 58, 3) := by decide +kernel
theorem dX3_fitsAllSeen_39 : decode cX3_fitsAllSeen 39 = .ok (.aload_n 0, 1) := by decide +kernel
theorem dX3_fitsAllSeen_40 : decode cX3_fitsAllSeen 40 = .ok (.getfield 18, 3) := by decide +kernel
theorem dX3_fitsAllSeen_43 : decode cX3_fitsAllSeen 43 = .ok (.iload_n 2, 1) := by decide +kernel
theorem dX3_fitsAllSeen_44 : decode cX3_fitsAllSeen 44 = .ok (.baload, 1) := by decide +kernel
theorem dX3_fitsAllSeen_45 : decode cX3_fitsAllSeen 45 = .ok (.if_icmp .eq 5, 3) := by decide +kernel
theorem dX3_fitsAllSeen_48 : decode cX3_fitsAllSeen 48 = .ok (.iconst 0, 1) := by decide +kernel
theorem dX3_fitsAllSeen_49 : decode cX3_fitsAllSeen 49 = .ok (.ireturn, 1) := by decide +kernel
theorem dX3_fitsAllSeen_50 : decode cX3_fitsAllSeen 50 = .ok (.iinc 2 1, 3) := by decide +kernel
theorem dX3_fitsAllSeen_53 : decode cX3_fitsAllSeen 53 = .ok (.goto (-51), 3) := by decide +kernel
theorem dX3_fitsAllSeen_56 : decode cX3_fitsAllSeen 56 = .ok (.iconst 1, 1) := by decide +kernel
theorem dX3_fitsAllSeen_57 : decode cX3_fitsAllSeen 57 = .ok (.ireturn, 1) := by decide +kernel
theorem dX3_bestRoom_0 : decode cX3_bestRoom 0 = .ok (.aload_n 0, 1) := by decide +kernel
theorem dX3_bestRoom_1 : decode cX3_bestRoom 1 = .ok (.invokevirtual 62, 3) := by decide +kernel
theorem dX3_bestRoom_4 : decode cX3_bestRoom 4 = .ok (.istore_n 1, 1) := by decide +kernel
theorem dX3_bestRoom_5 : decode cX3_bestRoom 5 = .ok (.iload_n 1, 1) := by decide +kernel
theorem dX3_bestRoom_6 : decode cX3_bestRoom 6 = .ok (.invokestatic 66, 3) := by decide +kernel
theorem dX3_bestRoom_9 : decode cX3_bestRoom 9 = .ok (.istore_n 2, 1) := by decide +kernel
theorem dX3_bestRoom_10 : decode cX3_bestRoom 10 = .ok (.iconst (-1), 1) := by decide +kernel
theorem dX3_bestRoom_11 : decode cX3_bestRoom 11 = .ok (.istore_n 3, 1) := by decide +kernel
theorem dX3_bestRoom_12 : decode cX3_bestRoom 12 = .ok (.iload_n 2, 1) := by decide +kernel
theorem dX3_bestRoom_13 : decode cX3_bestRoom 13 = .ok (.istore 4, 2) := by decide +kernel
theorem dX3_bestRoom_15 : decode cX3_bestRoom 15 = .ok (.iconst 0, 1) := by decide +kernel
theorem dX3_bestRoom_16 : decode cX3_bestRoom 16 = .ok (.istore 5, 2) := by decide +kernel
theorem dX3_bestRoom_18 : decode cX3_bestRoom 18 = .ok (.iload 5, 2) := by decide +kernel
theorem dX3_bestRoom_20 : decode cX3_bestRoom 20 = .ok (.aload_n 0, 1) := by decide +kernel
theorem dX3_bestRoom_21 : decode cX3_bestRoom 21 = .ok (.getfield 28, 3) := by decide +kernel
theorem dX3_bestRoom_24 : decode cX3_bestRoom 24 = .ok (.getfield 72, 3) := by decide +kernel
theorem dX3_bestRoom_27 : decode cX3_bestRoom 27 = .ok (.if_icmp .ge 43, 3) := by decide +kernel
theorem dX3_bestRoom_30 : decode cX3_bestRoom 30 = .ok (.aload_n 0, 1) := by decide +kernel
theorem dX3_bestRoom_31 : decode cX3_bestRoom 31 = .ok (.iload 5, 2) := by decide +kernel
theorem dX3_bestRoom_33 : decode cX3_bestRoom 33 = .ok (.iload_n 1, 1) := by decide +kernel
theorem dX3_bestRoom_34 : decode cX3_bestRoom 34 = .ok (.invokevirtual 75, 3) := by decide +kernel
theorem dX3_bestRoom_37 : decode cX3_bestRoom 37 = .ok (.istore 6, 2) := by decide +kernel
theorem dX3_bestRoom_39 : decode cX3_bestRoom 39 = .ok (.iload 6, 2) := by decide +kernel
theorem dX3_bestRoom_41 : decode cX3_bestRoom 41 = .ok (.iload_n 2, 1) := by decide +kernel
theorem dX3_bestRoom_42 : decode cX3_bestRoom 42 = .ok (.iload 6, 2) := by decide +kernel
theorem dX3_bestRoom_44 : decode cX3_bestRoom 44 = .ok (.isub, 1) := by decide +kernel
theorem dX3_bestRoom_45 : decode cX3_bestRoom 45 = .ok (.invokestatic 78, 3) := by decide +kernel
theorem dX3_bestRoom_48 : decode cX3_bestRoom 48 = .ok (.istore 7, 2) := by decide +kernel
theorem dX3_bestRoom_50 : decode cX3_bestRoom 50 = .ok (.iload 7, 2) := by decide +kernel
theorem dX3_bestRoom_52 : decode cX3_bestRoom 52 = .ok (.iload 4, 2) := by decide +kernel
theorem dX3_bestRoom_54 : decode cX3_bestRoom 54 = .ok (.if_icmp .ge 10, 3) := by decide +kernel
theorem dX3_bestRoom_57 : decode cX3_bestRoom 57 = .ok (.iload 5, 2) := by decide +kernel
theorem dX3_bestRoom_59 : decode cX3_bestRoom 59 = .ok (.istore_n 3, 1) := by decide +kernel
theorem dX3_bestRoom_60 : decode cX3_bestRoom 60 = .ok (.iload 7, 2) := by decide +kernel
theorem dX3_bestRoom_62 : decode cX3_bestRoom 62 = .ok (.istore 4, 2) := by decide +kernel
theorem dX3_bestRoom_64 : decode cX3_bestRoom 64 = .ok (.iinc 5 1, 3) := by decide +kernel
theorem dX3_bestRoom_67 : decode cX3_bestRoom 67 = .ok (.goto (-49), 3) := by decide +kernel
theorem dX3_bestRoom_70 : decode cX3_bestRoom 70 = .ok (.iload_n 3, 1) := by decide +kernel
theorem dX3_bestRoom_71 : decode cX3_bestRoom 71 = .ok (.ireturn, 1) := by decide +kernel
theorem dX3_countComingTo_0 : decode cX3_countComingTo 0 = .ok (.iconst 0, 1) := by decide +kernel
theorem dX3_countComingTo_1 : decode cX3_countComingTo 1 = .ok (.istore_n 3, 1) := by decide +kernel
theorem dX3_countComingTo_2 : decode cX3_countComingTo 2 = .ok (.iconst 0, 1) := by decide +kernel
theorem dX3_countComingTo_3 : decode cX3_countComingTo 3 = .ok (.istore 4, 2) := by decide +kernel
theorem dX3_countComingTo_5 : decode cX3_countComingTo 5 = .ok (.iload 4, 2) := by decide +kernel
theorem dX3_countComingTo_7 : decode cX3_countComingTo 7 = .ok (.aload_n 0, 1) := by decide +kernel
theorem dX3_countComingTo_8 : decode cX3_countComingTo 8 = .ok (.getfield 28, 3) := by decide +kernel
theorem dX3_countComingTo_11 : decode cX3_countComingTo 11 = .ok (.getfield 43, 3) := by decide +kernel
theorem dX3_countComingTo_14 : decode cX3_countComingTo 14 = .ok (.if_icmp .ge 39, 3) := by decide +kernel
theorem dX3_countComingTo_17 : decode cX3_countComingTo 17 = .ok (.iload_n 2, 1) := by decide +kernel
theorem dX3_countComingTo_18 : decode cX3_countComingTo 18 = .ok (.iload 4, 2) := by decide +kernel
theorem dX3_countComingTo_20 : decode cX3_countComingTo 20 = .ok (.invokestatic 58, 3) := by decide +kernel
theorem dX3_countComingTo_23 : decode cX3_countComingTo 23 = .ok (.ifCond .eq 24, 3) := by decide +kernel
theorem dX3_countComingTo_26 : decode cX3_countComingTo 26 = .ok (.aload_n 0, 1) := by decide +kernel
theorem dX3_countComingTo_27 : decode cX3_countComingTo 27 = .ok (.getfield 32, 3) := by decide +kernel
theorem dX3_countComingTo_30 : decode cX3_countComingTo 30 = .ok (.iload 4, 2) := by decide +kernel
theorem dX3_countComingTo_32 : decode cX3_countComingTo 32 = .ok (.bipush 20, 2) := by decide +kernel
theorem dX3_countComingTo_34 : decode cX3_countComingTo 34 = .ok (.invokevirtual 52, 3) := by decide +kernel
theorem dX3_countComingTo_37 : decode cX3_countComingTo 37 = .ok (.iload_n 1, 1) := by decide +kernel
theorem dX3_countComingTo_38 : decode cX3_countComingTo 38 = .ok (.invokestatic 58, 3) := by decide +kernel
theorem dX3_countComingTo_41 : decode cX3_countComingTo 41 = .ok (.ifCond .eq 6, 3) := by decide +kernel
theorem dX3_countComingTo_44 : decode cX3_countComingTo 44 = .ok (.iinc 3 1, 3) := by decide +kernel
theorem dX3_countComingTo_47 : decode cX3_countComingTo 47 = .ok (.iinc 4 1, 3) := by decide +kernel
theorem dX3_countComingTo_50 : decode cX3_countComingTo 50 = .ok (.goto (-45), 3) := by decide +kernel
theorem dX3_countComingTo_53 : decode cX3_countComingTo 53 = .ok (.iload_n 3, 1) := by decide +kernel
theorem dX3_countComingTo_54 : decode cX3_countComingTo 54 = .ok (.ireturn, 1) := by decide +kernel
theorem dX3_firstWrong_0 : decode cX3_firstWrong 0 = .ok (.iconst 0, 1) := by decide +kernel
theorem dX3_firstWrong_1 : decode cX3_firstWrong 1 = .ok (.istore_n 1, 1) := by decide +kernel
theorem dX3_firstWrong_2 : decode cX3_firstWrong 2 = .ok (.iload_n 1, 1) := by decide +kernel
theorem dX3_firstWrong_3 : decode cX3_firstWrong 3 = .ok (.aload_n 0, 1) := by decide +kernel
theorem dX3_firstWrong_4 : decode cX3_firstWrong 4 = .ok (.getfield 40, 3) := by decide +kernel
theorem dX3_firstWrong_7 : decode cX3_firstWrong 7 = .ok (.if_icmp .ge 39, 3) := by decide +kernel
theorem dX3_firstWrong_10 : decode cX3_firstWrong 10 = .ok (.iload_n 1, 1) := by decide +kernel
theorem dX3_firstWrong_11 : decode cX3_firstWrong 11 = .ok (.bipush 15, 2) := by decide +kernel
theorem dX3_firstWrong_13 : decode cX3_firstWrong 13 = .ok (.if_icmp .ge 33, 3) := by decide +kernel
theorem dX3_firstWrong_16 : decode cX3_firstWrong 16 = .ok (.aload_n 0, 1) := by decide +kernel
theorem dX3_firstWrong_17 : decode cX3_firstWrong 17 = .ok (.getfield 32, 3) := by decide +kernel
theorem dX3_firstWrong_20 : decode cX3_firstWrong 20 = .ok (.aload_n 0, 1) := by decide +kernel
theorem dX3_firstWrong_21 : decode cX3_firstWrong 21 = .ok (.getfield 22, 3) := by decide +kernel
theorem dX3_firstWrong_24 : decode cX3_firstWrong 24 = .ok (.iload_n 1, 1) := by decide +kernel
theorem dX3_firstWrong_25 : decode cX3_firstWrong 25 = .ok (.iaload, 1) := by decide +kernel
theorem dX3_firstWrong_26 : decode cX3_firstWrong 26 = .ok (.invokevirtual 83, 3) := by decide +kernel
theorem dX3_firstWrong_29 : decode cX3_firstWrong 29 = .ok (.aload_n 0, 1) := by decide +kernel
theorem dX3_firstWrong_30 : decode cX3_firstWrong 30 = .ok (.getfield 25, 3) := by decide +kernel
theorem dX3_firstWrong_33 : decode cX3_firstWrong 33 = .ok (.iload_n 1, 1) := by decide +kernel
theorem dX3_firstWrong_34 : decode cX3_firstWrong 34 = .ok (.iaload, 1) := by decide +kernel
theorem dX3_firstWrong_35 : decode cX3_firstWrong 35 = .ok (.if_icmp .eq 5, 3) := by decide +kernel
theorem dX3_firstWrong_38 : decode cX3_firstWrong 38 = .ok (.iload_n 1, 1) := by decide +kernel
theorem dX3_firstWrong_39 : decode cX3_firstWrong 39 = .ok (.ireturn, 1) := by decide +kernel
theorem dX3_firstWrong_40 : decode cX3_firstWrong 40 = .ok (.iinc 1 1, 3) := by decide +kernel
theorem dX3_firstWrong_43 : decode cX3_firstWrong 43 = .ok (.goto (-41), 3) := by decide +kernel
theorem dX3_firstWrong_46 : decode cX3_firstWrong 46 = .ok (.iconst (-1), 1) := by decide +kernel
theorem dX3_firstWrong_47 : decode cX3_firstWrong 47 = .ok (.ireturn, 1) := by decide +kernel
theorem dX4_init_0 : decode cX4_init 0 = .ok (.aload_n 0, 1) := by decide +kernel
theorem dX4_init_1 : decode cX4_init 1 = .ok (.invokespecial 3, 3) := by decide +kernel
theorem dX4_init_4 : decode cX4_init 4 = .ok (.aload_n 0, 1) := by decide +kernel
theorem dX4_init_5 : decode cX4_init 5 = .ok (.bipush 20, 2) := by decide +kernel
theorem dX4_init_7 : decode cX4_init 7 = .ok (.anewarray 9, 3) := by decide +kernel
theorem dX4_init_10 : decode cX4_init 10 = .ok (.putfield 11, 3) := by decide +kernel
theorem dX4_init_13 : decode cX4_init 13 = .ok (.iconst 0, 1) := by decide +kernel
theorem dX4_init_14 : decode cX4_init 14 = .ok (.istore_n 1, 1) := by decide +kernel
theorem dX4_init_15 : decode cX4_init 15 = .ok (.iload_n 1, 1) := by decide +kernel
theorem dX4_init_16 : decode cX4_init 16 = .ok (.bipush 20, 2) := by decide +kernel
theorem dX4_init_18 : decode cX4_init 18 = .ok (.if_icmp .ge 22, 3) := by decide +kernel
theorem dX4_init_21 : decode cX4_init 21 = .ok (.aload_n 0, 1) := by decide +kernel
theorem dX4_init_22 : decode cX4_init 22 = .ok (.getfield 11, 3) := by decide +kernel
theorem dX4_init_25 : decode cX4_init 25 = .ok (.iload_n 1, 1) := by decide +kernel
theorem dX4_init_26 : decode cX4_init 26 = .ok (.new 9, 3) := by decide +kernel
theorem dX4_init_29 : decode cX4_init 29 = .ok (.dup, 1) := by decide +kernel
theorem dX4_init_30 : decode cX4_init 30 = .ok (.invokespecial 17, 3) := by decide +kernel
theorem dX4_init_33 : decode cX4_init 33 = .ok (.aastore, 1) := by decide +kernel
theorem dX4_init_34 : decode cX4_init 34 = .ok (.iinc 1 1, 3) := by decide +kernel
theorem dX4_init_37 : decode cX4_init 37 = .ok (.goto (-22), 3) := by decide +kernel
theorem dX4_init_40 : decode cX4_init 40 = .ok (.return_, 1) := by decide +kernel
theorem dX4_forget_0 : decode cX4_forget 0 = .ok (.aload_n 0, 1) := by decide +kernel
theorem dX4_forget_1 : decode cX4_forget 1 = .ok (.iconst 0, 1) := by decide +kernel
theorem dX4_forget_2 : decode cX4_forget 2 = .ok (.putfield 18, 3) := by decide +kernel
theorem dX4_forget_5 : decode cX4_forget 5 = .ok (.return_, 1) := by decide +kernel
theorem dX4_remember_0 : decode cX4_remember 0 = .ok (.aload_n 0, 1) := by decide +kernel
theorem dX4_remember_1 : decode cX4_remember 1 = .ok (.getfield 22, 3) := by decide +kernel
theorem dX4_remember_4 : decode cX4_remember 4 = .ok (.ifCond .lt 12, 3) := by decide +kernel
theorem dX4_remember_7 : decode cX4_remember 7 = .ok (.aload_n 0, 1) := by decide +kernel
theorem dX4_remember_8 : decode cX4_remember 8 = .ok (.getfield 22, 3) := by decide +kernel
theorem dX4_remember_11 : decode cX4_remember 11 = .ok (.bipush 20, 2) := by decide +kernel
theorem dX4_remember_13 : decode cX4_remember 13 = .ok (.if_icmp .lt 4, 3) := by decide +kernel
theorem dX4_remember_16 : decode cX4_remember 16 = .ok (.return_, 1) := by decide +kernel
theorem dX4_remember_17 : decode cX4_remember 17 = .ok (.aload_n 0, 1) := by decide +kernel
theorem dX4_remember_18 : decode cX4_remember 18 = .ok (.getfield 11, 3) := by decide +kernel
theorem dX4_remember_21 : decode cX4_remember 21 = .ok (.aload_n 0, 1) := by decide +kernel
theorem dX4_remember_22 : decode cX4_remember 22 = .ok (.getfield 22, 3) := by decide +kernel
theorem dX4_remember_25 : decode cX4_remember 25 = .ok (.aaload, 1) := by decide +kernel
theorem dX4_remember_26 : decode cX4_remember 26 = .ok (.aload_n 1, 1) := by decide +kernel
theorem dX4_remember_27 : decode cX4_remember 27 = .ok (.invokevirtual 25, 3) := by decide +kernel
theorem dX4_remember_30 : decode cX4_remember 30 = .ok (.aload_n 0, 1) := by decide +kernel
theorem dX4_remember_31 : decode cX4_remember 31 = .ok (.aload_n 0, 1) := by decide +kernel
theorem dX4_remember_32 : decode cX4_remember 32 = .ok (.getfield 22, 3) := by decide +kernel
theorem dX4_remember_35 : decode cX4_remember 35 = .ok (.iconst 1, 1) := by decide +kernel
theorem dX4_remember_36 : decode cX4_remember 36 = .ok (.iadd, 1) := by decide +kernel
theorem dX4_remember_37 : decode cX4_remember 37 = .ok (.bipush 20, 2) := by decide +kernel
theorem dX4_remember_39 : decode cX4_remember 39 = .ok (.irem, 1) := by decide +kernel
theorem dX4_remember_40 : decode cX4_remember 40 = .ok (.putfield 22, 3) := by decide +kernel
theorem dX4_remember_43 : decode cX4_remember 43 = .ok (.aload_n 0, 1) := by decide +kernel
theorem dX4_remember_44 : decode cX4_remember 44 = .ok (.aload_n 0, 1) := by decide +kernel
theorem dX4_remember_45 : decode cX4_remember 45 = .ok (.getfield 18, 3) := by decide +kernel
theorem dX4_remember_48 : decode cX4_remember 48 = .ok (.iconst 1, 1) := by decide +kernel
theorem dX4_remember_49 : decode cX4_remember 49 = .ok (.iadd, 1) := by decide +kernel
theorem dX4_remember_50 : decode cX4_remember 50 = .ok (.bipush 20, 2) := by decide +kernel
theorem dX4_remember_52 : decode cX4_remember 52 = .ok (.invokestatic 29, 3) := by decide +kernel
theorem dX4_remember_55 : decode cX4_remember 55 = .ok (.putfield 18, 3) := by decide +kernel
theorem dX4_remember_58 : decode cX4_remember 58 = .ok (.return_, 1) := by decide +kernel
theorem dX4_bringBack_0 : decode cX4_bringBack 0 = .ok (.aload_n 0, 1) := by decide +kernel
theorem dX4_bringBack_1 : decode cX4_bringBack 1 = .ok (.getfield 22, 3) := by decide +kernel
theorem dX4_bringBack_4 : decode cX4_bringBack 4 = .ok (.bipush 20, 2) := by decide +kernel
theorem dX4_bringBack_6 : decode cX4_bringBack 6 = .ok (.iadd, 1) := by decide +kernel
theorem dX4_bringBack_7 : decode cX4_bringBack 7 = .ok (.iconst 1, 1) := by decide +kernel
theorem dX4_bringBack_8 : decode cX4_bringBack 8 = .ok (.isub, 1) := by decide +kernel
theorem dX4_bringBack_9 : decode cX4_bringBack 9 = .ok (.bipush 20, 2) := by decide +kernel
theorem dX4_bringBack_11 : decode cX4_bringBack 11 = .ok (.irem, 1) := by decide +kernel
theorem dX4_bringBack_12 : decode cX4_bringBack 12 = .ok (.istore_n 2, 1) := by decide +kernel
theorem dX4_bringBack_13 : decode cX4_bringBack 13 = .ok (.aload_n 0, 1) := by decide +kernel
theorem dX4_bringBack_14 : decode cX4_bringBack 14 = .ok (.getfield 18, 3) := by decide +kernel
theorem dX4_bringBack_17 : decode cX4_bringBack 17 = .ok (.ifCond .eq 7, 3) := by decide +kernel
theorem dX4_bringBack_20 : decode cX4_bringBack 20 = .ok (.iload_n 2, 1) := by decide +kernel
theorem dX4_bringBack_21 : decode cX4_bringBack 21 = .ok (.ifCond .ge 5, 3) := by decide +kernel
theorem dX4_bringBack_24 : decode cX4_bringBack 24 = .ok (.iconst 0, 1) := by decide +kernel
theorem dX4_bringBack_25 : decode cX4_bringBack 25 = .ok (.ireturn, 1) := by decide +kernel
theorem dX4_bringBack_26 : decode cX4_bringBack 26 = .ok (.aload_n 1, 1) := by decide +kernel
theorem dX4_bringBack_27 : decode cX4_bringBack 27 = .ok (.aload_n 0, 1) := by decide +kernel
theorem dX4_bringBack_28 : decode cX4_bringBack 28 = .ok (.getfield 11, 3) := by decide +kernel
theorem dX4_bringBack_31 : decode cX4_bringBack 31 = .ok (.iload_n 2, 1) := by decide +kernel
theorem dX4_bringBack_32 : decode cX4_bringBack 32 = .ok (.aaload, 1) := by decide +kernel
theorem dX4_bringBack_33 : decode cX4_bringBack 33 = .ok (.invokevirtual 25, 3) := by decide +kernel
theorem dX4_bringBack_36 : decode cX4_bringBack 36 = .ok (.aload_n 0, 1) := by decide +kernel
theorem dX4_bringBack_37 : decode cX4_bringBack 37 = .ok (.iload_n 2, 1) := by decide +kernel
theorem dX4_bringBack_38 : decode cX4_bringBack 38 = .ok (.putfield 22, 3) := by decide +kernel
theorem dX4_bringBack_41 : decode cX4_bringBack 41 = .ok (.aload_n 0, 1) := by decide +kernel
theorem dX4_bringBack_42 : decode cX4_bringBack 42 = .ok (.dup, 1) := by decide +kernel
theorem dX4_bringBack_43 : decode cX4_bringBack 43 = .ok (.getfield 18, 3) := by decide +kernel
theorem dX4_bringBack_46 : decode cX4_bringBack 46 = .ok (.iconst 1, 1) := by decide +kernel
theorem dX4_bringBack_47 : decode cX4_bringBack 47 = .ok (.isub, 1) := by decide +kernel
theorem dX4_bringBack_48 : decode cX4_bringBack 48 = .ok (.putfield 18, 3) := by decide +kernel
theorem dX4_bringBack_51 : decode cX4_bringBack 51 = .ok (.iconst 1, 1) := by decide +kernel
theorem dX4_bringBack_52 : decode cX4_bringBack 52 = .ok (.ireturn, 1) := by decide +kernel
theorem dX5_init_0 : decode cX5_init 0 = .ok (.aload_n 0, 1) := by decide +kernel
theorem dX5_init_1 : decode cX5_init 1 = .ok (.invokespecial 3, 3) := by decide +kernel
theorem dX5_init_4 : decode cX5_init 4 = .ok (.aload_n 0, 1) := by decide +kernel
theorem dX5_init_5 : decode cX5_init 5 = .ok (.bipush 8, 2) := by decide +kernel
theorem dX5_init_7 : decode cX5_init 7 = .ok (.newarray .int, 2) := by decide +kernel
theorem dX5_init_9 : decode cX5_init 9 = .ok (.putfield 9, 3) := by decide +kernel
theorem dX5_init_12 : decode cX5_init 12 = .ok (.aload_n 0, 1) := by decide +kernel
theorem dX5_init_13 : decode cX5_init 13 = .ok (.iconst 4, 1) := by decide +kernel
theorem dX5_init_14 : decode cX5_init 14 = .ok (.newarray .int, 2) := by decide +kernel
theorem dX5_init_16 : decode cX5_init 16 = .ok (.putfield 15, 3) := by decide +kernel
theorem dX5_init_19 : decode cX5_init 19 = .ok (.aload_n 0, 1) := by decide +kernel
theorem dX5_init_20 : decode cX5_init 20 = .ok (.iconst 4, 1) := by decide +kernel
theorem dX5_init_21 : decode cX5_init 21 = .ok (.newarray .int, 2) := by decide +kernel
theorem dX5_init_23 : decode cX5_init 23 = .ok (.putfield 18, 3) := by decide +kernel
theorem dX5_init_26 : decode cX5_init 26 = .ok (.aload_n 0, 1) := by decide +kernel
theorem dX5_init_27 : decode cX5_init 27 = .ok (.bipush 8, 2) := by decide +kernel
theorem dX5_init_29 : decode cX5_init 29 = .ok (.newarray .int, 2) := by decide +kernel
theorem dX5_init_31 : decode cX5_init 31 = .ok (.putfield 21, 3) := by decide +kernel
theorem dX5_init_34 : decode cX5_init 34 = .ok (.aload_n 0, 1) := by decide +kernel
theorem dX5_init_35 : decode cX5_init 35 = .ok (.bipush 8, 2) := by decide +kernel
theorem dX5_init_37 : decode cX5_init 37 = .ok (.newarray .int, 2) := by decide +kernel
theorem dX5_init_39 : decode cX5_init 39 = .ok (.putfield 24, 3) := by decide +kernel
theorem dX5_init_42 : decode cX5_init 42 = .ok (.aload_n 0, 1) := by decide +kernel
theorem dX5_init_43 : decode cX5_init 43 = .ok (.iconst 4, 1) := by decide +kernel
theorem dX5_init_44 : decode cX5_init 44 = .ok (.newarray .int, 2) := by decide +kernel
theorem dX5_init_46 : decode cX5_init 46 = .ok (.putfield 27, 3) := by decide +kernel
theorem dX5_init_49 : decode cX5_init 49 = .ok (.aload_n 0, 1) := by decide +kernel
theorem dX5_init_50 : decode cX5_init 50 = .ok (.iconst 4, 1) := by decide +kernel
theorem dX5_init_51 : decode cX5_init 51 = .ok (.newarray .int, 2) := by decide +kernel
theorem dX5_init_53 : decode cX5_init 53 = .ok (.putfield 30, 3) := by decide +kernel
theorem dX5_init_56 : decode cX5_init 56 = .ok (.return_, 1) := by decide +kernel
theorem dX5_clear_0 : decode cX5_clear 0 = .ok (.aload_n 0, 1) := by decide +kernel
theorem dX5_clear_1 : decode cX5_clear 1 = .ok (.iconst 0, 1) := by decide +kernel
theorem dX5_clear_2 : decode cX5_clear 2 = .ok (.putfield 33, 3) := by decide +kernel
theorem dX5_clear_5 : decode cX5_clear 5 = .ok (.aload_n 0, 1) := by decide +kernel
theorem dX5_clear_6 : decode cX5_clear 6 = .ok (.iconst 0, 1) := by decide +kernel
theorem dX5_clear_7 : decode cX5_clear 7 = .ok (.putfield 37, 3) := by decide +kernel
theorem dX5_clear_10 : decode cX5_clear 10 = .ok (.aload_n 0, 1) := by decide +kernel
theorem dX5_clear_11 : decode cX5_clear 11 = .ok (.iconst 0, 1) := by decide +kernel
theorem dX5_clear_12 : decode cX5_clear 12 = .ok (.putfield 40, 3) := by decide +kernel
theorem dX5_clear_15 : decode cX5_clear 15 = .ok (.aload_n 0, 1) := by decide +kernel
theorem dX5_clear_16 : decode cX5_clear 16 = .ok (.iconst 0, 1) := by decide +kernel
theorem dX5_clear_17 : decode cX5_clear 17 = .ok (.putfield 43, 3) := by decide +kernel
theorem dX5_clear_20 : decode cX5_clear 20 = .ok (.aload_n 0, 1) := by decide +kernel
theorem dX5_clear_21 : decode cX5_clear 21 = .ok (.iconst 0, 1) := by decide +kernel
theorem dX5_clear_22 : decode cX5_clear 22 = .ok (.putfield 46, 3) := by decide +kernel
theorem dX5_clear_25 : decode cX5_clear 25 = .ok (.aload_n 0, 1) := by decide +kernel
theorem dX5_clear_26 : decode cX5_clear 26 = .ok (.iconst 0, 1) := by decide +kernel
theorem dX5_clear_27 : decode cX5_clear 27 = .ok (.putfield 49, 3) := by decide +kernel
theorem dX5_clear_30 : decode cX5_clear 30 = .ok (.iconst 0, 1) := by decide +kernel
theorem dX5_clear_31 : decode cX5_clear 31 = .ok (.istore_n 1, 1) := by decide +kernel
theorem dX5_clear_32 : decode cX5_clear 32 = .ok (.iload_n 1, 1) := by decide +kernel
theorem dX5_clear_33 : decode cX5_clear 33 = .ok (.bipush 8, 2) := by decide +kernel
theorem dX5_clear_35 : decode cX5_clear 35 = .ok (.if_icmp .ge 16, 3) := by decide +kernel
theorem dX5_clear_38 : decode cX5_clear 38 = .ok (.aload_n 0, 1) := by decide +kernel
theorem dX5_clear_39 : decode cX5_clear 39 = .ok (.getfield 9, 3) := by decide +kernel
theorem dX5_clear_42 : decode cX5_clear 42 = .ok (.iload_n 1, 1) := by decide +kernel
theorem dX5_clear_43 : decode cX5_clear 43 = .ok (.iconst 0, 1) := by decide +kernel
theorem dX5_clear_44 : decode cX5_clear 44 = .ok (.iastore, 1) := by decide +kernel
theorem dX5_clear_45 : decode cX5_clear 45 = .ok (.iinc 1 1, 3) := by decide +kernel
theorem dX5_clear_48 : decode cX5_clear 48 = .ok (.goto (-16), 3) := by decide +kernel
theorem dX5_clear_51 : decode cX5_clear 51 = .ok (.return_, 1) := by decide +kernel
theorem dX5_become_0 : decode cX5_become 0 = .ok (.aload_n 0, 1) := by decide +kernel
theorem dX5_become_1 : decode cX5_become 1 = .ok (.aload_n 1, 1) := by decide +kernel
theorem dX5_become_2 : decode cX5_become 2 = .ok (.getfield 33, 3) := by decide +kernel
theorem dX5_become_5 : decode cX5_become 5 = .ok (.putfield 33, 3) := by decide +kernel
theorem dX5_become_8 : decode cX5_become 8 = .ok (.aload_n 0, 1) := by decide +kernel
theorem dX5_become_9 : decode cX5_become 9 = .ok (.aload_n 1, 1) := by decide +kernel
theorem dX5_become_10 : decode cX5_become 10 = .ok (.getfield 37, 3) := by decide +kernel
theorem dX5_become_13 : decode cX5_become 13 = .ok (.putfield 37, 3) := by decide +kernel
theorem dX5_become_16 : decode cX5_become 16 = .ok (.aload_n 0, 1) := by decide +kernel
theorem dX5_become_17 : decode cX5_become 17 = .ok (.aload_n 1, 1) := by decide +kernel
theorem dX5_become_18 : decode cX5_become 18 = .ok (.getfield 40, 3) := by decide +kernel
theorem dX5_become_21 : decode cX5_become 21 = .ok (.putfield 40, 3) := by decide +kernel
theorem dX5_become_24 : decode cX5_become 24 = .ok (.aload_n 0, 1) := by decide +kernel
theorem dX5_become_25 : decode cX5_become 25 = .ok (.aload_n 1, 1) := by decide +kernel
theorem dX5_become_26 : decode cX5_become 26 = .ok (.getfield 43, 3) := by decide +kernel
theorem dX5_become_29 : decode cX5_become 29 = .ok (.putfield 43, 3) := by decide +kernel
theorem dX5_become_32 : decode cX5_become 32 = .ok (.aload_n 0, 1) := by decide +kernel
theorem dX5_become_33 : decode cX5_become 33 = .ok (.aload_n 1, 1) := by decide +kernel
theorem dX5_become_34 : decode cX5_become 34 = .ok (.getfield 46, 3) := by decide +kernel
theorem dX5_become_37 : decode cX5_become 37 = .ok (.putfield 46, 3) := by decide +kernel
theorem dX5_become_40 : decode cX5_become 40 = .ok (.aload_n 0, 1) := by decide +kernel
theorem dX5_become_41 : decode cX5_become 41 = .ok (.aload_n 1, 1) := by decide +kernel
theorem dX5_become_42 : decode cX5_become 42 = .ok (.getfield 49, 3) := by decide +kernel
theorem dX5_become_45 : decode cX5_become 45 = .ok (.putfield 49, 3) := by decide +kernel
theorem dX5_become_48 : decode cX5_become 48 = .ok (.aload_n 1, 1) := by decide +kernel
theorem dX5_become_49 : decode cX5_become 49 = .ok (.getfield 9, 3) := by decide +kernel
theorem dX5_become_52 : decode cX5_become 52 = .ok (.iconst 0, 1) := by decide +kernel
theorem dX5_become_53 : decode cX5_become 53 = .ok (.aload_n 0, 1) := by decide +kernel
theorem dX5_become_54 : decode cX5_become 54 = .ok (.getfield 9, 3) := by decide +kernel
theorem dX5_become_57 : decode cX5_become 57 = .ok (.iconst 0, 1) := by decide +kernel
theorem dX5_become_58 : decode cX5_become 58 = .ok (.bipush 8, 2) := by decide +kernel
theorem dX5_become_60 : decode cX5_become 60 = .ok (.invokestatic 52, 3) := by decide +kernel
theorem dX5_become_63 : decode cX5_become 63 = .ok (.aload_n 1, 1) := by decide +kernel
theorem dX5_become_64 : decode cX5_become 64 = .ok (.getfield 15, 3) := by decide +kernel
theorem dX5_become_67 : decode cX5_become 67 = .ok (.iconst 0, 1) := by decide +kernel
theorem dX5_become_68 : decode cX5_become 68 = .ok (.aload_n 0, 1) := by decide +kernel
theorem dX5_become_69 : decode cX5_become 69 = .ok (.getfield 15, 3) := by decide +kernel
theorem dX5_become_72 : decode cX5_become 72 = .ok (.iconst 0, 1) := by decide +kernel
theorem dX5_become_73 : decode cX5_become 73 = .ok (.iconst 4, 1) := by decide +kernel
theorem dX5_become_74 : decode cX5_become 74 = .ok (.invokestatic 52, 3) := by decide +kernel
theorem dX5_become_77 : decode cX5_become 77 = .ok (.aload_n 1, 1) := by decide +kernel
theorem dX5_become_78 : decode cX5_become 78 = .ok (.getfield 18, 3) := by decide +kernel
theorem dX5_become_81 : decode cX5_become 81 = .ok (.iconst 0, 1) := by decide +kernel
theorem dX5_become_82 : decode cX5_become 82 = .ok (.aload_n 0, 1) := by decide +kernel
theorem dX5_become_83 : decode cX5_become 83 = .ok (.getfield 18, 3) := by decide +kernel
theorem dX5_become_86 : decode cX5_become 86 = .ok (.iconst 0, 1) := by decide +kernel
theorem dX5_become_87 : decode cX5_become 87 = .ok (.iconst 4, 1) := by decide +kernel
theorem dX5_become_88 : decode cX5_become 88 = .ok (.invokestatic 52, 3) := by decide +kernel
theorem dX5_become_91 : decode cX5_become 91 = .ok (.aload_n 1, 1) := by decide +kernel
theorem dX5_become_92 : decode cX5_become 92 = .ok (.getfield 21, 3) := by decide +kernel
theorem dX5_become_95 : decode cX5_become 95 = .ok (.iconst 0, 1) := by decide +kernel
theorem dX5_become_96 : decode cX5_become 96 = .ok (.aload_n 0, 1) := by decide +kernel
theorem dX5_become_97 : decode cX5_become 97 = .ok (.getfield 21, 3) := by decide +kernel
theorem dX5_become_100 : decode cX5_become 100 = .ok (.iconst 0, 1) := by decide +kernel
theorem dX5_become_101 : decode cX5_become 101 = .ok (.bipush 8, 2) := by decide +kernel
theorem dX5_become_103 : decode cX5_become 103 = .ok (.invokestatic 52, 3) := by decide +kernel
theorem dX5_become_106 : decode cX5_become 106 = .ok (.aload_n 1, 1) := by decide +kernel
theorem dX5_become_107 : decode cX5_become 107 = .ok (.getfield 24, 3) := by decide +kernel
theorem dX5_become_110 : decode cX5_become 110 = .ok (.iconst 0, 1) := by decide +kernel
theorem dX5_become_111 : decode cX5_become 111 = .ok (.aload_n 0, 1) := by decide +kernel
theorem dX5_become_112 : decode cX5_become 112 = .ok (.getfield 24, 3) := by decide +kernel
theorem dX5_become_115 : decode cX5_become 115 = .ok (.iconst 0, 1) := by decide +kernel
theorem dX5_become_116 : decode cX5_become 116 = .ok (.bipush 8, 2) := by decide +kernel
theorem dX5_become_118 : decode cX5_become 118 = .ok (.invokestatic 52, 3) := by decide +kernel
theorem dX5_become_121 : decode cX5_become 121 = .ok (.aload_n 1, 1) := by decide +kernel
theorem dX5_become_122 : decode cX5_become 122 = .ok (.getfield 27, 3) := by decide +kernel
theorem dX5_become_125 : decode cX5_become 125 = .ok (.iconst 0, 1) := by decide +kernel
theorem dX5_become_126 : decode cX5_become 126 = .ok (.aload_n 0, 1) := by decide +kernel
theorem dX5_become_127 : decode cX5_become 127 = .ok (.getfield 27, 3) := by decide +kernel
theorem dX5_become_130 : decode cX5_become 130 = .ok (.iconst 0, 1) := by decide +kernel
theorem dX5_become_131 : decode cX5_become 131 = .ok (.iconst 4, 1) := by decide +kernel
theorem dX5_become_132 : decode cX5_become 132 = .ok (.invokestatic 52, 3) := by decide +kernel
theorem dX5_become_135 : decode cX5_become 135 = .ok (.aload_n 1, 1) := by decide +kernel
theorem dX5_become_136 : decode cX5_become 136 = .ok (.getfield 30, 3) := by decide +kernel
theorem dX5_become_139 : decode cX5_become 139 = .ok (.iconst 0, 1) := by decide +kernel
theorem dX5_become_140 : decode cX5_become 140 = .ok (.aload_n 0, 1) := by decide +kernel
theorem dX5_become_141 : decode cX5_become 141 = .ok (.getfield 30, 3) := by decide +kernel
theorem dX5_become_144 : decode cX5_become 144 = .ok (.iconst 0, 1) := by decide +kernel
theorem dX5_become_145 : decode cX5_become 145 = .ok (.iconst 4, 1) := by decide +kernel
theorem dX5_become_146 : decode cX5_become 146 = .ok (.invokestatic 52, 3) := by decide +kernel
theorem dX5_become_149 : decode cX5_become 149 = .ok (.return_, 1) := by decide +kernel
theorem dX5_hasRoom_0 : decode cX5_hasRoom 0 = .ok (.iload_n 1, 1) := by decide +kernel
theorem dX5_hasRoom_1 : decode cX5_hasRoom 1 = .ok (.ifCond .lt 21, 3) := by decide +kernel
theorem dX5_hasRoom_4 : decode cX5_hasRoom 4 = .ok (.iload_n 1, 1) := by decide +kernel
theorem dX5_hasRoom_5 : decode cX5_hasRoom 5 = .ok (.aload_n 0, 1) := by decide +kernel
theorem dX5_hasRoom_6 : decode cX5_hasRoom 6 = .ok (.getfield 33, 3) := by decide +kernel
theorem dX5_hasRoom_9 : decode cX5_hasRoom 9 = .ok (.if_icmp .ge 13, 3) := by decide +kernel
theorem dX5_hasRoom_12 : decode cX5_hasRoom 12 = .ok (.iload_n 1, 1) := by decide +kernel
theorem dX5_hasRoom_13 : decode cX5_hasRoom 13 = .ok (.bipush 8, 2) := by decide +kernel
theorem dX5_hasRoom_15 : decode cX5_hasRoom 15 = .ok (.if_icmp .ge 7, 3) := by decide +kernel
theorem dX5_hasRoom_18 : decode cX5_hasRoom 18 = .ok (.iconst 1, 1) := by decide +kernel
theorem dX5_hasRoom_19 : decode cX5_hasRoom 19 = .ok (.goto 4, 3) := by decide +kernel
theorem dX5_hasRoom_22 : decode cX5_hasRoom 22 = .ok (.iconst 0, 1) := by decide +kernel
theorem dX5_hasRoom_23 : decode cX5_hasRoom 23 = .ok (.ireturn, 1) := by decide +kernel
theorem dX5_hasWaiter_0 : decode cX5_hasWaiter 0 = .ok (.iload_n 1, 1) := by decide +kernel
theorem dX5_hasWaiter_1 : decode cX5_hasWaiter 1 = .ok (.ifCond .lt 20, 3) := by decide +kernel
theorem dX5_hasWaiter_4 : decode cX5_hasWaiter 4 = .ok (.iload_n 1, 1) := by decide +kernel
theorem dX5_hasWaiter_5 : decode cX5_hasWaiter 5 = .ok (.aload_n 0, 1) := by decide +kernel
theorem dX5_hasWaiter_6 : decode cX5_hasWaiter 6 = .ok (.getfield 43, 3) := by decide +kernel
theorem dX5_hasWaiter_9 : decode cX5_hasWaiter 9 = .ok (.if_icmp .ge 12, 3) := by decide +kernel
theorem dX5_hasWaiter_12 : decode cX5_hasWaiter 12 = .ok (.iload_n 1, 1) := by decide +kernel
theorem dX5_hasWaiter_13 : decode cX5_hasWaiter 13 = .ok (.iconst 4, 1) := by decide +kernel
theorem dX5_hasWaiter_14 : decode cX5_hasWaiter 14 = .ok (.if_icmp .ge 7, 3) := by decide +kernel
theorem dX5_hasWaiter_17 : decode cX5_hasWaiter 17 = .ok (.iconst 1, 1) := by decide +kernel
theorem dX5_hasWaiter_18 : decode cX5_hasWaiter 18 = .ok (.goto 4, 3) := by decide +kernel
theorem dX5_hasWaiter_21 : decode cX5_hasWaiter 21 = .ok (.iconst 0, 1) := by decide +kernel
theorem dX5_hasWaiter_22 : decode cX5_hasWaiter 22 = .ok (.ireturn, 1) := by decide +kernel
theorem dX5_hasTwoWaiters_0 : decode cX5_hasTwoWaiters 0 = .ok (.aload_n 0, 1) := by decide +kernel
theorem dX5_hasTwoWaiters_1 : decode cX5_hasTwoWaiters 1 = .ok (.iload_n 1, 1) := by decide +kernel
theorem dX5_hasTwoWaiters_2 : decode cX5_hasTwoWaiters 2 = .ok (.invokevirtual 58, 3) := by decide +kernel
theorem dX5_hasTwoWaiters_5 : decode cX5_hasTwoWaiters 5 = .ok (.ifCond .eq 20, 3) := by decide +kernel
theorem dX5_hasTwoWaiters_8 : decode cX5_hasTwoWaiters 8 = .ok (.aload_n 0, 1) := by decide +kernel
theorem dX5_hasTwoWaiters_9 : decode cX5_hasTwoWaiters 9 = .ok (.iload_n 2, 1) := by decide +kernel
theorem dX5_hasTwoWaiters_10 : decode cX5_hasTwoWaiters 10 = .ok (.invokevirtual 58, 3) := by decide +kernel
theorem dX5_hasTwoWaiters_13 : decode cX5_hasTwoWaiters 13 = .ok (.ifCond .eq 12, 3) := by decide +kernel
theorem dX5_hasTwoWaiters_16 : decode cX5_hasTwoWaiters 16 = .ok (.iload_n 1, 1) := by decide +kernel
theorem dX5_hasTwoWaiters_17 : decode cX5_hasTwoWaiters 17 = .ok (.iload_n 2, 1) := by decide +kernel
theorem dX5_hasTwoWaiters_18 : decode cX5_hasTwoWaiters 18 = .ok (.if_icmp .eq 7, 3) := by decide +kernel
theorem dX5_hasTwoWaiters_21 : decode cX5_hasTwoWaiters 21 = .ok (.iconst 1, 1) := by decide +kernel
theorem dX5_hasTwoWaiters_22 : decode cX5_hasTwoWaiters 22 = .ok (.goto 4, 3) := by decide +kernel
theorem dX5_hasTwoWaiters_25 : decode cX5_hasTwoWaiters 25 = .ok (.iconst 0, 1) := by decide +kernel
theorem dX5_hasTwoWaiters_26 : decode cX5_hasTwoWaiters 26 = .ok (.ireturn, 1) := by decide +kernel
theorem dX5_hasThing_0 : decode cX5_hasThing 0 = .ok (.iload_n 1, 1) := by decide +kernel
theorem dX5_hasThing_1 : decode cX5_hasThing 1 = .ok (.ifCond .lt 21, 3) := by decide +kernel
theorem dX5_hasThing_4 : decode cX5_hasThing 4 = .ok (.iload_n 1, 1) := by decide +kernel
theorem dX5_hasThing_5 : decode cX5_hasThing 5 = .ok (.aload_n 0, 1) := by decide +kernel
theorem dX5_hasThing_6 : decode cX5_hasThing 6 = .ok (.getfield 46, 3) := by decide +kernel
theorem dX5_hasThing_9 : decode cX5_hasThing 9 = .ok (.if_icmp .ge 13, 3) := by decide +kernel
theorem dX5_hasThing_12 : decode cX5_hasThing 12 = .ok (.iload_n 1, 1) := by decide +kernel
theorem dX5_hasThing_13 : decode cX5_hasThing 13 = .ok (.bipush 8, 2) := by decide +kernel
theorem dX5_hasThing_15 : decode cX5_hasThing 15 = .ok (.if_icmp .ge 7, 3) := by decide +kernel
theorem dX5_hasThing_18 : decode cX5_hasThing 18 = .ok (.iconst 1, 1) := by decide +kernel
theorem dX5_hasThing_19 : decode cX5_hasThing 19 = .ok (.goto 4, 3) := by decide +kernel
theorem dX5_hasThing_22 : decode cX5_hasThing 22 = .ok (.iconst 0, 1) := by decide +kernel
theorem dX5_hasThing_23 : decode cX5_hasThing 23 = .ok (.ireturn, 1) := by decide +kernel
theorem dX5_hasOrder_0 : decode cX5_hasOrder 0 = .ok (.iload_n 1, 1) := by decide +kernel
theorem dX5_hasOrder_1 : decode cX5_hasOrder 1 = .ok (.ifCond .lt 20, 3) := by decide +kernel
theorem dX5_hasOrder_4 : decode cX5_hasOrder 4 = .ok (.iload_n 1, 1) := by decide +kernel
theorem dX5_hasOrder_5 : decode cX5_hasOrder 5 = .ok (.aload_n 0, 1) := by decide +kernel
theorem dX5_hasOrder_6 : decode cX5_hasOrder 6 = .ok (.getfield 49, 3) := by decide +kernel
theorem dX5_hasOrder_9 : decode cX5_hasOrder 9 = .ok (.if_icmp .ge 12, 3) := by decide +kernel
theorem dX5_hasOrder_12 : decode cX5_hasOrder 12 = .ok (.iload_n 1, 1) := by decide +kernel
theorem dX5_hasOrder_13 : decode cX5_hasOrder 13 = .ok (.iconst 4, 1) := by decide +kernel
theorem dX5_hasOrder_14 : decode cX5_hasOrder 14 = .ok (.if_icmp .ge 7, 3) := by decide +kernel
theorem dX5_hasOrder_17 : decode cX5_hasOrder 17 = .ok (.iconst 1, 1) := by decide +kernel
theorem dX5_hasOrder_18 : decode cX5_hasOrder 18 = .ok (.goto 4, 3) := by decide +kernel
theorem dX5_hasOrder_21 : decode cX5_hasOrder 21 = .ok (.iconst 0, 1) := by decide +kernel
theorem dX5_hasOrder_22 : decode cX5_hasOrder 22 = .ok (.ireturn, 1) := by decide +kernel
theorem dX5_isFull_0 : decode cX5_isFull 0 = .ok (.iload_n 1, 1) := by decide +kernel
theorem dX5_isFull_1 : decode cX5_isFull 1 = .ok (.tableswitch 109 111 119 #[95, 51, 109, 109, 109, 80, 109, 109, 66], 51) := by decide +kernel
theorem dX5_isFull_52 : decode cX5_isFull 52 = .ok (.aload_n 0, 1) := by decide +kernel
theorem dX5_isFull_53 : decode cX5_isFull 53 = .ok (.getfield 40, 3) := by decide +kernel
theorem dX5_isFull_56 : decode cX5_isFull 56 = .ok (.bipush 12, 2) := by decide +kernel
theorem dX5_isFull_58 : decode cX5_isFull 58 = .ok (.if_icmp .lt 7, 3) := by decide +kernel
theorem dX5_isFull_61 : decode cX5_isFull 61 = .ok (.iconst 1, 1) := by decide +kernel
theorem dX5_isFull_62 : decode cX5_isFull 62 = .ok (.goto 4, 3) := by decide +kernel
theorem dX5_isFull_65 : decode cX5_isFull 65 = .ok (.iconst 0, 1) := by decide +kernel
theorem dX5_isFull_66 : decode cX5_isFull 66 = .ok (.ireturn, 1) := by decide +kernel
theorem dX5_isFull_67 : decode cX5_isFull 67 = .ok (.aload_n 0, 1) := by decide +kernel
theorem dX5_isFull_68 : decode cX5_isFull 68 = .ok (.getfield 43, 3) := by decide +kernel
theorem dX5_isFull_71 : decode cX5_isFull 71 = .ok (.iconst 4, 1) := by decide +kernel
theorem dX5_isFull_72 : decode cX5_isFull 72 = .ok (.if_icmp .lt 7, 3) := by decide +kernel
theorem dX5_isFull_75 : decode cX5_isFull 75 = .ok (.iconst 1, 1) := by decide +kernel
theorem dX5_isFull_76 : decode cX5_isFull 76 = .ok (.goto 4, 3) := by decide +kernel
theorem dX5_isFull_79 : decode cX5_isFull 79 = .ok (.iconst 0, 1) := by decide +kernel
theorem dX5_isFull_80 : decode cX5_isFull 80 = .ok (.ireturn, 1) := by decide +kernel
theorem dX5_isFull_81 : decode cX5_isFull 81 = .ok (.aload_n 0, 1) := by decide +kernel
theorem dX5_isFull_82 : decode cX5_isFull 82 = .ok (.getfield 46, 3) := by decide +kernel
theorem dX5_isFull_85 : decode cX5_isFull 85 = .ok (.bipush 8, 2) := by decide +kernel
theorem dX5_isFull_87 : decode cX5_isFull 87 = .ok (.if_icmp .lt 7, 3) := by decide +kernel
theorem dX5_isFull_90 : decode cX5_isFull 90 = .ok (.iconst 1, 1) := by decide +kernel
theorem dX5_isFull_91 : decode cX5_isFull 91 = .ok (.goto 4, 3) := by decide +kernel
theorem dX5_isFull_94 : decode cX5_isFull 94 = .ok (.iconst 0, 1) := by decide +kernel
theorem dX5_isFull_95 : decode cX5_isFull 95 = .ok (.ireturn, 1) := by decide +kernel
theorem dX5_isFull_96 : decode cX5_isFull 96 = .ok (.aload_n 0, 1) := by decide +kernel
theorem dX5_isFull_97 : decode cX5_isFull 97 = .ok (.getfield 49, 3) := by decide +kernel
theorem dX5_isFull_100 : decode cX5_isFull 100 = .ok (.iconst 4, 1) := by decide +kernel
theorem dX5_isFull_101 : decode cX5_isFull 101 = .ok (.if_icmp .lt 7, 3) := by decide +kernel
theorem dX5_isFull_104 : decode cX5_isFull 104 = .ok (.iconst 1, 1) := by decide +kernel
theorem dX5_isFull_105 : decode cX5_isFull 105 = .ok (.goto 4, 3) := by decide +kernel
theorem dX5_isFull_108 : decode cX5_isFull 108 = .ok (.iconst 0, 1) := by decide +kernel
theorem dX5_isFull_109 : decode cX5_isFull 109 = .ok (.ireturn, 1) := by decide +kernel
theorem dX5_isFull_110 : decode cX5_isFull 110 = .ok (.aload_n 0, 1) := by decide +kernel
theorem dX5_isFull_111 : decode cX5_isFull 111 = .ok (.getfield 33, 3) := by decide +kernel
theorem dX5_isFull_114 : decode cX5_isFull 114 = .ok (.ifCond .le 7, 3) := by decide +kernel
theorem dX5_isFull_117 : decode cX5_isFull 117 = .ok (.iconst 1, 1) := by decide +kernel
theorem dX5_isFull_118 : decode cX5_isFull 118 = .ok (.goto 4, 3) := by decide +kernel
theorem dX5_isFull_121 : decode cX5_isFull 121 = .ok (.iconst 0, 1) := by decide +kernel
theorem dX5_isFull_122 : decode cX5_isFull 122 = .ok (.ireturn, 1) := by decide +kernel
theorem dX5_add_0 : decode cX5_add 0 = .ok (.aload_n 0, 1) := by decide +kernel
theorem dX5_add_1 : decode cX5_add 1 = .ok (.iload_n 1, 1) := by decide +kernel
theorem dX5_add_2 : decode cX5_add 2 = .ok (.invokevirtual 62, 3) := by decide +kernel
theorem dX5_add_5 : decode cX5_add 5 = .ok (.ifCond .eq 4, 3) := by decide +kernel
theorem dX5_add_8 : decode cX5_add 8 = .ok (.return_, 1) := by decide +kernel
theorem dX5_add_9 : decode cX5_add 9 = .ok (.iload_n 1, 1) := by decide +kernel
theorem dX5_add_10 : decode cX5_add 10 = .ok (.tableswitch 174 111 119 #[141, 50, 174, 174, 174, 108, 174, 174, 75], 50) := by decide +kernel
theorem dX5_add_60 : decode cX5_add 60 = .ok (.aload_n 0, 1) := by decide +kernel
theorem dX5_add_61 : decode cX5_add 61 = .ok (.iload_n 2, 1) := by decide +kernel
theorem dX5_add_62 : decode cX5_add 62 = .ok (.iload_n 3, 1) := by decide +kernel
theorem dX5_add_63 : decode cX5_add 63 = .ok (.invokevirtual 65, 3) := by decide +kernel
theorem dX5_add_66 : decode cX5_add 66 = .ok (.aload_n 0, 1) := by decide +kernel
theorem dX5_add_67 : decode cX5_add 67 = .ok (.iload_n 3, 1) := by decide +kernel
theorem dX5_add_68 : decode cX5_add 68 = .ok (.iload_n 2, 1) := by decide +kernel
theorem dX5_add_69 : decode cX5_add 69 = .ok (.invokevirtual 65, 3) := by decide +kernel
theorem dX5_add_72 : decode cX5_add 72 = .ok (.aload_n 0, 1) := by decide +kernel
theorem dX5_add_73 : decode cX5_add 73 = .ok (.dup, 1) := by decide +kernel
theorem dX5_add_74 : decode cX5_add 74 = .ok (.getfield 40, 3) := by decide +kernel
theorem dX5_add_77 : decode cX5_add 77 = .ok (.iconst 1, 1) := by decide +kernel
theorem dX5_add_78 : decode cX5_add 78 = .ok (.iadd, 1) := by decide +kernel
theorem dX5_add_79 : decode cX5_add 79 = .ok (.putfield 40, 3) := by decide +kernel
theorem dX5_add_82 : decode cX5_add 82 = .ok (.goto 112, 3) := by decide +kernel
theorem dX5_add_85 : decode cX5_add 85 = .ok (.aload_n 0, 1) := by decide +kernel
theorem dX5_add_86 : decode cX5_add 86 = .ok (.getfield 15, 3) := by decide +kernel
theorem dX5_add_89 : decode cX5_add 89 = .ok (.aload_n 0, 1) := by decide +kernel
theorem dX5_add_90 : decode cX5_add 90 = .ok (.getfield 43, 3) := by decide +kernel
theorem dX5_add_93 : decode cX5_add 93 = .ok (.iload_n 2, 1) := by decide +kernel
theorem dX5_add_94 : decode cX5_add 94 = .ok (.iastore, 1) := by decide +kernel
theorem dX5_add_95 : decode cX5_add 95 = .ok (.aload_n 0, 1) := by decide +kernel
theorem dX5_add_96 : decode cX5_add 96 = .ok (.getfield 18, 3) := by decide +kernel
theorem dX5_add_99 : decode cX5_add 99 = .ok (.aload_n 0, 1) := by decide +kernel
theorem dX5_add_100 : decode cX5_add 100 = .ok (.getfield 43, 3) := by decide +kernel
theorem dX5_add_103 : decode cX5_add 103 = .ok (.iload_n 3, 1) := by decide +kernel
theorem dX5_add_104 : decode cX5_add 104 = .ok (.iastore, 1) := by decide +kernel
theorem dX5_add_105 : decode cX5_add 105 = .ok (.aload_n 0, 1) := by decide +kernel
theorem dX5_add_106 : decode cX5_add 106 = .ok (.dup, 1) := by decide +kernel
theorem dX5_add_107 : decode cX5_add 107 = .ok (.getfield 43, 3) := by decide +kernel
theorem dX5_add_110 : decode cX5_add 110 = .ok (.iconst 1, 1) := by decide +kernel
theorem dX5_add_111 : decode cX5_add 111 = .ok (.iadd, 1) := by decide +kernel
theorem dX5_add_112 : decode cX5_add 112 = .ok (.putfield 43, 3) := by decide +kernel
theorem dX5_add_115 : decode cX5_add 115 = .ok (.goto 79, 3) := by decide +kernel
theorem dX5_add_118 : decode cX5_add 118 = .ok (.aload_n 0, 1) := by decide +kernel
theorem dX5_add_119 : decode cX5_add 119 = .ok (.getfield 21, 3) := by decide +kernel
theorem dX5_add_122 : decode cX5_add 122 = .ok (.aload_n 0, 1) := by decide +kernel
theorem dX5_add_123 : decode cX5_add 123 = .ok (.getfield 46, 3) := by decide +kernel
theorem dX5_add_126 : decode cX5_add 126 = .ok (.iload_n 2, 1) := by decide +kernel
theorem dX5_add_127 : decode cX5_add 127 = .ok (.iastore, 1) := by decide +kernel
theorem dX5_add_128 : decode cX5_add 128 = .ok (.aload_n 0, 1) := by decide +kernel
theorem dX5_add_129 : decode cX5_add 129 = .ok (.getfield 24, 3) := by decide +kernel
theorem dX5_add_132 : decode cX5_add 132 = .ok (.aload_n 0, 1) := by decide +kernel
theorem dX5_add_133 : decode cX5_add 133 = .ok (.getfield 46, 3) := by decide +kernel
theorem dX5_add_136 : decode cX5_add 136 = .ok (.iload_n 3, 1) := by decide +kernel
theorem dX5_add_137 : decode cX5_add 137 = .ok (.iastore, 1) := by decide +kernel
theorem dX5_add_138 : decode cX5_add 138 = .ok (.aload_n 0, 1) := by decide +kernel
theorem dX5_add_139 : decode cX5_add 139 = .ok (.dup, 1) := by decide +kernel
theorem dX5_add_140 : decode cX5_add 140 = .ok (.getfield 46, 3) := by decide +kernel
theorem dX5_add_143 : decode cX5_add 143 = .ok (.iconst 1, 1) := by decide +kernel
theorem dX5_add_144 : decode cX5_add 144 = .ok (.iadd, 1) := by decide +kernel
theorem dX5_add_145 : decode cX5_add 145 = .ok (.putfield 46, 3) := by decide +kernel
theorem dX5_add_148 : decode cX5_add 148 = .ok (.goto 46, 3) := by decide +kernel
theorem dX5_add_151 : decode cX5_add 151 = .ok (.aload_n 0, 1) := by decide +kernel
theorem dX5_add_152 : decode cX5_add 152 = .ok (.getfield 27, 3) := by decide +kernel
theorem dX5_add_155 : decode cX5_add 155 = .ok (.aload_n 0, 1) := by decide +kernel
theorem dX5_add_156 : decode cX5_add 156 = .ok (.getfield 49, 3) := by decide +kernel
theorem dX5_add_159 : decode cX5_add 159 = .ok (.iload_n 2, 1) := by decide +kernel
theorem dX5_add_160 : decode cX5_add 160 = .ok (.iastore, 1) := by decide +kernel
theorem dX5_add_161 : decode cX5_add 161 = .ok (.aload_n 0, 1) := by decide +kernel
theorem dX5_add_162 : decode cX5_add 162 = .ok (.getfield 30, 3) := by decide +kernel
theorem dX5_add_165 : decode cX5_add 165 = .ok (.aload_n 0, 1) := by decide +kernel
theorem dX5_add_166 : decode cX5_add 166 = .ok (.getfield 49, 3) := by decide +kernel
theorem dX5_add_169 : decode cX5_add 169 = .ok (.iload_n 3, 1) := by decide +kernel
theorem dX5_add_170 : decode cX5_add 170 = .ok (.iastore, 1) := by decide +kernel
theorem dX5_add_171 : decode cX5_add 171 = .ok (.aload_n 0, 1) := by decide +kernel
theorem dX5_add_172 : decode cX5_add 172 = .ok (.dup, 1) := by decide +kernel
theorem dX5_add_173 : decode cX5_add 173 = .ok (.getfield 49, 3) := by decide +kernel
theorem dX5_add_176 : decode cX5_add 176 = .ok (.iconst 1, 1) := by decide +kernel
theorem dX5_add_177 : decode cX5_add 177 = .ok (.iadd, 1) := by decide +kernel
theorem dX5_add_178 : decode cX5_add 178 = .ok (.putfield 49, 3) := by decide +kernel
theorem dX5_add_181 : decode cX5_add 181 = .ok (.goto 13, 3) := by decide +kernel
theorem dX5_add_184 : decode cX5_add 184 = .ok (.aload_n 0, 1) := by decide +kernel
theorem dX5_add_185 : decode cX5_add 185 = .ok (.iload_n 2, 1) := by decide +kernel
theorem dX5_add_186 : decode cX5_add 186 = .ok (.putfield 33, 3) := by decide +kernel
theorem dX5_add_189 : decode cX5_add 189 = .ok (.aload_n 0, 1) := by decide +kernel
theorem dX5_add_190 : decode cX5_add 190 = .ok (.iload_n 3, 1) := by decide +kernel
theorem dX5_add_191 : decode cX5_add 191 = .ok (.putfield 37, 3) := by decide +kernel
theorem dX5_add_194 : decode cX5_add 194 = .ok (.return_, 1) := by decide +kernel
theorem dX5_join_0 : decode cX5_join 0 = .ok (.aload_n 0, 1) := by decide +kernel
theorem dX5_join_1 : decode cX5_join 1 = .ok (.iload_n 1, 1) := by decide +kernel
theorem dX5_join_2 : decode cX5_join 2 = .ok (.invokevirtual 69, 3) := by decide +kernel
theorem dX5_join_5 : decode cX5_join 5 = .ok (.ifCond .eq 15, 3) := by decide +kernel
theorem dX5_join_8 : decode cX5_join 8 = .ok (.aload_n 0, 1) := by decide +kernel
theorem dX5_join_9 : decode cX5_join 9 = .ok (.getfield 9, 3) := by decide +kernel
theorem dX5_join_12 : decode cX5_join 12 = .ok (.iload_n 1, 1) := by decide +kernel
theorem dX5_join_13 : decode cX5_join 13 = .ok (.dup2, 1) := by decide +kernel
theorem dX5_join_14 : decode cX5_join 14 = .ok (.iaload, 1) := by decide +kernel
theorem dX5_join_15 : decode cX5_join 15 = .ok (.iconst 1, 1) := by decide +kernel
theorem dX5_join_16 : decode cX5_join 16 = .ok (.iload_n 2, 1) := by decide +kernel
theorem dX5_join_17 : decode cX5_join 17 = .ok (.ishl, 1) := by decide +kernel
theorem dX5_join_18 : decode cX5_join 18 = .ok (.ior, 1) := by decide +kernel
theorem dX5_join_19 : decode cX5_join 19 = .ok (.iastore, 1) := by decide +kernel
theorem dX5_join_20 : decode cX5_join 20 = .ok (.return_, 1) := by decide +kernel
theorem dX5_joinedTo_0 : decode cX5_joinedTo 0 = .ok (.aload_n 0, 1) := by decide +kernel
theorem dX5_joinedTo_1 : decode cX5_joinedTo 1 = .ok (.iload_n 1, 1) := by decide +kernel
theorem dX5_joinedTo_2 : decode cX5_joinedTo 2 = .ok (.invokevirtual 69, 3) := by decide +kernel
theorem dX5_joinedTo_5 : decode cX5_joinedTo 5 = .ok (.ifCond .eq 12, 3) := by decide +kernel
theorem dX5_joinedTo_8 : decode cX5_joinedTo 8 = .ok (.aload_n 0, 1) := by decide +kernel
theorem dX5_joinedTo_9 : decode cX5_joinedTo 9 = .ok (.getfield 9, 3) := by decide +kernel
theorem dX5_joinedTo_12 : decode cX5_joinedTo 12 = .ok (.iload_n 1, 1) := by decide +kernel
theorem dX5_joinedTo_13 : decode cX5_joinedTo 13 = .ok (.iaload, 1) := by decide +kernel
theorem dX5_joinedTo_14 : decode cX5_joinedTo 14 = .ok (.goto 4, 3) := by decide +kernel
theorem dX5_joinedTo_17 : decode cX5_joinedTo 17 = .ok (.iconst 0, 1) := by decide +kernel
theorem dX5_joinedTo_18 : decode cX5_joinedTo 18 = .ok (.ireturn, 1) := by decide +kernel
theorem dX5_joinedToAny_0 : decode cX5_joinedToAny 0 = .ok (.iconst 0, 1) := by decide +kernel
theorem dX5_joinedToAny_1 : decode cX5_joinedToAny 1 = .ok (.istore_n 2, 1) := by decide +kernel
theorem dX5_joinedToAny_2 : decode cX5_joinedToAny 2 = .ok (.iconst 0, 1) := by decide +kernel
theorem dX5_joinedToAny_3 : decode cX5_joinedToAny 3 = .ok (.istore_n 3, 1) := by decide +kernel
theorem dX5_joinedToAny_4 : decode cX5_joinedToAny 4 = .ok (.iload_n 3, 1) := by decide +kernel
theorem dX5_joinedToAny_5 : decode cX5_joinedToAny 5 = .ok (.bipush 8, 2) := by decide +kernel
theorem dX5_joinedToAny_7 : decode cX5_joinedToAny 7 = .ok (.if_icmp .ge 26, 3) := by decide +kernel
theorem dX5_joinedToAny_10 : decode cX5_joinedToAny 10 = .ok (.iload_n 1, 1) := by decide +kernel
theorem dX5_joinedToAny_11 : decode cX5_joinedToAny 11 = .ok (.iload_n 3, 1) := by decide +kernel
theorem dX5_joinedToAny_12 : decode cX5_joinedToAny 12 = .ok (.invokestatic 72, 3) := by decide +kernel
theorem dX5_joinedToAny_15 : decode cX5_joinedToAny 15 = .ok (.ifCond .eq 12, 3) := by decide +kernel
theorem dX5_joinedToAny_18 : decode cX5_joinedToAny 18 = .ok (.iload_n 2, 1) := by decide +kernel
theorem dX5_joinedToAny_19 : decode cX5_joinedToAny 19 = .ok (.aload_n 0, 1) := by decide +kernel
theorem dX5_joinedToAny_20 : decode cX5_joinedToAny 20 = .ok (.getfield 9, 3) := by decide +kernel
theorem dX5_joinedToAny_23 : decode cX5_joinedToAny 23 = .ok (.iload_n 3, 1) := by decide +kernel
theorem dX5_joinedToAny_24 : decode cX5_joinedToAny 24 = .ok (.iaload, 1) := by decide +kernel
theorem dX5_joinedToAny_25 : decode cX5_joinedToAny 25 = .ok (.ior, 1) := by decide +kernel
theorem dX5_joinedToAny_26 : decode cX5_joinedToAny 26 = .ok (.istore_n 2, 1) := by decide +kernel
theorem dX5_joinedToAny_27 : decode cX5_joinedToAny 27 = .ok (.iinc 3 1, 3) := by decide +kernel
theorem dX5_joinedToAny_30 : decode cX5_joinedToAny 30 = .ok (.goto (-26), 3) := by decide +kernel
theorem dX5_joinedToAny_33 : decode cX5_joinedToAny 33 = .ok (.iload_n 2, 1) := by decide +kernel
theorem dX5_joinedToAny_34 : decode cX5_joinedToAny 34 = .ok (.ireturn, 1) := by decide +kernel
theorem dX5_hasAllRooms_0 : decode cX5_hasAllRooms 0 = .ok (.iload_n 1, 1) := by decide +kernel
theorem dX5_hasAllRooms_1 : decode cX5_hasAllRooms 1 = .ok (.istore_n 2, 1) := by decide +kernel
theorem dX5_hasAllRooms_2 : decode cX5_hasAllRooms 2 = .ok (.iconst 0, 1) := by decide +kernel
theorem dX5_hasAllRooms_3 : decode cX5_hasAllRooms 3 = .ok (.istore_n 3, 1) := by decide +kernel
theorem dX5_hasAllRooms_4 : decode cX5_hasAllRooms 4 = .ok (.iload_n 3, 1) := by decide +kernel
theorem dX5_hasAllRooms_5 : decode cX5_hasAllRooms 5 = .ok (.bipush 9, 2) := by decide +kernel
theorem dX5_hasAllRooms_7 : decode cX5_hasAllRooms 7 = .ok (.if_icmp .ge 33, 3) := by decide +kernel
theorem dX5_hasAllRooms_10 : decode cX5_hasAllRooms 10 = .ok (.iload_n 2, 1) := by decide +kernel
theorem dX5_hasAllRooms_11 : decode cX5_hasAllRooms 11 = .ok (.ifCond .le 29, 3) := by decide +kernel
theorem dX5_hasAllRooms_14 : decode cX5_hasAllRooms 14 = .ok (.aload_n 0, 1) := by decide +kernel
theorem dX5_hasAllRooms_15 : decode cX5_hasAllRooms 15 = .ok (.iload_n 2, 1) := by decide +kernel
theorem dX5_hasAllRooms_16 : decode cX5_hasAllRooms 16 = .ok (.bipush 10, 2) := by decide +kernel
theorem dX5_hasAllRooms_18 : decode cX5_hasAllRooms 18 = .ok (.irem, 1) := by decide +kernel
theorem dX5_hasAllRooms_19 : decode cX5_hasAllRooms 19 = .ok (.iconst 1, 1) := by decide +kernel
theorem dX5_hasAllRooms_20 : decode cX5_hasAllRooms 20 = .ok (.isub, 1) := by decide +kernel
theorem dX5_hasAllRooms_21 : decode cX5_hasAllRooms 21 = .ok (.invokevirtual 69, 3) := by decide +kernel
theorem dX5_hasAllRooms_24 : decode cX5_hasAllRooms 24 = .ok (.ifCond .ne 5, 3) := by decide +kernel
theorem dX5_hasAllRooms_27 : decode cX5_hasAllRooms 27 = .ok (.iconst 0, 1) := by decide +kernel
theorem dX5_hasAllRooms_28 : decode cX5_hasAllRooms 28 = .ok (.ireturn, 1) := by decide +kernel
theorem dX5_hasAllRooms_29 : decode cX5_hasAllRooms 29 = .ok (.iload_n 2, 1) := by decide +kernel
theorem dX5_hasAllRooms_30 : decode cX5_hasAllRooms 30 = .ok (.bipush 10, 2) := by decide +kernel
theorem dX5_hasAllRooms_32 : decode cX5_hasAllRooms 32 = .ok (.idiv, 1) := by decide +kernel
theorem dX5_hasAllRooms_33 : decode cX5_hasAllRooms 33 = .ok (.istore_n 2, 1) := by decide +kernel
theorem dX5_hasAllRooms_34 : decode cX5_hasAllRooms 34 = .ok (.iinc 3 1, 3) := by decide +kernel
theorem dX5_hasAllRooms_37 : decode cX5_hasAllRooms 37 = .ok (.goto (-33), 3) := by decide +kernel
theorem dX5_hasAllRooms_40 : decode cX5_hasAllRooms 40 = .ok (.iconst 1, 1) := by decide +kernel
theorem dX5_hasAllRooms_41 : decode cX5_hasAllRooms 41 = .ok (.ireturn, 1) := by decide +kernel
theorem dX5_canBeGone_0 : decode cX5_canBeGone 0 = .ok (.iload_n 1, 1) := by decide +kernel
theorem dX5_canBeGone_1 : decode cX5_canBeGone 1 = .ok (.istore_n 3, 1) := by decide +kernel
theorem dX5_canBeGone_2 : decode cX5_canBeGone 2 = .ok (.iload_n 2, 1) := by decide +kernel
theorem dX5_canBeGone_3 : decode cX5_canBeGone 3 = .ok (.istore 4, 2) := by decide +kernel
theorem dX5_canBeGone_5 : decode cX5_canBeGone 5 = .ok (.iconst 0, 1) := by decide +kernel
theorem dX5_canBeGone_6 : decode cX5_canBeGone 6 = .ok (.istore 5, 2) := by decide +kernel
theorem dX5_canBeGone_8 : decode cX5_canBeGone 8 = .ok (.iload 5, 2) := by decide +kernel
theorem dX5_canBeGone_10 : decode cX5_canBeGone 10 = .ok (.bipush 9, 2) := by decide +kernel
theorem dX5_canBeGone_12 : decode cX5_canBeGone 12 = .ok (.if_icmp .ge 48, 3) := by decide +kernel
theorem dX5_canBeGone_15 : decode cX5_canBeGone 15 = .ok (.iload 4, 2) := by decide +kernel
theorem dX5_canBeGone_17 : decode cX5_canBeGone 17 = .ok (.ifCond .le 43, 3) := by decide +kernel
theorem dX5_canBeGone_20 : decode cX5_canBeGone 20 = .ok (.iload 4, 2) := by decide +kernel
theorem dX5_canBeGone_22 : decode cX5_canBeGone 22 = .ok (.bipush 10, 2) := by decide +kernel
theorem dX5_canBeGone_24 : decode cX5_canBeGone 24 = .ok (.irem, 1) := by decide +kernel
theorem dX5_canBeGone_25 : decode cX5_canBeGone 25 = .ok (.iconst 1, 1) := by decide +kernel
theorem dX5_canBeGone_26 : decode cX5_canBeGone 26 = .ok (.isub, 1) := by decide +kernel
theorem dX5_canBeGone_27 : decode cX5_canBeGone 27 = .ok (.istore 6, 2) := by decide +kernel
theorem dX5_canBeGone_29 : decode cX5_canBeGone 29 = .ok (.aload_n 0, 1) := by decide +kernel
theorem dX5_canBeGone_30 : decode cX5_canBeGone 30 = .ok (.iload_n 3, 1) := by decide +kernel
theorem dX5_canBeGone_31 : decode cX5_canBeGone 31 = .ok (.invokevirtual 76, 3) := by decide +kernel
theorem dX5_canBeGone_34 : decode cX5_canBeGone 34 = .ok (.iload 6, 2) := by decide +kernel
theorem dX5_canBeGone_36 : decode cX5_canBeGone 36 = .ok (.invokestatic 72, 3) := by decide +kernel
theorem dX5_canBeGone_39 : decode cX5_canBeGone 39 = .ok (.ifCond .ne 5, 3) := by decide +kernel
theorem dX5_canBeGone_42 : decode cX5_canBeGone 42 = .ok (.iconst 0, 1) := by decide +kernel
theorem dX5_canBeGone_43 : decode cX5_canBeGone 43 = .ok (.ireturn, 1) := by decide +kernel
theorem dX5_canBeGone_44 : decode cX5_canBeGone 44 = .ok (.iload 6, 2) := by decide +kernel
theorem dX5_canBeGone_46 : decode cX5_canBeGone 46 = .ok (.istore_n 3, 1) := by decide +kernel
theorem dX5_canBeGone_47 : decode cX5_canBeGone 47 = .ok (.iload 4, 2) := by decide +kernel
theorem dX5_canBeGone_49 : decode cX5_canBeGone 49 = .ok (.bipush 10, 2) := by decide +kernel
theorem dX5_canBeGone_51 : decode cX5_canBeGone 51 = .ok (.idiv, 1) := by decide +kernel
theorem dX5_canBeGone_52 : decode cX5_canBeGone 52 = .ok (.istore 4, 2) := by decide +kernel
theorem dX5_canBeGone_54 : decode cX5_canBeGone 54 = .ok (.iinc 5 1, 3) := by decide +kernel
theorem dX5_canBeGone_57 : decode cX5_canBeGone 57 = .ok (.goto (-49), 3) := by decide +kernel
theorem dX5_canBeGone_60 : decode cX5_canBeGone 60 = .ok (.iconst 1, 1) := by decide +kernel
theorem dX5_canBeGone_61 : decode cX5_canBeGone 61 = .ok (.ireturn, 1) := by decide +kernel
theorem dX5_distance_0 : decode cX5_distance 0 = .ok (.iconst 1, 1) := by decide +kernel
theorem dX5_distance_1 : decode cX5_distance 1 = .ok (.iload_n 1, 1) := by decide +kernel
theorem dX5_distance_2 : decode cX5_distance 2 = .ok (.ishl, 1) := by decide +kernel
theorem dX5_distance_3 : decode cX5_distance 3 = .ok (.istore_n 3, 1) := by decide +kernel
theorem dX5_distance_4 : decode cX5_distance 4 = .ok (.iconst 0, 1) := by decide +kernel
theorem dX5_distance_5 : decode cX5_distance 5 = .ok (.istore 4, 2) := by decide +kernel
theorem dX5_distance_7 : decode cX5_distance 7 = .ok (.iload 4, 2) := by decide +kernel
theorem dX5_distance_9 : decode cX5_distance 9 = .ok (.bipush 8, 2) := by decide +kernel
theorem dX5_distance_11 : decode cX5_distance 11 = .ok (.if_icmp .ge 28, 3) := by decide +kernel
theorem dX5_distance_14 : decode cX5_distance 14 = .ok (.iload_n 3, 1) := by decide +kernel
theorem dX5_distance_15 : decode cX5_distance 15 = .ok (.iload_n 2, 1) := by decide +kernel
theorem dX5_distance_16 : decode cX5_distance 16 = .ok (.invokestatic 72, 3) := by decide +kernel
theorem dX5_distance_19 : decode cX5_distance 19 = .ok (.ifCond .eq 6, 3) := by decide +kernel
theorem dX5_distance_22 : decode cX5_distance 22 = .ok (.iload 4, 2) := by decide +kernel
theorem dX5_distance_24 : decode cX5_distance 24 = .ok (.ireturn, 1) := by decide +kernel
theorem dX5_distance_25 : decode cX5_distance 25 = .ok (.iload_n 3, 1) := by decide +kernel
theorem dX5_distance_26 : decode cX5_distance 26 = .ok (.aload_n 0, 1) := by decide +kernel
theorem dX5_distance_27 : decode cX5_distance 27 = .ok (.iload_n 3, 1) := by decide +kernel
theorem dX5_distance_28 : decode cX5_distance 28 = .ok (.invokevirtual 80, 3) := by decide +kernel
theorem dX5_distance_31 : decode cX5_distance 31 = .ok (.ior, 1) := by decide +kernel
theorem dX5_distance_32 : decode cX5_distance 32 = .ok (.istore_n 3, 1) := by decide +kernel
theorem dX5_distance_33 : decode cX5_distance 33 = .ok (.iinc 4 1, 3) := by decide +kernel
theorem dX5_distance_36 : decode cX5_distance 36 = .ok (.goto (-29), 3) := by decide +kernel
theorem dX5_distance_39 : decode cX5_distance 39 = .ok (.iconst (-1), 1) := by decide +kernel
theorem dX5_distance_40 : decode cX5_distance 40 = .ok (.ireturn, 1) := by decide +kernel
theorem dX5_nextTowards_0 : decode cX5_nextTowards 0 = .ok (.aload_n 0, 1) := by decide +kernel
theorem dX5_nextTowards_1 : decode cX5_nextTowards 1 = .ok (.iload_n 1, 1) := by decide +kernel
theorem dX5_nextTowards_2 : decode cX5_nextTowards 2 = .ok (.iload_n 2, 1) := by decide +kernel
theorem dX5_nextTowards_3 : decode cX5_nextTowards 3 = .ok (.invokevirtual 83, 3) := by decide +kernel
theorem dX5_nextTowards_6 : decode cX5_nextTowards 6 = .ok (.istore_n 3, 1) := by decide +kernel
theorem dX5_nextTowards_7 : decode cX5_nextTowards 7 = .ok (.iload_n 3, 1) := by decide +kernel
theorem dX5_nextTowards_8 : decode cX5_nextTowards 8 = .ok (.ifCond .gt 5, 3) := by decide +kernel
theorem dX5_nextTowards_11 : decode cX5_nextTowards 11 = .ok (.iconst (-1), 1) := by decide +kernel
theorem dX5_nextTowards_12 : decode cX5_nextTowards 12 = .ok (.ireturn, 1) := by decide +kernel
theorem dX5_nextTowards_13 : decode cX5_nextTowards 13 = .ok (.iconst 0, 1) := by decide +kernel
theorem dX5_nextTowards_14 : decode cX5_nextTowards 14 = .ok (.istore 4, 2) := by decide +kernel
theorem dX5_nextTowards_16 : decode cX5_nextTowards 16 = .ok (.iload 4, 2) := by decide +kernel
theorem dX5_nextTowards_18 : decode cX5_nextTowards 18 = .ok (.aload_n 0, 1) := by decide +kernel
theorem dX5_nextTowards_19 : decode cX5_nextTowards 19 = .ok (.getfield 33, 3) := by decide +kernel
theorem dX5_nextTowards_22 : decode cX5_nextTowards 22 = .ok (.if_icmp .ge 38, 3) := by decide +kernel
theorem dX5_nextTowards_25 : decode cX5_nextTowards 25 = .ok (.aload_n 0, 1) := by decide +kernel
theorem dX5_nextTowards_26 : decode cX5_nextTowards 26 = .ok (.iload_n 1, 1) := by decide +kernel
theorem dX5_nextTowards_27 : decode cX5_nextTowards 27 = .ok (.invokevirtual 76, 3) := by decide +kernel
theorem dX5_nextTowards_30 : decode cX5_nextTowards 30 = .ok (.iload 4, 2) := by decide +kernel
theorem dX5_nextTowards_32 : decode cX5_nextTowards 32 = .ok (.invokestatic 72, 3) := by decide +kernel
theorem dX5_nextTowards_35 : decode cX5_nextTowards 35 = .ok (.ifCond .eq 19, 3) := by decide +kernel
theorem dX5_nextTowards_38 : decode cX5_nextTowards 38 = .ok (.aload_n 0, 1) := by decide +kernel
theorem dX5_nextTowards_39 : decode cX5_nextTowards 39 = .ok (.iload 4, 2) := by decide +kernel
theorem dX5_nextTowards_41 : decode cX5_nextTowards 41 = .ok (.iload_n 2, 1) := by decide +kernel
theorem dX5_nextTowards_42 : decode cX5_nextTowards 42 = .ok (.invokevirtual 83, 3) := by decide +kernel
theorem dX5_nextTowards_45 : decode cX5_nextTowards 45 = .ok (.iload_n 3, 1) := by decide +kernel
theorem dX5_nextTowards_46 : decode cX5_nextTowards 46 = .ok (.iconst 1, 1) := by decide +kernel
theorem dX5_nextTowards_47 : decode cX5_nextTowards 47 = .ok (.isub, 1) := by decide +kernel
theorem dX5_nextTowards_48 : decode cX5_nextTowards 48 = .ok (.if_icmp .ne 6, 3) := by decide +kernel
theorem dX5_nextTowards_51 : decode cX5_nextTowards 51 = .ok (.iload 4, 2) := by decide +kernel
theorem dX5_nextTowards_53 : decode cX5_nextTowards 53 = .ok (.ireturn, 1) := by decide +kernel
theorem dX5_nextTowards_54 : decode cX5_nextTowards 54 = .ok (.iinc 4 1, 3) := by decide +kernel
theorem dX5_nextTowards_57 : decode cX5_nextTowards 57 = .ok (.goto (-41), 3) := by decide +kernel
theorem dX5_nextTowards_60 : decode cX5_nextTowards 60 = .ok (.iconst (-1), 1) := by decide +kernel
theorem dX5_nextTowards_61 : decode cX5_nextTowards 61 = .ok (.ireturn, 1) := by decide +kernel
theorem dX5_weightOf_0 : decode cX5_weightOf 0 = .ok (.aload_n 0, 1) := by decide +kernel
theorem dX5_weightOf_1 : decode cX5_weightOf 1 = .ok (.getfield 21, 3) := by decide +kernel
theorem dX5_weightOf_4 : decode cX5_weightOf 4 = .ok (.iload_n 1, 1) := by decide +kernel
theorem dX5_weightOf_5 : decode cX5_weightOf 5 = .ok (.invokestatic 87, 3) := by decide +kernel
theorem dX5_weightOf_8 : decode cX5_weightOf 8 = .ok (.ireturn, 1) := by decide +kernel
theorem dX5_worthOf_0 : decode cX5_worthOf 0 = .ok (.aload_n 0, 1) := by decide +kernel
theorem dX5_worthOf_1 : decode cX5_worthOf 1 = .ok (.getfield 24, 3) := by decide +kernel
theorem dX5_worthOf_4 : decode cX5_worthOf 4 = .ok (.iload_n 1, 1) := by decide +kernel
theorem dX5_worthOf_5 : decode cX5_worthOf 5 = .ok (.invokestatic 87, 3) := by decide +kernel
theorem dX5_worthOf_8 : decode cX5_worthOf 8 = .ok (.ireturn, 1) := by decide +kernel
theorem dX5_sumOf_0 : decode cX5_sumOf 0 = .ok (.iconst 0, 1) := by decide +kernel
theorem dX5_sumOf_1 : decode cX5_sumOf 1 = .ok (.istore_n 2, 1) := by decide +kernel
theorem dX5_sumOf_2 : decode cX5_sumOf 2 = .ok (.iconst 0, 1) := by decide +kernel
theorem dX5_sumOf_3 : decode cX5_sumOf 3 = .ok (.istore_n 3, 1) := by decide +kernel
theorem dX5_sumOf_4 : decode cX5_sumOf 4 = .ok (.iload_n 3, 1) := by decide +kernel
theorem dX5_sumOf_5 : decode cX5_sumOf 5 = .ok (.aload_n 0, 1) := by decide +kernel
theorem dX5_sumOf_6 : decode cX5_sumOf 6 = .ok (.arraylength, 1) := by decide +kernel
theorem dX5_sumOf_7 : decode cX5_sumOf 7 = .ok (.if_icmp .ge 23, 3) := by decide +kernel
theorem dX5_sumOf_10 : decode cX5_sumOf 10 = .ok (.iload_n 1, 1) := by decide +kernel
theorem dX5_sumOf_11 : decode cX5_sumOf 11 = .ok (.iload_n 3, 1) := by decide +kernel
theorem dX5_sumOf_12 : decode cX5_sumOf 12 = .ok (.invokestatic 72, 3) := by decide +kernel
theorem dX5_sumOf_15 : decode cX5_sumOf 15 = .ok (.ifCond .eq 9, 3) := by decide +kernel
theorem dX5_sumOf_18 : decode cX5_sumOf 18 = .ok (.iload_n 2, 1) := by decide +kernel
theorem dX5_sumOf_19 : decode cX5_sumOf 19 = .ok (.aload_n 0, 1) := by decide +kernel
theorem dX5_sumOf_20 : decode cX5_sumOf 20 = .ok (.iload_n 3, 1) := by decide +kernel
theorem dX5_sumOf_21 : decode cX5_sumOf 21 = .ok (.iaload, 1) := by decide +kernel
theorem dX5_sumOf_22 : decode cX5_sumOf 22 = .ok (.iadd, 1) := by decide +kernel
theorem dX5_sumOf_23 : decode cX5_sumOf 23 = .ok (.istore_n 2, 1) := by decide +kernel
theorem dX5_sumOf_24 : decode cX5_sumOf 24 = .ok (.iinc 3 1, 3) := by decide +kernel
theorem dX5_sumOf_27 : decode cX5_sumOf 27 = .ok (.goto (-23), 3) := by decide +kernel
theorem dX5_sumOf_30 : decode cX5_sumOf 30 = .ok (.iload_n 2, 1) := by decide +kernel
theorem dX5_sumOf_31 : decode cX5_sumOf 31 = .ok (.ireturn, 1) := by decide +kernel
theorem dX5_heaviestOf_0 : decode cX5_heaviestOf 0 = .ok (.iconst (-1), 1) := by decide +kernel
theorem dX5_heaviestOf_1 : decode cX5_heaviestOf 1 = .ok (.istore_n 2, 1) := by decide +kernel
theorem dX5_heaviestOf_2 : decode cX5_heaviestOf 2 = .ok (.iconst 0, 1) := by decide +kernel
theorem dX5_heaviestOf_3 : decode cX5_heaviestOf 3 = .ok (.istore_n 3, 1) := by decide +kernel
theorem dX5_heaviestOf_4 : decode cX5_heaviestOf 4 = .ok (.iconst 0, 1) := by decide +kernel
theorem dX5_heaviestOf_5 : decode cX5_heaviestOf 5 = .ok (.istore 4, 2) := by decide +kernel
theorem dX5_heaviestOf_7 : decode cX5_heaviestOf 7 = .ok (.iload 4, 2) := by decide +kernel
theorem dX5_heaviestOf_9 : decode cX5_heaviestOf 9 = .ok (.bipush 8, 2) := by decide +kernel
theorem dX5_heaviestOf_11 : decode cX5_heaviestOf 11 = .ok (.if_icmp .ge 40, 3) := by decide +kernel
theorem dX5_heaviestOf_14 : decode cX5_heaviestOf 14 = .ok (.iload_n 1, 1) := by decide +kernel
theorem dX5_heaviestOf_15 : decode cX5_heaviestOf 15 = .ok (.iload 4, 2) := by decide +kernel
theorem dX5_heaviestOf_17 : decode cX5_heaviestOf 17 = .ok (.invokestatic 72, 3) := by decide +kernel
theorem dX5_heaviestOf_20 : decode cX5_heaviestOf 20 = .ok (.ifCond .eq 25, 3) := by decide +kernel
theorem dX5_heaviestOf_23 : decode cX5_heaviestOf 23 = .ok (.aload_n 0, 1) := by decide +kernel
theorem dX5_heaviestOf_24 : decode cX5_heaviestOf 24 = .ok (.getfield 21, 3) := by decide +kernel
theorem dX5_heaviestOf_27 : decode cX5_heaviestOf 27 = .ok (.iload 4, 2) := by decide +kernel
theorem dX5_heaviestOf_29 : decode cX5_heaviestOf 29 = .ok (.iaload, 1) := by decide +kernel
theorem dX5_heaviestOf_30 : decode cX5_heaviestOf 30 = .ok (.iload_n 3, 1) := by decide +kernel
theorem dX5_heaviestOf_31 : decode cX5_heaviestOf 31 = .ok (.if_icmp .le 14, 3) := by decide +kernel
theorem dX5_heaviestOf_34 : decode cX5_heaviestOf 34 = .ok (.iload 4, 2) := by decide +kernel
theorem dX5_heaviestOf_36 : decode cX5_heaviestOf 36 = .ok (.istore_n 2, 1) := by decide +kernel
theorem dX5_heaviestOf_37 : decode cX5_heaviestOf 37 = .ok (.aload_n 0, 1) := by decide +kernel
theorem dX5_heaviestOf_38 : decode cX5_heaviestOf 38 = .ok (.getfield 21, 3) := by decide +kernel
theorem dX5_heaviestOf_41 : decode cX5_heaviestOf 41 = .ok (.iload 4, 2) := by decide +kernel
theorem dX5_heaviestOf_43 : decode cX5_heaviestOf 43 = .ok (.iaload, 1) := by decide +kernel
theorem dX5_heaviestOf_44 : decode cX5_heaviestOf 44 = .ok (.istore_n 3, 1) := by decide +kernel
theorem dX5_heaviestOf_45 : decode cX5_heaviestOf 45 = .ok (.iinc 4 1, 3) := by decide +kernel
theorem dX5_heaviestOf_48 : decode cX5_heaviestOf 48 = .ok (.goto (-41), 3) := by decide +kernel
theorem dX5_heaviestOf_51 : decode cX5_heaviestOf 51 = .ok (.iload_n 2, 1) := by decide +kernel
theorem dX5_heaviestOf_52 : decode cX5_heaviestOf 52 = .ok (.ireturn, 1) := by decide +kernel
theorem dX5_difference_0 : decode cX5_difference 0 = .ok (.aload_n 0, 1) := by decide +kernel
theorem dX5_difference_1 : decode cX5_difference 1 = .ok (.iload_n 2, 1) := by decide +kernel
theorem dX5_difference_2 : decode cX5_difference 2 = .ok (.invokevirtual 91, 3) := by decide +kernel
theorem dX5_difference_5 : decode cX5_difference 5 = .ok (.aload_n 0, 1) := by decide +kernel
theorem dX5_difference_6 : decode cX5_difference 6 = .ok (.iload_n 1, 1) := by decide +kernel
theorem dX5_difference_7 : decode cX5_difference 7 = .ok (.iload_n 2, 1) := by decide +kernel
theorem dX5_difference_8 : decode cX5_difference 8 = .ok (.iconst (-1), 1) := by decide +kernel
theorem dX5_difference_9 : decode cX5_difference 9 = .ok (.ixor, 1) := by decide +kernel
theorem dX5_difference_10 : decode cX5_difference 10 = .ok (.iand, 1) := by decide +kernel
theorem dX5_difference_11 : decode cX5_difference 11 = .ok (.invokevirtual 91, 3) := by decide +kernel
theorem dX5_difference_14 : decode cX5_difference 14 = .ok (.isub, 1) := by decide +kernel
theorem dX5_difference_15 : decode cX5_difference 15 = .ok (.invokestatic 94, 3) := by decide +kernel
theorem dX5_difference_18 : decode cX5_difference 18 = .ok (.ireturn, 1) := by decide +kernel
theorem dX5_evenestLeft_0 : decode cX5_evenestLeft 0 = .ok (.iconst 0, 1) := by decide +kernel
theorem dX5_evenestLeft_1 : decode cX5_evenestLeft 1 = .ok (.istore_n 2, 1) := by decide +kernel
theorem dX5_evenestLeft_2 : decode cX5_evenestLeft 2 = .ok (.aload_n 0, 1) := by decide +kernel
theorem dX5_evenestLeft_3 : decode cX5_evenestLeft 3 = .ok (.iload_n 1, 1) := by decide +kernel
theorem dX5_evenestLeft_4 : decode cX5_evenestLeft 4 = .ok (.invokevirtual 91, 3) := by decide +kernel
theorem dX5_evenestLeft_7 : decode cX5_evenestLeft 7 = .ok (.istore_n 3, 1) := by decide +kernel
theorem dX5_evenestLeft_8 : decode cX5_evenestLeft 8 = .ok (.iconst 1, 1) := by decide +kernel
theorem dX5_evenestLeft_9 : decode cX5_evenestLeft 9 = .ok (.istore 4, 2) := by decide +kernel
theorem dX5_evenestLeft_11 : decode cX5_evenestLeft 11 = .ok (.iload 4, 2) := by decide +kernel
theorem dX5_evenestLeft_13 : decode cX5_evenestLeft 13 = .ok (.sipush 256, 3) := by decide +kernel
theorem dX5_evenestLeft_16 : decode cX5_evenestLeft 16 = .ok (.if_icmp .ge 43, 3) := by decide +kernel
theorem dX5_evenestLeft_19 : decode cX5_evenestLeft 19 = .ok (.iload 4, 2) := by decide +kernel
theorem dX5_evenestLeft_21 : decode cX5_evenestLeft 21 = .ok (.iload_n 1, 1) := by decide +kernel
theorem dX5_evenestLeft_22 : decode cX5_evenestLeft 22 = .ok (.iconst (-1), 1) := by decide +kernel
theorem dX5_evenestLeft_23 : decode cX5_evenestLeft 23 = .ok (.ixor, 1) := by decide +kernel
theorem dX5_evenestLeft_24 : decode cX5_evenestLeft 24 = .ok (.iand, 1) := by decide +kernel
theorem dX5_evenestLeft_25 : decode cX5_evenestLeft 25 = .ok (.ifCond .ne 13, 3) := by decide +kernel
theorem dX5_evenestLeft_28 : decode cX5_evenestLeft 28 = .ok (.aload_n 0, 1) := by decide +kernel
theorem dX5_evenestLeft_29 : decode cX5_evenestLeft 29 = .ok (.iload_n 1, 1) := by decide +kernel
theorem dX5_evenestLeft_30 : decode cX5_evenestLeft 30 = .ok (.iload 4, 2) := by decide +kernel
theorem dX5_evenestLeft_32 : decode cX5_evenestLeft 32 = .ok (.invokevirtual 99, 3) := by decide +kernel
theorem dX5_evenestLeft_35 : decode cX5_evenestLeft 35 = .ok (.goto 4, 3) := by decide +kernel
theorem dX5_evenestLeft_38 : decode cX5_evenestLeft 38 = .ok (.iload_n 3, 1) := by decide +kernel
theorem dX5_evenestLeft_39 : decode cX5_evenestLeft 39 = .ok (.istore 5, 2) := by decide +kernel
theorem dX5_evenestLeft_41 : decode cX5_evenestLeft 41 = .ok (.iload 5, 2) := by decide +kernel
theorem dX5_evenestLeft_43 : decode cX5_evenestLeft 43 = .ok (.iload_n 3, 1) := by decide +kernel
theorem dX5_evenestLeft_44 : decode cX5_evenestLeft 44 = .ok (.if_icmp .ge 9, 3) := by decide +kernel
theorem dX5_evenestLeft_47 : decode cX5_evenestLeft 47 = .ok (.iload 4, 2) := by decide +kernel
theorem dX5_evenestLeft_49 : decode cX5_evenestLeft 49 = .ok (.istore_n 2, 1) := by decide +kernel
theorem dX5_evenestLeft_50 : decode cX5_evenestLeft 50 = .ok (.iload 5, 2) := by decide +kernel
theorem dX5_evenestLeft_52 : decode cX5_evenestLeft 52 = .ok (.istore_n 3, 1) := by decide +kernel
theorem dX5_evenestLeft_53 : decode cX5_evenestLeft 53 = .ok (.iinc 4 1, 3) := by decide +kernel
theorem dX5_evenestLeft_56 : decode cX5_evenestLeft 56 = .ok (.goto (-45), 3) := by decide +kernel
theorem dX5_evenestLeft_59 : decode cX5_evenestLeft 59 = .ok (.iload_n 2, 1) := by decide +kernel
theorem dX5_evenestLeft_60 : decode cX5_evenestLeft 60 = .ok (.ireturn, 1) := by decide +kernel
theorem dX5_worthiest_0 : decode cX5_worthiest 0 = .ok (.iconst 0, 1) := by decide +kernel
theorem dX5_worthiest_1 : decode cX5_worthiest 1 = .ok (.istore_n 3, 1) := by decide +kernel
theorem dX5_worthiest_2 : decode cX5_worthiest 2 = .ok (.iconst 0, 1) := by decide +kernel
theorem dX5_worthiest_3 : decode cX5_worthiest 3 = .ok (.istore 4, 2) := by decide +kernel
theorem dX5_worthiest_5 : decode cX5_worthiest 5 = .ok (.iconst 1, 1) := by decide +kernel
theorem dX5_worthiest_6 : decode cX5_worthiest 6 = .ok (.istore 5, 2) := by decide +kernel
theorem dX5_worthiest_8 : decode cX5_worthiest 8 = .ok (.iload 5, 2) := by decide +kernel
theorem dX5_worthiest_10 : decode cX5_worthiest 10 = .ok (.sipush 256, 3) := by decide +kernel
theorem dX5_worthiest_13 : decode cX5_worthiest 13 = .ok (.if_icmp .ge 54, 3) := by decide +kernel
theorem dX5_worthiest_16 : decode cX5_worthiest 16 = .ok (.iload 5, 2) := by decide +kernel
theorem dX5_worthiest_18 : decode cX5_worthiest 18 = .ok (.iload_n 1, 1) := by decide +kernel
theorem dX5_worthiest_19 : decode cX5_worthiest 19 = .ok (.iconst (-1), 1) := by decide +kernel
theorem dX5_worthiest_20 : decode cX5_worthiest 20 = .ok (.ixor, 1) := by decide +kernel
theorem dX5_worthiest_21 : decode cX5_worthiest 21 = .ok (.iand, 1) := by decide +kernel
theorem dX5_worthiest_22 : decode cX5_worthiest 22 = .ok (.ifCond .ne 12, 3) := by decide +kernel
theorem dX5_worthiest_25 : decode cX5_worthiest 25 = .ok (.aload_n 0, 1) := by decide +kernel
theorem dX5_worthiest_26 : decode cX5_worthiest 26 = .ok (.iload 5, 2) := by decide +kernel
theorem dX5_worthiest_28 : decode cX5_worthiest 28 = .ok (.invokevirtual 102, 3) := by decide +kernel
theorem dX5_worthiest_31 : decode cX5_worthiest 31 = .ok (.goto 4, 3) := by decide +kernel
theorem dX5_worthiest_34 : decode cX5_worthiest 34 = .ok (.iconst 0, 1) := by decide +kernel
theorem dX5_worthiest_35 : decode cX5_worthiest 35 = .ok (.istore 6, 2) := by decide +kernel
theorem dX5_worthiest_37 : decode cX5_worthiest 37 = .ok (.iload 6, 2) := by decide +kernel
theorem dX5_worthiest_39 : decode cX5_worthiest 39 = .ok (.iload 4, 2) := by decide +kernel
theorem dX5_worthiest_41 : decode cX5_worthiest 41 = .ok (.if_icmp .le 20, 3) := by decide +kernel
theorem dX5_worthiest_44 : decode cX5_worthiest 44 = .ok (.aload_n 0, 1) := by decide +kernel
theorem dX5_worthiest_45 : decode cX5_worthiest 45 = .ok (.iload 5, 2) := by decide +kernel
theorem dX5_worthiest_47 : decode cX5_worthiest 47 = .ok (.invokevirtual 91, 3) := by decide +kernel
theorem dX5_worthiest_50 : decode cX5_worthiest 50 = .ok (.iload_n 2, 1) := by decide +kernel
theorem dX5_worthiest_51 : decode cX5_worthiest 51 = .ok (.if_icmp .gt 10, 3) := by decide +kernel
theorem dX5_worthiest_54 : decode cX5_worthiest 54 = .ok (.iload 5, 2) := by decide +kernel
theorem dX5_worthiest_56 : decode cX5_worthiest 56 = .ok (.istore_n 3, 1) := by decide +kernel
theorem dX5_worthiest_57 : decode cX5_worthiest 57 = .ok (.iload 6, 2) := by decide +kernel
theorem dX5_worthiest_59 : decode cX5_worthiest 59 = .ok (.istore 4, 2) := by decide +kernel
theorem dX5_worthiest_61 : decode cX5_worthiest 61 = .ok (.iinc 5 1, 3) := by decide +kernel
theorem dX5_worthiest_64 : decode cX5_worthiest 64 = .ok (.goto (-56), 3) := by decide +kernel
theorem dX5_worthiest_67 : decode cX5_worthiest 67 = .ok (.iload_n 3, 1) := by decide +kernel
theorem dX5_worthiest_68 : decode cX5_worthiest 68 = .ok (.ireturn, 1) := by decide +kernel
theorem dX6_init_0 : decode cX6_init 0 = .ok (.aload_n 0, 1) := by decide +kernel
theorem dX6_init_1 : decode cX6_init 1 = .ok (.invokespecial 3, 3) := by decide +kernel
theorem dX6_init_4 : decode cX6_init 4 = .ok (.aload_n 0, 1) := by decide +kernel
theorem dX6_init_5 : decode cX6_init 5 = .ok (.new 9, 3) := by decide +kernel
theorem dX6_init_8 : decode cX6_init 8 = .ok (.dup, 1) := by decide +kernel
theorem dX6_init_9 : decode cX6_init 9 = .ok (.invokespecial 11, 3) := by decide +kernel
theorem dX6_init_12 : decode cX6_init 12 = .ok (.putfield 12, 3) := by decide +kernel
theorem dX6_init_15 : decode cX6_init 15 = .ok (.aload_n 0, 1) := by decide +kernel
theorem dX6_init_16 : decode cX6_init 16 = .ok (.sipush 240, 3) := by decide +kernel
theorem dX6_init_19 : decode cX6_init 19 = .ok (.newarray .char, 2) := by decide +kernel
theorem dX6_init_21 : decode cX6_init 21 = .ok (.putfield 18, 3) := by decide +kernel
theorem dX6_init_24 : decode cX6_init 24 = .ok (.aload_n 0, 1) := by decide +kernel
theorem dX6_init_25 : decode cX6_init 25 = .ok (.iconst (-1), 1) := by decide +kernel
theorem dX6_init_26 : decode cX6_init 26 = .ok (.putfield 22, 3) := by decide +kernel
theorem dX6_init_29 : decode cX6_init 29 = .ok (.return_, 1) := by decide +kernel
theorem dX6_append_0 : decode cX6_append 0 = .ok (.aload_n 0, 1) := by decide +kernel
theorem dX6_append_1 : decode cX6_append 1 = .ok (.getfield 26, 3) := by decide +kernel
theorem dX6_append_4 : decode cX6_append 4 = .ok (.sipush 240, 3) := by decide +kernel
theorem dX6_append_7 : decode cX6_append 7 = .ok (.if_icmp .lt 5, 3) := by decide +kernel
theorem dX6_append_10 : decode cX6_append 10 = .ok (.iconst 0, 1) := by decide +kernel
theorem dX6_append_11 : decode cX6_append 11 = .ok (.ireturn, 1) := by decide +kernel
theorem dX6_append_12 : decode cX6_append 12 = .ok (.aload_n 0, 1) := by decide +kernel
theorem dX6_append_13 : decode cX6_append 13 = .ok (.getfield 18, 3) := by decide +kernel
theorem dX6_append_16 : decode cX6_append 16 = .ok (.aload_n 0, 1) := by decide +kernel
theorem dX6_append_17 : decode cX6_append 17 = .ok (.getfield 26, 3) := by decide +kernel
theorem dX6_append_20 : decode cX6_append 20 = .ok (.iload_n 1, 1) := by decide +kernel
theorem dX6_append_21 : decode cX6_append 21 = .ok (.i2c, 1) := by decide +kernel
theorem dX6_append_22 : decode cX6_append 22 = .ok (.castore, 1) := by decide +kernel
theorem dX6_append_23 : decode cX6_append 23 = .ok (.aload_n 0, 1) := by decide +kernel
theorem dX6_append_24 : decode cX6_append 24 = .ok (.dup, 1) := by decide +kernel
theorem dX6_append_25 : decode cX6_append 25 = .ok (.getfield 26, 3) := by decide +kernel
theorem dX6_append_28 : decode cX6_append 28 = .ok (.iconst 1, 1) := by decide +kernel
theorem dX6_append_29 : decode cX6_append 29 = .ok (.iadd, 1) := by decide +kernel
theorem dX6_append_30 : decode cX6_append 30 = .ok (.putfield 26, 3) := by decide +kernel
theorem dX6_append_33 : decode cX6_append 33 = .ok (.iconst 1, 1) := by decide +kernel
theorem dX6_append_34 : decode cX6_append 34 = .ok (.ireturn, 1) := by decide +kernel
theorem dX6_readAll_0 : decode cX6_readAll 0 = .ok (.aload_n 0, 1) := by decide +kernel
theorem dX6_readAll_1 : decode cX6_readAll 1 = .ok (.getfield 12, 3) := by decide +kernel
theorem dX6_readAll_4 : decode cX6_readAll 4 = .ok (.invokevirtual 29, 3) := by decide +kernel
theorem dX6_readAll_7 : decode cX6_readAll 7 = .ok (.aload_n 0, 1) := by decide +kernel
theorem dX6_readAll_8 : decode cX6_readAll 8 = .ok (.iconst 0, 1) := by decide +kernel
theorem dX6_readAll_9 : decode cX6_readAll 9 = .ok (.putfield 32, 3) := by decide +kernel
theorem dX6_readAll_12 : decode cX6_readAll 12 = .ok (.aload_n 0, 1) := by decide +kernel
theorem dX6_readAll_13 : decode cX6_readAll 13 = .ok (.iconst (-1), 1) := by decide +kernel
theorem dX6_readAll_14 : decode cX6_readAll 14 = .ok (.putfield 22, 3) := by decide +kernel
theorem dX6_readAll_17 : decode cX6_readAll 17 = .ok (.aload_n 0, 1) := by decide +kernel
theorem dX6_readAll_18 : decode cX6_readAll 18 = .ok (.iconst 0, 1) := by decide +kernel
theorem dX6_readAll_19 : decode cX6_readAll 19 = .ok (.putfield 35, 3) := by decide +kernel
theorem dX6_readAll_22 : decode cX6_readAll 22 = .ok (.aload_n 0, 1) := by decide +kernel
theorem dX6_readAll_23 : decode cX6_readAll 23 = .ok (.invokevirtual 38, 3) := by decide +kernel
theorem dX6_readAll_26 : decode cX6_readAll 26 = .ok (.iconst 0, 1) := by decide +kernel
theorem dX6_readAll_27 : decode cX6_readAll 27 = .ok (.istore_n 1, 1) := by decide +kernel
theorem dX6_readAll_28 : decode cX6_readAll 28 = .ok (.iload_n 1, 1) := by decide +kernel
theorem dX6_readAll_29 : decode cX6_readAll 29 = .ok (.sipush 240, 3) := by decide +kernel
theorem dX6_readAll_32 : decode cX6_readAll 32 = .ok (.if_icmp .ge 35, 3) := by decide +kernel
theorem dX6_readAll_35 : decode cX6_readAll 35 = .ok (.aload_n 0, 1) := by decide +kernel
theorem dX6_readAll_36 : decode cX6_readAll 36 = .ok (.getfield 35, 3) := by decide +kernel
theorem dX6_readAll_39 : decode cX6_readAll 39 = .ok (.aload_n 0, 1) := by decide +kernel
theorem dX6_readAll_40 : decode cX6_readAll 40 = .ok (.getfield 26, 3) := by decide +kernel
theorem dX6_readAll_43 : decode cX6_readAll 43 = .ok (.if_icmp .ge 24, 3) := by decide +kernel
theorem dX6_readAll_46 : decode cX6_readAll 46 = .ok (.aload_n 0, 1) := by decide +kernel
theorem dX6_readAll_47 : decode cX6_readAll 47 = .ok (.getfield 32, 3) := by decide +kernel
theorem dX6_readAll_50 : decode cX6_readAll 50 = .ok (.ifCond .ne 17, 3) := by decide +kernel
theorem dX6_readAll_53 : decode cX6_readAll 53 = .ok (.aload_n 0, 1) := by decide +kernel
theorem dX6_readAll_54 : decode cX6_readAll 54 = .ok (.invokevirtual 41, 3) := by decide +kernel
theorem dX6_readAll_57 : decode cX6_readAll 57 = .ok (.aload_n 0, 1) := by decide +kernel
theorem dX6_readAll_58 : decode cX6_readAll 58 = .ok (.invokevirtual 38, 3) := by decide +kernel
theorem dX6_readAll_61 : decode cX6_readAll 61 = .ok (.iinc 1 1, 3) := by decide +kernel
theorem dX6_readAll_64 : decode cX6_readAll 64 = .ok (.goto (-36), 3) := by decide +kernel
theorem dX6_readAll_67 : decode cX6_readAll 67 = .ok (.aload_n 0, 1) := by decide +kernel
theorem dX6_readAll_68 : decode cX6_readAll 68 = .ok (.iconst 0, 1) := by decide +kernel
theorem dX6_readAll_69 : decode cX6_readAll 69 = .ok (.putfield 26, 3) := by decide +kernel
theorem dX6_readAll_72 : decode cX6_readAll 72 = .ok (.aload_n 0, 1) := by decide +kernel
theorem dX6_readAll_73 : decode cX6_readAll 73 = .ok (.getfield 32, 3) := by decide +kernel
theorem dX6_readAll_76 : decode cX6_readAll 76 = .ok (.ireturn, 1) := by decide +kernel
theorem dX6_readClause_0 : decode cX6_readClause 0 = .ok (.aload_n 0, 1) := by decide +kernel
theorem dX6_readClause_1 : decode cX6_readClause 1 = .ok (.aload_n 0, 1) := by decide +kernel
theorem dX6_readClause_2 : decode cX6_readClause 2 = .ok (.getfield 35, 3) := by decide +kernel
theorem dX6_readClause_5 : decode cX6_readClause 5 = .ok (.invokevirtual 44, 3) := by decide +kernel
theorem dX6_readClause_8 : decode cX6_readClause 8 = .ok (.istore_n 1, 1) := by decide +kernel
theorem dX6_readClause_9 : decode cX6_readClause 9 = .ok (.aload_n 0, 1) := by decide +kernel
theorem dX6_readClause_10 : decode cX6_readClause 10 = .ok (.iload_n 1, 1) := by decide +kernel
theorem dX6_readClause_11 : decode cX6_readClause 11 = .ok (.invokevirtual 48, 3) := by decide +kernel
theorem dX6_readClause_14 : decode cX6_readClause 14 = .ok (.istore_n 2, 1) := by decide +kernel
theorem dX6_readClause_15 : decode cX6_readClause 15 = .ok (.iload_n 2, 1) := by decide +kernel
theorem dX6_readClause_16 : decode cX6_readClause 16 = .ok (.ifCond .eq 13, 3) := by decide +kernel
theorem dX6_readClause_19 : decode cX6_readClause 19 = .ok (.aload_n 0, 1) := by decide +kernel
theorem dX6_readClause_20 : decode cX6_readClause 20 = .ok (.iload_n 2, 1) := by decide +kernel
theorem dX6_readClause_21 : decode cX6_readClause 21 = .ok (.aload_n 0, 1) := by decide +kernel
theorem dX6_readClause_22 : decode cX6_readClause 22 = .ok (.getfield 35, 3) := by decide +kernel
theorem dX6_readClause_25 : decode cX6_readClause 25 = .ok (.invokevirtual 51, 3) := by decide +kernel
theorem dX6_readClause_28 : decode cX6_readClause 28 = .ok (.return_, 1) := by decide +kernel
theorem dX6_readClause_29 : decode cX6_readClause 29 = .ok (.aload_n 0, 1) := by decide +kernel
theorem dX6_readClause_30 : decode cX6_readClause 30 = .ok (.dup, 1) := by decide +kernel
theorem dX6_readClause_31 : decode cX6_readClause 31 = .ok (.getfield 35, 3) := by decide +kernel
theorem dX6_readClause_34 : decode cX6_readClause 34 = .ok (.iconst 1, 1) := by decide +kernel
theorem dX6_readClause_35 : decode cX6_readClause 35 = .ok (.iadd, 1) := by decide +kernel
theorem dX6_readClause_36 : decode cX6_readClause 36 = .ok (.putfield 35, 3) := by decide +kernel
theorem dX6_readClause_39 : decode cX6_readClause 39 = .ok (.aload_n 0, 1) := by decide +kernel
theorem dX6_readClause_40 : decode cX6_readClause 40 = .ok (.aload_n 0, 1) := by decide +kernel
theorem dX6_readClause_41 : decode cX6_readClause 41 = .ok (.iload_n 1, 1) := by decide +kernel
theorem dX6_readClause_42 : decode cX6_readClause 42 = .ok (.invokevirtual 55, 3) := by decide +kernel
theorem dX6_readClause_45 : decode cX6_readClause 45 = .ok (.aload_n 0, 1) := by decide +kernel
theorem dX6_readClause_46 : decode cX6_readClause 46 = .ok (.iload_n 1, 1) := by decide +kernel
theorem dX6_readClause_47 : decode cX6_readClause 47 = .ok (.invokevirtual 58, 3) := by decide +kernel
theorem dX6_readClause_50 : decode cX6_readClause 50 = .ok (.invokevirtual 61, 3) := by decide +kernel
theorem dX6_readClause_53 : decode cX6_readClause 53 = .ok (.istore_n 3, 1) := by decide +kernel
theorem dX6_readClause_54 : decode cX6_readClause 54 = .ok (.aload_n 0, 1) := by decide +kernel
theorem dX6_readClause_55 : decode cX6_readClause 55 = .ok (.getfield 32, 3) := by decide +kernel
theorem dX6_readClause_58 : decode cX6_readClause 58 = .ok (.ifCond .ne 20, 3) := by decide +kernel
theorem dX6_readClause_61 : decode cX6_readClause 61 = .ok (.aload_n 0, 1) := by decide +kernel
theorem dX6_readClause_62 : decode cX6_readClause 62 = .ok (.aload_n 0, 1) := by decide +kernel
theorem dX6_readClause_63 : decode cX6_readClause 63 = .ok (.iload_n 1, 1) := by decide +kernel
theorem dX6_readClause_64 : decode cX6_readClause 64 = .ok (.invokevirtual 65, 3) := by decide +kernel
theorem dX6_readClause_67 : decode cX6_readClause 67 = .ok (.aload_n 0, 1) := by decide +kernel
theorem dX6_readClause_68 : decode cX6_readClause 68 = .ok (.iload_n 1, 1) := by decide +kernel
theorem dX6_readClause_69 : decode cX6_readClause 69 = .ok (.invokevirtual 68, 3) := by decide +kernel
theorem dX6_readClause_72 : decode cX6_readClause 72 = .ok (.invokevirtual 61, 3) := by decide +kernel
theorem dX6_readClause_75 : decode cX6_readClause 75 = .ok (.goto 4, 3) := by decide +kernel
theorem dX6_readClause_78 : decode cX6_readClause 78 = .ok (.iconst 0, 1) := by decide +kernel
theorem dX6_readClause_79 : decode cX6_readClause 79 = .ok (.istore 4, 2) := by decide +kernel
theorem dX6_readClause_81 : decode cX6_readClause 81 = .ok (.aload_n 0, 1) := by decide +kernel
theorem dX6_readClause_82 : decode cX6_readClause 82 = .ok (.getfield 32, 3) := by decide +kernel
theorem dX6_readClause_85 : decode cX6_readClause 85 = .ok (.ifCond .ne 40, 3) := by decide +kernel
theorem dX6_readClause_88 : decode cX6_readClause 88 = .ok (.iload_n 1, 1) := by decide +kernel
theorem dX6_readClause_89 : decode cX6_readClause 89 = .ok (.bipush 112, 2) := by decide +kernel
theorem dX6_readClause_91 : decode cX6_readClause 91 = .ok (.if_icmp .ne 34, 3) := by decide +kernel
theorem dX6_readClause_94 : decode cX6_readClause 94 = .ok (.iload_n 3, 1) := by decide +kernel
theorem dX6_readClause_95 : decode cX6_readClause 95 = .ok (.iload 4, 2) := by decide +kernel
theorem dX6_readClause_97 : decode cX6_readClause 97 = .ok (.if_icmp .eq 19, 3) := by decide +kernel
theorem dX6_readClause_100 : decode cX6_readClause 100 = .ok (.aload_n 0, 1) := by decide +kernel
theorem dX6_readClause_101 : decode cX6_readClause 101 = .ok (.getfield 12, 3) := by decide +kernel
theorem dX6_readClause_104 : decode cX6_readClause 104 = .ok (.iload_n 3, 1) := by decide +kernel
theorem dX6_readClause_105 : decode cX6_readClause 105 = .ok (.invokevirtual 71, 3) := by decide +kernel
theorem dX6_readClause_108 : decode cX6_readClause 108 = .ok (.iload 4, 2) := by decide +kernel
theorem dX6_readClause_110 : decode cX6_readClause 110 = .ok (.invokestatic 74, 3) := by decide +kernel
theorem dX6_readClause_113 : decode cX6_readClause 113 = .ok (.ifCond .eq 12, 3) := by decide +kernel
theorem dX6_readClause_116 : decode cX6_readClause 116 = .ok (.aload_n 0, 1) := by decide +kernel
theorem dX6_readClause_117 : decode cX6_readClause 117 = .ok (.iconst 4, 1) := by decide +kernel
theorem dX6_readClause_118 : decode cX6_readClause 118 = .ok (.aload_n 0, 1) := by decide +kernel
theorem dX6_readClause_119 : decode cX6_readClause 119 = .ok (.getfield 78, 3) := by decide +kernel
theorem dX6_readClause_122 : decode cX6_readClause 122 = .ok (.invokevirtual 51, 3) := by decide +kernel
theorem dX6_readClause_125 : decode cX6_readClause 125 = .ok (.aload_n 0, 1) := by decide +kernel
theorem dX6_readClause_126 : decode cX6_readClause 126 = .ok (.getfield 32, 3) := by decide +kernel
theorem dX6_readClause_129 : decode cX6_readClause 129 = .ok (.ifCond .ne 7, 3) := by decide +kernel
theorem dX6_readClause_132 : decode cX6_readClause 132 = .ok (.aload_n 0, 1) := by decide +kernel
theorem dX6_readClause_133 : decode cX6_readClause 133 = .ok (.invokevirtual 81, 3) := by decide +kernel
theorem dX6_readClause_136 : decode cX6_readClause 136 = .ok (.aload_n 0, 1) := by decide +kernel
theorem dX6_readClause_137 : decode cX6_readClause 137 = .ok (.getfield 32, 3) := by decide +kernel
theorem dX6_readClause_140 : decode cX6_readClause 140 = .ok (.ifCond .ne 14, 3) := by decide +kernel
theorem dX6_readClause_143 : decode cX6_readClause 143 = .ok (.aload_n 0, 1) := by decide +kernel
theorem dX6_readClause_144 : decode cX6_readClause 144 = .ok (.getfield 12, 3) := by decide +kernel
theorem dX6_readClause_147 : decode cX6_readClause 147 = .ok (.iload_n 1, 1) := by decide +kernel
theorem dX6_readClause_148 : decode cX6_readClause 148 = .ok (.iload_n 3, 1) := by decide +kernel
theorem dX6_readClause_149 : decode cX6_readClause 149 = .ok (.iload 4, 2) := by decide +kernel
theorem dX6_readClause_151 : decode cX6_readClause 151 = .ok (.invokevirtual 84, 3) := by decide +kernel
theorem dX6_readClause_154 : decode cX6_readClause 154 = .ok (.return_, 1) := by decide +kernel
theorem dX6_faultOfWord_0 : decode cX6_faultOfWord 0 = .ok (.iload_n 1, 1) := by decide +kernel
theorem dX6_faultOfWord_1 : decode cX6_faultOfWord 1 = .ok (.bipush 104, 2) := by decide +kernel
theorem dX6_faultOfWord_3 : decode cX6_faultOfWord 3 = .ok (.if_icmp .eq 27, 3) := by decide +kernel
theorem dX6_faultOfWord_6 : decode cX6_faultOfWord 6 = .ok (.iload_n 1, 1) := by decide +kernel
theorem dX6_faultOfWord_7 : decode cX6_faultOfWord 7 = .ok (.bipush 112, 2) := by decide +kernel
theorem dX6_faultOfWord_9 : decode cX6_faultOfWord 9 = .ok (.if_icmp .eq 21, 3) := by decide +kernel
theorem dX6_faultOfWord_12 : decode cX6_faultOfWord 12 = .ok (.iload_n 1, 1) := by decide +kernel
theorem dX6_faultOfWord_13 : decode cX6_faultOfWord 13 = .ok (.bipush 119, 2) := by decide +kernel
theorem dX6_faultOfWord_15 : decode cX6_faultOfWord 15 = .ok (.if_icmp .eq 15, 3) := by decide +kernel
theorem dX6_faultOfWord_18 : decode cX6_faultOfWord 18 = .ok (.iload_n 1, 1) := by decide +kernel
theorem dX6_faultOfWord_19 : decode cX6_faultOfWord 19 = .ok (.bipush 116, 2) := by decide +kernel
theorem dX6_faultOfWord_21 : decode cX6_faultOfWord 21 = .ok (.if_icmp .eq 9, 3) := by decide +kernel
theorem dX6_faultOfWord_24 : decode cX6_faultOfWord 24 = .ok (.iload_n 1, 1) := by decide +kernel
theorem dX6_faultOfWord_25 : decode cX6_faultOfWord 25 = .ok (.bipush 111, 2) := by decide +kernel
theorem dX6_faultOfWord_27 : decode cX6_faultOfWord 27 = .ok (.if_icmp .ne 7, 3) := by decide +kernel
theorem dX6_faultOfWord_30 : decode cX6_faultOfWord 30 = .ok (.iconst 1, 1) := by decide +kernel
theorem dX6_faultOfWord_31 : decode cX6_faultOfWord 31 = .ok (.goto 4, 3) := by decide +kernel
theorem dX6_faultOfWord_34 : decode cX6_faultOfWord 34 = .ok (.iconst 0, 1) := by decide +kernel
theorem dX6_faultOfWord_35 : decode cX6_faultOfWord 35 = .ok (.istore_n 2, 1) := by decide +kernel
theorem dX6_faultOfWord_36 : decode cX6_faultOfWord 36 = .ok (.iload_n 2, 1) := by decide +kernel
theorem dX6_faultOfWord_37 : decode cX6_faultOfWord 37 = .ok (.ifCond .eq 19, 3) := by decide +kernel
theorem dX6_faultOfWord_40 : decode cX6_faultOfWord 40 = .ok (.aload_n 0, 1) := by decide +kernel
theorem dX6_faultOfWord_41 : decode cX6_faultOfWord 41 = .ok (.getfield 12, 3) := by decide +kernel
theorem dX6_faultOfWord_44 : decode cX6_faultOfWord 44 = .ok (.getfield 88, 3) := by decide +kernel
theorem dX6_faultOfWord_47 : decode cX6_faultOfWord 47 = .ok (.ifCond .ne 11, 3) := by decide +kernel
theorem dX6_faultOfWord_50 : decode cX6_faultOfWord 50 = .ok (.iload_n 1, 1) := by decide +kernel
theorem dX6_faultOfWord_51 : decode cX6_faultOfWord 51 = .ok (.bipush 104, 2) := by decide +kernel
theorem dX6_faultOfWord_53 : decode cX6_faultOfWord 53 = .ok (.if_icmp .eq 5, 3) := by decide +kernel
theorem dX6_faultOfWord_56 : decode cX6_faultOfWord 56 = .ok (.iconst 1, 1) := by decide +kernel
theorem dX6_faultOfWord_57 : decode cX6_faultOfWord 57 = .ok (.ireturn, 1) := by decide +kernel
theorem dX6_faultOfWord_58 : decode cX6_faultOfWord 58 = .ok (.aload_n 0, 1) := by decide +kernel
theorem dX6_faultOfWord_59 : decode cX6_faultOfWord 59 = .ok (.getfield 12, 3) := by decide +kernel
theorem dX6_faultOfWord_62 : decode cX6_faultOfWord 62 = .ok (.iload_n 1, 1) := by decide +kernel
theorem dX6_faultOfWord_63 : decode cX6_faultOfWord 63 = .ok (.invokevirtual 91, 3) := by decide +kernel
theorem dX6_faultOfWord_66 : decode cX6_faultOfWord 66 = .ok (.ifCond .eq 7, 3) := by decide +kernel
theorem dX6_faultOfWord_69 : decode cX6_faultOfWord 69 = .ok (.iconst 3, 1) := by decide +kernel
theorem dX6_faultOfWord_70 : decode cX6_faultOfWord 70 = .ok (.goto 4, 3) := by decide +kernel
theorem dX6_faultOfWord_73 : decode cX6_faultOfWord 73 = .ok (.iconst 0, 1) := by decide +kernel
theorem dX6_faultOfWord_74 : decode cX6_faultOfWord 74 = .ok (.ireturn, 1) := by decide +kernel
theorem dX6_readNumber_0 : decode cX6_readNumber 0 = .ok (.aload_n 0, 1) := by decide +kernel
theorem dX6_readNumber_1 : decode cX6_readNumber 1 = .ok (.invokevirtual 38, 3) := by decide +kernel
theorem dX6_readNumber_4 : decode cX6_readNumber 4 = .ok (.aload_n 0, 1) := by decide +kernel
theorem dX6_readNumber_5 : decode cX6_readNumber 5 = .ok (.aload_n 0, 1) := by decide +kernel
theorem dX6_readNumber_6 : decode cX6_readNumber 6 = .ok (.getfield 35, 3) := by decide +kernel
theorem dX6_readNumber_9 : decode cX6_readNumber 9 = .ok (.putfield 78, 3) := by decide +kernel
theorem dX6_readNumber_12 : decode cX6_readNumber 12 = .ok (.iconst 0, 1) := by decide +kernel
theorem dX6_readNumber_13 : decode cX6_readNumber 13 = .ok (.istore_n 3, 1) := by decide +kernel
theorem dX6_readNumber_14 : decode cX6_readNumber 14 = .ok (.iconst 0, 1) := by decide +kernel
theorem dX6_readNumber_15 : decode cX6_readNumber 15 = .ok (.istore 4, 2) := by decide +kernel
theorem dX6_readNumber_17 : decode cX6_readNumber 17 = .ok (.iload 4, 2) := by decide +kernel
theorem dX6_readNumber_19 : decode cX6_readNumber 19 = .ok (.sipush 240, 3) := by decide +kernel
theorem dX6_readNumber_22 : decode cX6_readNumber 22 = .ok (.if_icmp .ge 60, 3) := by decide +kernel
theorem dX6_readNumber_25 : decode cX6_readNumber 25 = .ok (.aload_n 0, 1) := by decide +kernel
theorem dX6_readNumber_26 : decode cX6_readNumber 26 = .ok (.aload_n 0, 1) := by decide +kernel
theorem dX6_readNumber_27 : decode cX6_readNumber 27 = .ok (.getfield 35, 3) := by decide +kernel
theorem dX6_readNumber_30 : decode cX6_readNumber 30 = .ok (.invokevirtual 44, 3) := by decide +kernel
theorem dX6_readNumber_33 : decode cX6_readNumber 33 = .ok (.invokestatic 95, 3) := by decide +kernel
theorem dX6_readNumber_36 : decode cX6_readNumber 36 = .ok (.ifCond .eq 46, 3) := by decide +kernel
theorem dX6_readNumber_39 : decode cX6_readNumber 39 = .ok (.iload 4, 2) := by decide +kernel
theorem dX6_readNumber_41 : decode cX6_readNumber 41 = .ok (.iconst 3, 1) := by decide +kernel
theorem dX6_readNumber_42 : decode cX6_readNumber 42 = .ok (.if_icmp .ge 22, 3) := by decide +kernel
theorem dX6_readNumber_45 : decode cX6_readNumber 45 = .ok (.iload_n 3, 1) := by decide +kernel
theorem dX6_readNumber_46 : decode cX6_readNumber 46 = .ok (.bipush 10, 2) := by decide +kernel
theorem dX6_readNumber_48 : decode cX6_readNumber 48 = .ok (.imul, 1) := by decide +kernel
theorem dX6_readNumber_49 : decode cX6_readNumber 49 = .ok (.aload_n 0, 1) := by decide +kernel
theorem dX6_readNumber_50 : decode cX6_readNumber 50 = .ok (.aload_n 0, 1) := by decide +kernel
theorem dX6_readNumber_51 : decode cX6_readNumber 51 = .ok (.getfield 35, 3) := by decide +kernel
theorem dX6_readNumber_54 : decode cX6_readNumber 54 = .ok (.invokevirtual 44, 3) := by decide +kernel
theorem dX6_readNumber_57 : decode cX6_readNumber 57 = .ok (.iadd, 1) := by decide +kernel
theorem dX6_readNumber_58 : decode cX6_readNumber 58 = .ok (.bipush 48, 2) := by decide +kernel
theorem dX6_readNumber_60 : decode cX6_readNumber 60 = .ok (.isub, 1) := by decide +kernel
theorem dX6_readNumber_61 : decode cX6_readNumber 61 = .ok (.goto 4, 3) := by decide +kernel
theorem dX6_readNumber_64 : decode cX6_readNumber 64 = .ok (.iload_n 3, 1) := by decide +kernel
theorem dX6_readNumber_65 : decode cX6_readNumber 65 = .ok (.istore_n 3, 1) := by decide +kernel
theorem dX6_readNumber_66 : decode cX6_readNumber 66 = .ok (.aload_n 0, 1) := by decide +kernel
theorem dX6_readNumber_67 : decode cX6_readNumber 67 = .ok (.dup, 1) := by decide +kernel
theorem dX6_readNumber_68 : decode cX6_readNumber 68 = .ok (.getfield 35, 3) := by decide +kernel
theorem dX6_readNumber_71 : decode cX6_readNumber 71 = .ok (.iconst 1, 1) := by decide +kernel
theorem dX6_readNumber_72 : decode cX6_readNumber 72 = .ok (.iadd, 1) := by decide +kernel
theorem dX6_readNumber_73 : decode cX6_readNumber 73 = .ok (.putfield 35, 3) := by decide +kernel
theorem dX6_readNumber_76 : decode cX6_readNumber 76 = .ok (.iinc 4 1, 3) := by decide +kernel
theorem dX6_readNumber_79 : decode cX6_readNumber 79 = .ok (.goto (-62), 3) := by decide +kernel
theorem dX6_readNumber_82 : decode cX6_readNumber 82 = .ok (.aload_n 0, 1) := by decide +kernel
theorem dX6_readNumber_83 : decode cX6_readNumber 83 = .ok (.getfield 35, 3) := by decide +kernel
theorem dX6_readNumber_86 : decode cX6_readNumber 86 = .ok (.aload_n 0, 1) := by decide +kernel
theorem dX6_readNumber_87 : decode cX6_readNumber 87 = .ok (.getfield 78, 3) := by decide +kernel
theorem dX6_readNumber_90 : decode cX6_readNumber 90 = .ok (.if_icmp .ne 15, 3) := by decide +kernel
theorem dX6_readNumber_93 : decode cX6_readNumber 93 = .ok (.aload_n 0, 1) := by decide +kernel
theorem dX6_readNumber_94 : decode cX6_readNumber 94 = .ok (.iconst 1, 1) := by decide +kernel
theorem dX6_readNumber_95 : decode cX6_readNumber 95 = .ok (.aload_n 0, 1) := by decide +kernel
theorem dX6_readNumber_96 : decode cX6_readNumber 96 = .ok (.getfield 35, 3) := by decide +kernel
theorem dX6_readNumber_99 : decode cX6_readNumber 99 = .ok (.invokevirtual 51, 3) := by decide +kernel
theorem dX6_readNumber_102 : decode cX6_readNumber 102 = .ok (.goto 35, 3) := by decide +kernel
theorem dX6_readNumber_105 : decode cX6_readNumber 105 = .ok (.aload_n 0, 1) := by decide +kernel
theorem dX6_readNumber_106 : decode cX6_readNumber 106 = .ok (.getfield 35, 3) := by decide +kernel
theorem dX6_readNumber_109 : decode cX6_readNumber 109 = .ok (.aload_n 0, 1) := by decide +kernel
theorem dX6_readNumber_110 : decode cX6_readNumber 110 = .ok (.getfield 78, 3) := by decide +kernel
theorem dX6_readNumber_113 : decode cX6_readNumber 113 = .ok (.isub, 1) := by decide +kernel
theorem dX6_readNumber_114 : decode cX6_readNumber 114 = .ok (.iconst 3, 1) := by decide +kernel
theorem dX6_readNumber_115 : decode cX6_readNumber 115 = .ok (.if_icmp .gt 13, 3) := by decide +kernel
theorem dX6_readNumber_118 : decode cX6_readNumber 118 = .ok (.iload_n 3, 1) := by decide +kernel
theorem dX6_readNumber_119 : decode cX6_readNumber 119 = .ok (.iload_n 1, 1) := by decide +kernel
theorem dX6_readNumber_120 : decode cX6_readNumber 120 = .ok (.if_icmp .lt 8, 3) := by decide +kernel
theorem dX6_readNumber_123 : decode cX6_readNumber 123 = .ok (.iload_n 3, 1) := by decide +kernel
theorem dX6_readNumber_124 : decode cX6_readNumber 124 = .ok (.iload_n 2, 1) := by decide +kernel
theorem dX6_readNumber_125 : decode cX6_readNumber 125 = .ok (.if_icmp .le 12, 3) := by decide +kernel
theorem dX6_readNumber_128 : decode cX6_readNumber 128 = .ok (.aload_n 0, 1) := by decide +kernel
theorem dX6_readNumber_129 : decode cX6_readNumber 129 = .ok (.iconst 2, 1) := by decide +kernel
theorem dX6_readNumber_130 : decode cX6_readNumber 130 = .ok (.aload_n 0, 1) := by decide +kernel
theorem dX6_readNumber_131 : decode cX6_readNumber 131 = .ok (.getfield 78, 3) := by decide +kernel
theorem dX6_readNumber_134 : decode cX6_readNumber 134 = .ok (.invokevirtual 51, 3) := by decide +kernel
theorem dX6_readNumber_137 : decode cX6_readNumber 137 = .ok (.iload_n 3, 1) := by decide +kernel
theorem dX6_readNumber_138 : decode cX6_readNumber 138 = .ok (.ireturn, 1) := by decide +kernel
theorem dX6_readEnd_0 : decode cX6_readEnd 0 = .ok (.aload_n 0, 1) := by decide +kernel
theorem dX6_readEnd_1 : decode cX6_readEnd 1 = .ok (.invokevirtual 38, 3) := by decide +kernel
theorem dX6_readEnd_4 : decode cX6_readEnd 4 = .ok (.aload_n 0, 1) := by decide +kernel
theorem dX6_readEnd_5 : decode cX6_readEnd 5 = .ok (.aload_n 0, 1) := by decide +kernel
theorem dX6_readEnd_6 : decode cX6_readEnd 6 = .ok (.getfield 35, 3) := by decide +kernel
theorem dX6_readEnd_9 : decode cX6_readEnd 9 = .ok (.invokevirtual 44, 3) := by decide +kernel
theorem dX6_readEnd_12 : decode cX6_readEnd 12 = .ok (.bipush 59, 2) := by decide +kernel
theorem dX6_readEnd_14 : decode cX6_readEnd 14 = .ok (.if_icmp .ne 16, 3) := by decide +kernel
theorem dX6_readEnd_17 : decode cX6_readEnd 17 = .ok (.aload_n 0, 1) := by decide +kernel
theorem dX6_readEnd_18 : decode cX6_readEnd 18 = .ok (.dup, 1) := by decide +kernel
theorem dX6_readEnd_19 : decode cX6_readEnd 19 = .ok (.getfield 35, 3) := by decide +kernel
theorem dX6_readEnd_22 : decode cX6_readEnd 22 = .ok (.iconst 1, 1) := by decide +kernel
theorem dX6_readEnd_23 : decode cX6_readEnd 23 = .ok (.iadd, 1) := by decide +kernel
theorem dX6_readEnd_24 : decode cX6_readEnd 24 = .ok (.putfield 35, 3) := by decide +kernel
theorem dX6_readEnd_27 : decode cX6_readEnd 27 = .ok (.goto 12, 3) := by decide +kernel
theorem dX6_readEnd_30 : decode cX6_readEnd 30 = .ok (.aload_n 0, 1) := by decide +kernel
theorem dX6_readEnd_31 : decode cX6_readEnd 31 = .ok (.iconst 1, 1) := by decide +kernel
theorem dX6_readEnd_32 : decode cX6_readEnd 32 = .ok (.aload_n 0, 1) := by decide +kernel
theorem dX6_readEnd_33 : decode cX6_readEnd 33 = .ok (.getfield 35, 3) := by decide +kernel
theorem dX6_readEnd_36 : decode cX6_readEnd 36 = .ok (.invokevirtual 51, 3) := by decide +kernel
theorem dX6_readEnd_39 : decode cX6_readEnd 39 = .ok (.return_, 1) := by decide +kernel
theorem dX6_skipBlanks_0 : decode cX6_skipBlanks 0 = .ok (.iconst 0, 1) := by decide +kernel
theorem dX6_skipBlanks_1 : decode cX6_skipBlanks 1 = .ok (.istore_n 1, 1) := by decide +kernel
theorem dX6_skipBlanks_2 : decode cX6_skipBlanks 2 = .ok (.iload_n 1, 1) := by decide +kernel
theorem dX6_skipBlanks_3 : decode cX6_skipBlanks 3 = .ok (.sipush 240, 3) := by decide +kernel
theorem dX6_skipBlanks_6 : decode cX6_skipBlanks 6 = .ok (.if_icmp .ge 32, 3) := by decide +kernel
theorem dX6_skipBlanks_9 : decode cX6_skipBlanks 9 = .ok (.aload_n 0, 1) := by decide +kernel
theorem dX6_skipBlanks_10 : decode cX6_skipBlanks 10 = .ok (.aload_n 0, 1) := by decide +kernel
theorem dX6_skipBlanks_11 : decode cX6_skipBlanks 11 = .ok (.getfield 35, 3) := by decide +kernel
theorem dX6_skipBlanks_14 : decode cX6_skipBlanks 14 = .ok (.invokevirtual 44, 3) := by decide +kernel
theorem dX6_skipBlanks_17 : decode cX6_skipBlanks 17 = .ok (.bipush 32, 2) := by decide +kernel
theorem dX6_skipBlanks_19 : decode cX6_skipBlanks 19 = .ok (.if_icmp .ne 19, 3) := by decide +kernel
theorem dX6_skipBlanks_22 : decode cX6_skipBlanks 22 = .ok (.aload_n 0, 1) := by decide +kernel
theorem dX6_skipBlanks_23 : decode cX6_skipBlanks 23 = .ok (.dup, 1) := by decide +kernel
theorem dX6_skipBlanks_24 : decode cX6_skipBlanks 24 = .ok (.getfield 35, 3) := by decide +kernel
theorem dX6_skipBlanks_27 : decode cX6_skipBlanks 27 = .ok (.iconst 1, 1) := by decide +kernel
theorem dX6_skipBlanks_28 : decode cX6_skipBlanks 28 = .ok (.iadd, 1) := by decide +kernel
theorem dX6_skipBlanks_29 : decode cX6_skipBlanks 29 = .ok (.putfield 35, 3) := by decide +kernel
theorem dX6_skipBlanks_32 : decode cX6_skipBlanks 32 = .ok (.iinc 1 1, 3) := by decide +kernel
theorem dX6_skipBlanks_35 : decode cX6_skipBlanks 35 = .ok (.goto (-33), 3) := by decide +kernel
theorem dX6_skipBlanks_38 : decode cX6_skipBlanks 38 = .ok (.return_, 1) := by decide +kernel
theorem dX6_letterAt_0 : decode cX6_letterAt 0 = .ok (.iload_n 1, 1) := by decide +kernel
theorem dX6_letterAt_1 : decode cX6_letterAt 1 = .ok (.ifCond .lt 27, 3) := by decide +kernel
theorem dX6_letterAt_4 : decode cX6_letterAt 4 = .ok (.iload_n 1, 1) := by decide +kernel
theorem dX6_letterAt_5 : decode cX6_letterAt 5 = .ok (.aload_n 0, 1) := by decide +kernel
theorem dX6_letterAt_6 : decode cX6_letterAt 6 = .ok (.getfield 26, 3) := by decide +kernel
theorem dX6_letterAt_9 : decode cX6_letterAt 9 = .ok (.if_icmp .ge 19, 3) := by decide +kernel
theorem dX6_letterAt_12 : decode cX6_letterAt 12 = .ok (.iload_n 1, 1) := by decide +kernel
theorem dX6_letterAt_13 : decode cX6_letterAt 13 = .ok (.sipush 240, 3) := by decide +kernel
theorem dX6_letterAt_16 : decode cX6_letterAt 16 = .ok (.if_icmp .ge 12, 3) := by decide +kernel
theorem dX6_letterAt_19 : decode cX6_letterAt 19 = .ok (.aload_n 0, 1) := by decide +kernel
theorem dX6_letterAt_20 : decode cX6_letterAt 20 = .ok (.getfield 18, 3) := by decide +kernel
theorem dX6_letterAt_23 : decode cX6_letterAt 23 = .ok (.iload_n 1, 1) := by decide +kernel
theorem dX6_letterAt_24 : decode cX6_letterAt 24 = .ok (.caload, 1) := by decide +kernel
theorem dX6_letterAt_25 : decode cX6_letterAt 25 = .ok (.goto 4, 3) := by decide +kernel
theorem dX6_letterAt_28 : decode cX6_letterAt 28 = .ok (.iconst (-1), 1) := by decide +kernel
theorem dX6_letterAt_29 : decode cX6_letterAt 29 = .ok (.ireturn, 1) := by decide +kernel
theorem dX6_blame_0 : decode cX6_blame 0 = .ok (.aload_n 0, 1) := by decide +kernel
theorem dX6_blame_1 : decode cX6_blame 1 = .ok (.iload_n 1, 1) := by decide +kernel
theorem dX6_blame_2 : decode cX6_blame 2 = .ok (.putfield 32, 3) := by decide +kernel
theorem dX6_blame_5 : decode cX6_blame 5 = .ok (.aload_n 0, 1) := by decide +kernel
theorem dX6_blame_6 : decode cX6_blame 6 = .ok (.iload_n 2, 1) := by decide +kernel
theorem dX6_blame_7 : decode cX6_blame 7 = .ok (.putfield 22, 3) := by decide +kernel
theorem dX6_blame_10 : decode cX6_blame 10 = .ok (.return_, 1) := by decide +kernel
theorem dX6_firstLeast_0 : decode cX6_firstLeast 0 = .ok (.iload_n 1, 1) := by decide +kernel
theorem dX6_firstLeast_1 : decode cX6_firstLeast 1 = .ok (.bipush 104, 2) := by decide +kernel
theorem dX6_firstLeast_3 : decode cX6_firstLeast 3 = .ok (.if_icmp .eq 9, 3) := by decide +kernel
theorem dX6_firstLeast_6 : decode cX6_firstLeast 6 = .ok (.iload_n 1, 1) := by decide +kernel
theorem dX6_firstLeast_7 : decode cX6_firstLeast 7 = .ok (.bipush 116, 2) := by decide +kernel
theorem dX6_firstLeast_9 : decode cX6_firstLeast 9 = .ok (.if_icmp .ne 7, 3) := by decide +kernel
theorem dX6_firstLeast_12 : decode cX6_firstLeast 12 = .ok (.iconst 1, 1) := by decide +kernel
theorem dX6_firstLeast_13 : decode cX6_firstLeast 13 = .ok (.goto 4, 3) := by decide +kernel
theorem dX6_firstLeast_16 : decode cX6_firstLeast 16 = .ok (.iconst 0, 1) := by decide +kernel
theorem dX6_firstLeast_17 : decode cX6_firstLeast 17 = .ok (.ireturn, 1) := by decide +kernel
theorem dX6_firstMost_0 : decode cX6_firstMost 0 = .ok (.iload_n 1, 1) := by decide +kernel
theorem dX6_firstMost_1 : decode cX6_firstMost 1 = .ok (.lookupswitch 33 #[(104, 27), (116, 30)], 27) := by decide +kernel
theorem dX6_firstMost_28 : decode cX6_firstMost 28 = .ok (.bipush 8, 2) := by decide +kernel
theorem dX6_firstMost_30 : decode cX6_firstMost 30 = .ok (.ireturn, 1) := by decide +kernel
theorem dX6_firstMost_31 : decode cX6_firstMost 31 = .ok (.bipush 99, 2) := by decide +kernel
theorem dX6_firstMost_33 : decode cX6_firstMost 33 = .ok (.ireturn, 1) := by decide +kernel
theorem dX6_firstMost_34 : decode cX6_firstMost 34 = .ok (.aload_n 0, 1) := by decide +kernel
theorem dX6_firstMost_35 : decode cX6_firstMost 35 = .ok (.getfield 12, 3) := by decide +kernel
theorem dX6_firstMost_38 : decode cX6_firstMost 38 = .ok (.getfield 88, 3) := by decide +kernel
theorem dX6_firstMost_41 : decode cX6_firstMost 41 = .ok (.iconst 1, 1) := by decide +kernel
theorem dX6_firstMost_42 : decode cX6_firstMost 42 = .ok (.isub, 1) := by decide +kernel
theorem dX6_firstMost_43 : decode cX6_firstMost 43 = .ok (.ireturn, 1) := by decide +kernel
theorem dX6_secondLeast_0 : decode cX6_secondLeast 0 = .ok (.iload_n 1, 1) := by decide +kernel
theorem dX6_secondLeast_1 : decode cX6_secondLeast 1 = .ok (.bipush 119, 2) := by decide +kernel
theorem dX6_secondLeast_3 : decode cX6_secondLeast 3 = .ok (.if_icmp .ne 7, 3) := by decide +kernel
theorem dX6_secondLeast_6 : decode cX6_secondLeast 6 = .ok (.iconst 1, 1) := by decide +kernel
theorem dX6_secondLeast_7 : decode cX6_secondLeast 7 = .ok (.goto 4, 3) := by decide +kernel
theorem dX6_secondLeast_10 : decode cX6_secondLeast 10 = .ok (.iconst 0, 1) := by decide +kernel
theorem dX6_secondLeast_11 : decode cX6_secondLeast 11 = .ok (.ireturn, 1) := by decide +kernel
theorem dX6_secondMost_0 : decode cX6_secondMost 0 = .ok (.iload_n 1, 1) := by decide +kernel
theorem dX6_secondMost_1 : decode cX6_secondMost 1 = .ok (.lookupswitch 41 #[(112, 27), (119, 37)], 27) := by decide +kernel
theorem dX6_secondMost_28 : decode cX6_secondMost 28 = .ok (.aload_n 0, 1) := by decide +kernel
theorem dX6_secondMost_29 : decode cX6_secondMost 29 = .ok (.getfield 12, 3) := by decide +kernel
theorem dX6_secondMost_32 : decode cX6_secondMost 32 = .ok (.getfield 88, 3) := by decide +kernel
theorem dX6_secondMost_35 : decode cX6_secondMost 35 = .ok (.iconst 1, 1) := by decide +kernel
theorem dX6_secondMost_36 : decode cX6_secondMost 36 = .ok (.isub, 1) := by decide +kernel
theorem dX6_secondMost_37 : decode cX6_secondMost 37 = .ok (.ireturn, 1) := by decide +kernel
theorem dX6_secondMost_38 : decode cX6_secondMost 38 = .ok (.sipush 999, 3) := by decide +kernel
theorem dX6_secondMost_41 : decode cX6_secondMost 41 = .ok (.ireturn, 1) := by decide +kernel
theorem dX6_secondMost_42 : decode cX6_secondMost 42 = .ok (.bipush 99, 2) := by decide +kernel
theorem dX6_secondMost_44 : decode cX6_secondMost 44 = .ok (.ireturn, 1) := by decide +kernel
theorem dX6_isFigure_0 : decode cX6_isFigure 0 = .ok (.iload_n 0, 1) := by decide +kernel
theorem dX6_isFigure_1 : decode cX6_isFigure 1 = .ok (.bipush 48, 2) := by decide +kernel
theorem dX6_isFigure_3 : decode cX6_isFigure 3 = .ok (.if_icmp .lt 13, 3) := by decide +kernel
theorem dX6_isFigure_6 : decode cX6_isFigure 6 = .ok (.iload_n 0, 1) := by decide +kernel
theorem dX6_isFigure_7 : decode cX6_isFigure 7 = .ok (.bipush 57, 2) := by decide +kernel
theorem dX6_isFigure_9 : decode cX6_isFigure 9 = .ok (.if_icmp .gt 7, 3) := by decide +kernel
theorem dX6_isFigure_12 : decode cX6_isFigure 12 = .ok (.iconst 1, 1) := by decide +kernel
theorem dX6_isFigure_13 : decode cX6_isFigure 13 = .ok (.goto 4, 3) := by decide +kernel
theorem dX6_isFigure_16 : decode cX6_isFigure 16 = .ok (.iconst 0, 1) := by decide +kernel
theorem dX6_isFigure_17 : decode cX6_isFigure 17 = .ok (.ireturn, 1) := by decide +kernel
theorem dX7_init_0 : decode cX7_init 0 = .ok (.aload_n 0, 1) := by decide +kernel
theorem dX7_init_1 : decode cX7_init 1 = .ok (.invokespecial 3, 3) := by decide +kernel
theorem dX7_init_4 : decode cX7_init 4 = .ok (.aload_n 0, 1) := by decide +kernel
theorem dX7_init_5 : decode cX7_init 5 = .ok (.iconst 4, 1) := by decide +kernel
theorem dX7_init_6 : decode cX7_init 6 = .ok (.newarray .int, 2) := by decide +kernel
theorem dX7_init_8 : decode cX7_init 8 = .ok (.putfield 9, 3) := by decide +kernel
theorem dX7_init_11 : decode cX7_init 11 = .ok (.aload_n 0, 1) := by decide +kernel
theorem dX7_init_12 : decode cX7_init 12 = .ok (.iconst 4, 1) := by decide +kernel
theorem dX7_init_13 : decode cX7_init 13 = .ok (.newarray .int, 2) := by decide +kernel
theorem dX7_init_15 : decode cX7_init 15 = .ok (.putfield 15, 3) := by decide +kernel
theorem dX7_init_18 : decode cX7_init 18 = .ok (.aload_n 0, 1) := by decide +kernel
theorem dX7_init_19 : decode cX7_init 19 = .ok (.iconst 4, 1) := by decide +kernel
theorem dX7_init_20 : decode cX7_init 20 = .ok (.newarray .int, 2) := by decide +kernel
theorem dX7_init_22 : decode cX7_init 22 = .ok (.putfield 18, 3) := by decide +kernel
theorem dX7_init_25 : decode cX7_init 25 = .ok (.aload_n 0, 1) := by decide +kernel
theorem dX7_init_26 : decode cX7_init 26 = .ok (.aload_n 1, 1) := by decide +kernel
theorem dX7_init_27 : decode cX7_init 27 = .ok (.putfield 21, 3) := by decide +kernel
theorem dX7_init_30 : decode cX7_init 30 = .ok (.aload_n 0, 1) := by decide +kernel
theorem dX7_init_31 : decode cX7_init 31 = .ok (.aload_n 2, 1) := by decide +kernel
theorem dX7_init_32 : decode cX7_init 32 = .ok (.putfield 25, 3) := by decide +kernel
theorem dX7_init_35 : decode cX7_init 35 = .ok (.return_, 1) := by decide +kernel
theorem dX7_answer_0 : decode cX7_answer 0 = .ok (.iload_n 1, 1) := by decide +kernel
theorem dX7_answer_1 : decode cX7_answer 1 = .ok (.iconst (-1), 1) := by decide +kernel
theorem dX7_answer_2 : decode cX7_answer 2 = .ok (.if_icmp .ne 8, 3) := by decide +kernel
theorem dX7_answer_5 : decode cX7_answer 5 = .ok (.aload_n 0, 1) := by decide +kernel
theorem dX7_answer_6 : decode cX7_answer 6 = .ok (.getfield 29, 3) := by decide +kernel
theorem dX7_answer_9 : decode cX7_answer 9 = .ok (.ireturn, 1) := by decide +kernel
theorem dX7_answer_10 : decode cX7_answer 10 = .ok (.aload_n 0, 1) := by decide +kernel
theorem dX7_answer_11 : decode cX7_answer 11 = .ok (.getfield 21, 3) := by decide +kernel
theorem dX7_answer_14 : decode cX7_answer 14 = .ok (.iload_n 1, 1) := by decide +kernel
theorem dX7_answer_15 : decode cX7_answer 15 = .ok (.invokevirtual 33, 3) := by decide +kernel
theorem dX7_answer_18 : decode cX7_answer 18 = .ok (.ifCond .ne 6, 3) := by decide +kernel
theorem dX7_answer_21 : decode cX7_answer 21 = .ok (.ldc 39, 2) := by decide +kernel
theorem dX7_answer_23 : decode cX7_answer 23 = .ok (.ireturn, 1) := by decide +kernel
theorem dX7_answer_24 : decode cX7_answer 24 = .ok (.aload_n 0, 1) := by decide +kernel
theorem dX7_answer_25 : decode cX7_answer 25 = .ok (.getfield 21, 3) := by decide +kernel
theorem dX7_answer_28 : decode cX7_answer 28 = .ok (.aload_n 0, 1) := by decide +kernel
theorem dX7_answer_29 : decode cX7_answer 29 = .ok (.getfield 18, 3) := by decide +kernel
theorem dX7_answer_32 : decode cX7_answer 32 = .ok (.iload_n 1, 1) := by decide +kernel
theorem dX7_answer_33 : decode cX7_answer 33 = .ok (.iaload, 1) := by decide +kernel
theorem dX7_answer_34 : decode cX7_answer 34 = .ok (.invokevirtual 40, 3) := by decide +kernel
theorem dX7_answer_37 : decode cX7_answer 37 = .ok (.ifCond .eq 12, 3) := by decide +kernel
theorem dX7_answer_40 : decode cX7_answer 40 = .ok (.aload_n 0, 1) := by decide +kernel
theorem dX7_answer_41 : decode cX7_answer 41 = .ok (.getfield 18, 3) := by decide +kernel
theorem dX7_answer_44 : decode cX7_answer 44 = .ok (.iload_n 1, 1) := by decide +kernel
theorem dX7_answer_45 : decode cX7_answer 45 = .ok (.iaload, 1) := by decide +kernel
theorem dX7_answer_46 : decode cX7_answer 46 = .ok (.goto 4, 3) := by decide +kernel
theorem dX7_answer_49 : decode cX7_answer 49 = .ok (.iconst (-1), 1) := by decide +kernel
theorem dX7_answer_50 : decode cX7_answer 50 = .ok (.ireturn, 1) := by decide +kernel
theorem dX7_seek_0 : decode cX7_seek 0 = .ok (.aload_n 0, 1) := by decide +kernel
theorem dX7_seek_1 : decode cX7_seek 1 = .ok (.invokevirtual 43, 3) := by decide +kernel
theorem dX7_seek_4 : decode cX7_seek 4 = .ok (.aload_n 0, 1) := by decide +kernel
theorem dX7_seek_5 : decode cX7_seek 5 = .ok (.iconst (-1), 1) := by decide +kernel
theorem dX7_seek_6 : decode cX7_seek 6 = .ok (.putfield 29, 3) := by decide +kernel
theorem dX7_seek_9 : decode cX7_seek 9 = .ok (.aload_n 0, 1) := by decide +kernel
theorem dX7_seek_10 : decode cX7_seek 10 = .ok (.getfield 21, 3) := by decide +kernel
theorem dX7_seek_13 : decode cX7_seek 13 = .ok (.getfield 46, 3) := by decide +kernel
theorem dX7_seek_16 : decode cX7_seek 16 = .ok (.iconst 1, 1) := by decide +kernel
theorem dX7_seek_17 : decode cX7_seek 17 = .ok (.iadd, 1) := by decide +kernel
theorem dX7_seek_18 : decode cX7_seek 18 = .ok (.istore_n 1, 1) := by decide +kernel
theorem dX7_seek_19 : decode cX7_seek 19 = .ok (.iload_n 1, 1) := by decide +kernel
theorem dX7_seek_20 : decode cX7_seek 20 = .ok (.aload_n 0, 1) := by decide +kernel
theorem dX7_seek_21 : decode cX7_seek 21 = .ok (.getfield 21, 3) := by decide +kernel
theorem dX7_seek_24 : decode cX7_seek 24 = .ok (.getfield 49, 3) := by decide +kernel
theorem dX7_seek_27 : decode cX7_seek 27 = .ok (.invokestatic 52, 3) := by decide +kernel
theorem dX7_seek_30 : decode cX7_seek 30 = .ok (.istore_n 2, 1) := by decide +kernel
theorem dX7_seek_31 : decode cX7_seek 31 = .ok (.iconst 0, 1) := by decide +kernel
theorem dX7_seek_32 : decode cX7_seek 32 = .ok (.istore_n 3, 1) := by decide +kernel
theorem dX7_seek_33 : decode cX7_seek 33 = .ok (.iload_n 3, 1) := by decide +kernel
theorem dX7_seek_34 : decode cX7_seek 34 = .ok (.iload_n 2, 1) := by decide +kernel
theorem dX7_seek_35 : decode cX7_seek 35 = .ok (.if_icmp .ge 60, 3) := by decide +kernel
theorem dX7_seek_38 : decode cX7_seek 38 = .ok (.iload_n 3, 1) := by decide +kernel
theorem dX7_seek_39 : decode cX7_seek 39 = .ok (.iload_n 1, 1) := by decide +kernel
theorem dX7_seek_40 : decode cX7_seek 40 = .ok (.aload_n 0, 1) := by decide +kernel
theorem dX7_seek_41 : decode cX7_seek 41 = .ok (.getfield 15, 3) := by decide +kernel
theorem dX7_seek_44 : decode cX7_seek 44 = .ok (.aload_n 0, 1) := by decide +kernel
theorem dX7_seek_45 : decode cX7_seek 45 = .ok (.getfield 21, 3) := by decide +kernel
theorem dX7_seek_48 : decode cX7_seek 48 = .ok (.getfield 49, 3) := by decide +kernel
theorem dX7_seek_51 : decode cX7_seek 51 = .ok (.invokestatic 56, 3) := by decide +kernel
theorem dX7_seek_54 : decode cX7_seek 54 = .ok (.aload_n 0, 1) := by decide +kernel
theorem dX7_seek_55 : decode cX7_seek 55 = .ok (.invokevirtual 60, 3) := by decide +kernel
theorem dX7_seek_58 : decode cX7_seek 58 = .ok (.istore 4, 2) := by decide +kernel
theorem dX7_seek_60 : decode cX7_seek 60 = .ok (.iload 4, 2) := by decide +kernel
theorem dX7_seek_62 : decode cX7_seek 62 = .ok (.aload_n 0, 1) := by decide +kernel
theorem dX7_seek_63 : decode cX7_seek 63 = .ok (.getfield 29, 3) := by decide +kernel
theorem dX7_seek_66 : decode cX7_seek 66 = .ok (.if_icmp .le 23, 3) := by decide +kernel
theorem dX7_seek_69 : decode cX7_seek 69 = .ok (.aload_n 0, 1) := by decide +kernel
theorem dX7_seek_70 : decode cX7_seek 70 = .ok (.iload 4, 2) := by decide +kernel
theorem dX7_seek_72 : decode cX7_seek 72 = .ok (.putfield 29, 3) := by decide +kernel
theorem dX7_seek_75 : decode cX7_seek 75 = .ok (.aload_n 0, 1) := by decide +kernel
theorem dX7_seek_76 : decode cX7_seek 76 = .ok (.getfield 15, 3) := by decide +kernel
theorem dX7_seek_79 : decode cX7_seek 79 = .ok (.iconst 0, 1) := by decide +kernel
theorem dX7_seek_80 : decode cX7_seek 80 = .ok (.aload_n 0, 1) := by decide +kernel
theorem dX7_seek_81 : decode cX7_seek 81 = .ok (.getfield 18, 3) := by decide +kernel
theorem dX7_seek_84 : decode cX7_seek 84 = .ok (.iconst 0, 1) := by decide +kernel
theorem dX7_seek_85 : decode cX7_seek 85 = .ok (.iconst 4, 1) := by decide +kernel
theorem dX7_seek_86 : decode cX7_seek 86 = .ok (.invokestatic 64, 3) := by decide +kernel
theorem dX7_seek_89 : decode cX7_seek 89 = .ok (.iinc 3 1, 3) := by decide +kernel
theorem dX7_seek_92 : decode cX7_seek 92 = .ok (.goto (-59), 3) := by decide +kernel
theorem dX7_seek_95 : decode cX7_seek 95 = .ok (.return_, 1) := by decide +kernel
theorem dX7_markInTime_0 : decode cX7_markInTime 0 = .ok (.iconst 0, 1) := by decide +kernel
theorem dX7_markInTime_1 : decode cX7_markInTime 1 = .ok (.istore_n 1, 1) := by decide +kernel
theorem dX7_markInTime_2 : decode cX7_markInTime 2 = .ok (.iload_n 1, 1) := by decide +kernel
theorem dX7_markInTime_3 : decode cX7_markInTime 3 = .ok (.aload_n 0, 1) := by decide +kernel
theorem dX7_markInTime_4 : decode cX7_markInTime 4 = .ok (.getfield 21, 3) := by decide +kernel
theorem dX7_markInTime_7 : decode cX7_markInTime 7 = .ok (.getfield 49, 3) := by decide +kernel
theorem dX7_markInTime_10 : decode cX7_markInTime 10 = .ok (.if_icmp .ge 103, 3) := by decide +kernel
theorem dX7_markInTime_13 : decode cX7_markInTime 13 = .ok (.iload_n 1, 1) := by decide +kernel
theorem dX7_markInTime_14 : decode cX7_markInTime 14 = .ok (.iconst 4, 1) := by decide +kernel
theorem dX7_markInTime_15 : decode cX7_markInTime 15 = .ok (.if_icmp .ge 98, 3) := by decide +kernel
theorem dX7_markInTime_18 : decode cX7_markInTime 18 = .ok (.aload_n 0, 1) := by decide +kernel
theorem dX7_markInTime_19 : decode cX7_markInTime 19 = .ok (.getfield 9, 3) := by decide +kernel
theorem dX7_markInTime_22 : decode cX7_markInTime 22 = .ok (.iload_n 1, 1) := by decide +kernel
theorem dX7_markInTime_23 : decode cX7_markInTime 23 = .ok (.iconst 0, 1) := by decide +kernel
theorem dX7_markInTime_24 : decode cX7_markInTime 24 = .ok (.iastore, 1) := by decide +kernel
theorem dX7_markInTime_25 : decode cX7_markInTime 25 = .ok (.iconst 0, 1) := by decide +kernel
theorem dX7_markInTime_26 : decode cX7_markInTime 26 = .ok (.istore_n 2, 1) := by decide +kernel
theorem dX7_markInTime_27 : decode cX7_markInTime 27 = .ok (.iload_n 2, 1) := by decide +kernel
theorem dX7_markInTime_28 : decode cX7_markInTime 28 = .ok (.aload_n 0, 1) := by decide +kernel
theorem dX7_markInTime_29 : decode cX7_markInTime 29 = .ok (.getfield 21, 3) := by decide +kernel
theorem dX7_markInTime_32 : decode cX7_markInTime 32 = .ok (.getfield 46, 3) := by decide +kernel
theorem dX7_markInTime_35 : decode cX7_markInTime 35 = .ok (.if_icmp .ge 72, 3) := by decide +kernel
theorem dX7_markInTime_38 : decode cX7_markInTime 38 = .ok (.aload_n 0, 1) := by decide +kernel
theorem dX7_markInTime_39 : decode cX7_markInTime 39 = .ok (.getfield 21, 3) := by decide +kernel
theorem dX7_markInTime_42 : decode cX7_markInTime 42 = .ok (.aload_n 0, 1) := by decide +kernel
theorem dX7_markInTime_43 : decode cX7_markInTime 43 = .ok (.getfield 25, 3) := by decide +kernel
theorem dX7_markInTime_46 : decode cX7_markInTime 46 = .ok (.iload_n 2, 1) := by decide +kernel
theorem dX7_markInTime_47 : decode cX7_markInTime 47 = .ok (.invokevirtual 70, 3) := by decide +kernel
theorem dX7_markInTime_50 : decode cX7_markInTime 50 = .ok (.aload_n 0, 1) := by decide +kernel
theorem dX7_markInTime_51 : decode cX7_markInTime 51 = .ok (.getfield 21, 3) := by decide +kernel
theorem dX7_markInTime_54 : decode cX7_markInTime 54 = .ok (.getfield 76, 3) := by decide +kernel
theorem dX7_markInTime_57 : decode cX7_markInTime 57 = .ok (.iload_n 1, 1) := by decide +kernel
theorem dX7_markInTime_58 : decode cX7_markInTime 58 = .ok (.iaload, 1) := by decide +kernel
theorem dX7_markInTime_59 : decode cX7_markInTime 59 = .ok (.invokevirtual 79, 3) := by decide +kernel
theorem dX7_markInTime_62 : decode cX7_markInTime 62 = .ok (.istore_n 3, 1) := by decide +kernel
theorem dX7_markInTime_63 : decode cX7_markInTime 63 = .ok (.iload_n 3, 1) := by decide +kernel
theorem dX7_markInTime_64 : decode cX7_markInTime 64 = .ok (.iconst (-1), 1) := by decide +kernel
theorem dX7_markInTime_65 : decode cX7_markInTime 65 = .ok (.if_icmp .eq 36, 3) := by decide +kernel
theorem dX7_markInTime_68 : decode cX7_markInTime 68 = .ok (.aload_n 0, 1) := by decide +kernel
theorem dX7_markInTime_69 : decode cX7_markInTime 69 = .ok (.getfield 25, 3) := by decide +kernel
theorem dX7_markInTime_72 : decode cX7_markInTime 72 = .ok (.getfield 82, 3) := by decide +kernel
theorem dX7_markInTime_75 : decode cX7_markInTime 75 = .ok (.iload_n 3, 1) := by decide +kernel
theorem dX7_markInTime_76 : decode cX7_markInTime 76 = .ok (.iadd, 1) := by decide +kernel
theorem dX7_markInTime_77 : decode cX7_markInTime 77 = .ok (.aload_n 0, 1) := by decide +kernel
theorem dX7_markInTime_78 : decode cX7_markInTime 78 = .ok (.getfield 21, 3) := by decide +kernel
theorem dX7_markInTime_81 : decode cX7_markInTime 81 = .ok (.getfield 85, 3) := by decide +kernel
theorem dX7_markInTime_84 : decode cX7_markInTime 84 = .ok (.iload_n 1, 1) := by decide +kernel
theorem dX7_markInTime_85 : decode cX7_markInTime 85 = .ok (.iaload, 1) := by decide +kernel
theorem dX7_markInTime_86 : decode cX7_markInTime 86 = .ok (.if_icmp .gt 15, 3) := by decide +kernel
theorem dX7_markInTime_89 : decode cX7_markInTime 89 = .ok (.aload_n 0, 1) := by decide +kernel
theorem dX7_markInTime_90 : decode cX7_markInTime 90 = .ok (.getfield 9, 3) := by decide +kernel
theorem dX7_markInTime_93 : decode cX7_markInTime 93 = .ok (.iload_n 1, 1) := by decide +kernel
theorem dX7_markInTime_94 : decode cX7_markInTime 94 = .ok (.dup2, 1) := by decide +kernel
theorem dX7_markInTime_95 : decode cX7_markInTime 95 = .ok (.iaload, 1) := by decide +kernel
theorem dX7_markInTime_96 : decode cX7_markInTime 96 = .ok (.iconst 1, 1) := by decide +kernel
theorem dX7_markInTime_97 : decode cX7_markInTime 97 = .ok (.iload_n 2, 1) := by decide +kernel
theorem dX7_markInTime_98 : decode cX7_markInTime 98 = .ok (.ishl, 1) := by decide +kernel
theorem dX7_markInTime_99 : decode cX7_markInTime 99 = .ok (.ior, 1) := by decide +kernel
theorem dX7_markInTime_100 : decode cX7_markInTime 100 = .ok (.iastore, 1) := by decide +kernel
theorem dX7_markInTime_101 : decode cX7_markInTime 101 = .ok (.iinc 2 1, 3) := by decide +kernel
theorem dX7_markInTime_104 : decode cX7_markInTime 104 = .ok (.goto (-77), 3) := by decide +kernel
theorem dX7_markInTime_107 : decode cX7_markInTime 107 = .ok (.iinc 1 1, 3) := by decide +kernel
theorem dX7_markInTime_110 : decode cX7_markInTime 110 = .ok (.goto (-108), 3) := by decide +kernel
theorem dX7_markInTime_113 : decode cX7_markInTime 113 = .ok (.return_, 1) := by decide +kernel
theorem dX7_ordersTaken_0 : decode cX7_ordersTaken 0 = .ok (.iconst 0, 1) := by decide +kernel
theorem dX7_ordersTaken_1 : decode cX7_ordersTaken 1 = .ok (.istore_n 1, 1) := by decide +kernel
theorem dX7_ordersTaken_2 : decode cX7_ordersTaken 2 = .ok (.iconst 0, 1) := by decide +kernel
theorem dX7_ordersTaken_3 : decode cX7_ordersTaken 3 = .ok (.istore_n 2, 1) := by decide +kernel
theorem dX7_ordersTaken_4 : decode cX7_ordersTaken 4 = .ok (.iconst 0, 1) := by decide +kernel
theorem dX7_ordersTaken_5 : decode cX7_ordersTaken 5 = .ok (.istore_n 3, 1) := by decide +kernel
theorem dX7_ordersTaken_6 : decode cX7_ordersTaken 6 = .ok (.iload_n 3, 1) := by decide +kernel
theorem dX7_ordersTaken_7 : decode cX7_ordersTaken 7 = .ok (.aload_n 0, 1) := by decide +kernel
theorem dX7_ordersTaken_8 : decode cX7_ordersTaken 8 = .ok (.getfield 21, 3) := by decide +kernel
theorem dX7_ordersTaken_11 : decode cX7_ordersTaken 11 = .ok (.getfield 49, 3) := by decide +kernel
theorem dX7_ordersTaken_14 : decode cX7_ordersTaken 14 = .ok (.if_icmp .ge 72, 3) := by decide +kernel
theorem dX7_ordersTaken_17 : decode cX7_ordersTaken 17 = .ok (.iload_n 3, 1) := by decide +kernel
theorem dX7_ordersTaken_18 : decode cX7_ordersTaken 18 = .ok (.iconst 4, 1) := by decide +kernel
theorem dX7_ordersTaken_19 : decode cX7_ordersTaken 19 = .ok (.if_icmp .ge 67, 3) := by decide +kernel
theorem dX7_ordersTaken_22 : decode cX7_ordersTaken 22 = .ok (.aload_n 0, 1) := by decide +kernel
theorem dX7_ordersTaken_23 : decode cX7_ordersTaken 23 = .ok (.getfield 15, 3) := by decide +kernel
theorem dX7_ordersTaken_26 : decode cX7_ordersTaken 26 = .ok (.iload_n 3, 1) := by decide +kernel
theorem dX7_ordersTaken_27 : decode cX7_ordersTaken 27 = .ok (.iaload, 1) := by decide +kernel
theorem dX7_ordersTaken_28 : decode cX7_ordersTaken 28 = .ok (.istore 4, 2) := by decide +kernel
theorem dX7_ordersTaken_30 : decode cX7_ordersTaken 30 = .ok (.iload 4, 2) := by decide +kernel
theorem dX7_ordersTaken_32 : decode cX7_ordersTaken 32 = .ok (.aload_n 0, 1) := by decide +kernel
theorem dX7_ordersTaken_33 : decode cX7_ordersTaken 33 = .ok (.getfield 21, 3) := by decide +kernel
theorem dX7_ordersTaken_36 : decode cX7_ordersTaken 36 = .ok (.getfield 46, 3) := by decide +kernel
theorem dX7_ordersTaken_39 : decode cX7_ordersTaken 39 = .ok (.if_icmp .ne 6, 3) := by decide +kernel
theorem dX7_ordersTaken_42 : decode cX7_ordersTaken 42 = .ok (.goto 38, 3) := by decide +kernel
theorem dX7_ordersTaken_45 : decode cX7_ordersTaken 45 = .ok (.iload_n 1, 1) := by decide +kernel
theorem dX7_ordersTaken_46 : decode cX7_ordersTaken 46 = .ok (.iload 4, 2) := by decide +kernel
theorem dX7_ordersTaken_48 : decode cX7_ordersTaken 48 = .ok (.invokestatic 88, 3) := by decide +kernel
theorem dX7_ordersTaken_51 : decode cX7_ordersTaken 51 = .ok (.ifCond .ne 17, 3) := by decide +kernel
theorem dX7_ordersTaken_54 : decode cX7_ordersTaken 54 = .ok (.aload_n 0, 1) := by decide +kernel
theorem dX7_ordersTaken_55 : decode cX7_ordersTaken 55 = .ok (.getfield 9, 3) := by decide +kernel
theorem dX7_ordersTaken_58 : decode cX7_ordersTaken 58 = .ok (.iload_n 3, 1) := by decide +kernel
theorem dX7_ordersTaken_59 : decode cX7_ordersTaken 59 = .ok (.iaload, 1) := by decide +kernel
theorem dX7_ordersTaken_60 : decode cX7_ordersTaken 60 = .ok (.iload 4, 2) := by decide +kernel
theorem dX7_ordersTaken_62 : decode cX7_ordersTaken 62 = .ok (.invokestatic 88, 3) := by decide +kernel
theorem dX7_ordersTaken_65 : decode cX7_ordersTaken 65 = .ok (.ifCond .ne 5, 3) := by decide +kernel
theorem dX7_ordersTaken_68 : decode cX7_ordersTaken 68 = .ok (.iconst (-1), 1) := by decide +kernel
theorem dX7_ordersTaken_69 : decode cX7_ordersTaken 69 = .ok (.ireturn, 1) := by decide +kernel
theorem dX7_ordersTaken_70 : decode cX7_ordersTaken 70 = .ok (.iload_n 1, 1) := by decide +kernel
theorem dX7_ordersTaken_71 : decode cX7_ordersTaken 71 = .ok (.iconst 1, 1) := by decide +kernel
theorem dX7_ordersTaken_72 : decode cX7_ordersTaken 72 = .ok (.iload 4, 2) := by decide +kernel
theorem dX7_ordersTaken_74 : decode cX7_ordersTaken 74 = .ok (.ishl, 1) := by decide +kernel
theorem dX7_ordersTaken_75 : decode cX7_ordersTaken 75 = .ok (.ior, 1) := by decide +kernel
theorem dX7_ordersTaken_76 : decode cX7_ordersTaken 76 = .ok (.istore_n 1, 1) := by decide +kernel
theorem dX7_ordersTaken_77 : decode cX7_ordersTaken 77 = .ok (.iinc 2 1, 3) := by decide +kernel
theorem dX7_ordersTaken_80 : decode cX7_ordersTaken 80 = .ok (.iinc 3 1, 3) := by decide +kernel
theorem dX7_ordersTaken_83 : decode cX7_ordersTaken 83 = .ok (.goto (-77), 3) := by decide +kernel
theorem dX7_ordersTaken_86 : decode cX7_ordersTaken 86 = .ok (.iload_n 2, 1) := by decide +kernel
theorem dX7_ordersTaken_87 : decode cX7_ordersTaken 87 = .ok (.ireturn, 1) := by decide +kernel
theorem dX8_init_0 : decode cX8_init 0 = .ok (.aload_n 0, 1) := by decide +kernel
theorem dX8_init_1 : decode cX8_init 1 = .ok (.invokespecial 3, 3) := by decide +kernel
theorem dX8_init_4 : decode cX8_init 4 = .ok (.aload_n 0, 1) := by decide +kernel
theorem dX8_init_5 : decode cX8_init 5 = .ok (.iconst 4, 1) := by decide +kernel
theorem dX8_init_6 : decode cX8_init 6 = .ok (.newarray .int, 2) := by decide +kernel
theorem dX8_init_8 : decode cX8_init 8 = .ok (.putfield 9, 3) := by decide +kernel
theorem dX8_init_11 : decode cX8_init 11 = .ok (.aload_n 0, 1) := by decide +kernel
theorem dX8_init_12 : decode cX8_init 12 = .ok (.iconst 4, 1) := by decide +kernel
theorem dX8_init_13 : decode cX8_init 13 = .ok (.newarray .int, 2) := by decide +kernel
theorem dX8_init_15 : decode cX8_init 15 = .ok (.putfield 15, 3) := by decide +kernel
theorem dX8_init_18 : decode cX8_init 18 = .ok (.aload_n 0, 1) := by decide +kernel
theorem dX8_init_19 : decode cX8_init 19 = .ok (.iconst 4, 1) := by decide +kernel
theorem dX8_init_20 : decode cX8_init 20 = .ok (.newarray .int, 2) := by decide +kernel
theorem dX8_init_22 : decode cX8_init 22 = .ok (.putfield 18, 3) := by decide +kernel
theorem dX8_init_25 : decode cX8_init 25 = .ok (.aload_n 0, 1) := by decide +kernel
theorem dX8_init_26 : decode cX8_init 26 = .ok (.bipush 8, 2) := by decide +kernel
theorem dX8_init_28 : decode cX8_init 28 = .ok (.newarray .int, 2) := by decide +kernel
theorem dX8_init_30 : decode cX8_init 30 = .ok (.putfield 21, 3) := by decide +kernel
theorem dX8_init_33 : decode cX8_init 33 = .ok (.iconst 0, 1) := by decide +kernel
theorem dX8_init_34 : decode cX8_init 34 = .ok (.istore_n 1, 1) := by decide +kernel
theorem dX8_init_35 : decode cX8_init 35 = .ok (.iload_n 1, 1) := by decide +kernel
theorem dX8_init_36 : decode cX8_init 36 = .ok (.bipush 8, 2) := by decide +kernel
theorem dX8_init_38 : decode cX8_init 38 = .ok (.if_icmp .ge 17, 3) := by decide +kernel
theorem dX8_init_41 : decode cX8_init 41 = .ok (.aload_n 0, 1) := by decide +kernel
theorem dX8_init_42 : decode cX8_init 42 = .ok (.getfield 21, 3) := by decide +kernel
theorem dX8_init_45 : decode cX8_init 45 = .ok (.iload_n 1, 1) := by decide +kernel
theorem dX8_init_46 : decode cX8_init 46 = .ok (.bipush (-3), 2) := by decide +kernel
theorem dX8_init_48 : decode cX8_init 48 = .ok (.iastore, 1) := by decide +kernel
theorem dX8_init_49 : decode cX8_init 49 = .ok (.iinc 1 1, 3) := by decide +kernel
theorem dX8_init_52 : decode cX8_init 52 = .ok (.goto (-17), 3) := by decide +kernel
theorem dX8_init_55 : decode cX8_init 55 = .ok (.return_, 1) := by decide +kernel
theorem dX8_become_0 : decode cX8_become 0 = .ok (.aload_n 0, 1) := by decide +kernel
theorem dX8_become_1 : decode cX8_become 1 = .ok (.aload_n 1, 1) := by decide +kernel
theorem dX8_become_2 : decode cX8_become 2 = .ok (.getfield 24, 3) := by decide +kernel
theorem dX8_become_5 : decode cX8_become 5 = .ok (.putfield 24, 3) := by decide +kernel
theorem dX8_become_8 : decode cX8_become 8 = .ok (.aload_n 0, 1) := by decide +kernel
theorem dX8_become_9 : decode cX8_become 9 = .ok (.aload_n 1, 1) := by decide +kernel
theorem dX8_become_10 : decode cX8_become 10 = .ok (.getfield 28, 3) := by decide +kernel
theorem dX8_become_13 : decode cX8_become 13 = .ok (.putfield 28, 3) := by decide +kernel
theorem dX8_become_16 : decode cX8_become 16 = .ok (.aload_n 1, 1) := by decide +kernel
theorem dX8_become_17 : decode cX8_become 17 = .ok (.getfield 9, 3) := by decide +kernel
theorem dX8_become_20 : decode cX8_become 20 = .ok (.iconst 0, 1) := by decide +kernel
theorem dX8_become_21 : decode cX8_become 21 = .ok (.aload_n 0, 1) := by decide +kernel
theorem dX8_become_22 : decode cX8_become 22 = .ok (.getfield 9, 3) := by decide +kernel
theorem dX8_become_25 : decode cX8_become 25 = .ok (.iconst 0, 1) := by decide +kernel
theorem dX8_become_26 : decode cX8_become 26 = .ok (.iconst 4, 1) := by decide +kernel
theorem dX8_become_27 : decode cX8_become 27 = .ok (.invokestatic 31, 3) := by decide +kernel
theorem dX8_become_30 : decode cX8_become 30 = .ok (.aload_n 1, 1) := by decide +kernel
theorem dX8_become_31 : decode cX8_become 31 = .ok (.getfield 15, 3) := by decide +kernel
theorem dX8_become_34 : decode cX8_become 34 = .ok (.iconst 0, 1) := by decide +kernel
theorem dX8_become_35 : decode cX8_become 35 = .ok (.aload_n 0, 1) := by decide +kernel
theorem dX8_become_36 : decode cX8_become 36 = .ok (.getfield 15, 3) := by decide +kernel
theorem dX8_become_39 : decode cX8_become 39 = .ok (.iconst 0, 1) := by decide +kernel
theorem dX8_become_40 : decode cX8_become 40 = .ok (.iconst 4, 1) := by decide +kernel
theorem dX8_become_41 : decode cX8_become 41 = .ok (.invokestatic 31, 3) := by decide +kernel
theorem dX8_become_44 : decode cX8_become 44 = .ok (.aload_n 1, 1) := by decide +kernel
theorem dX8_become_45 : decode cX8_become 45 = .ok (.getfield 18, 3) := by decide +kernel
theorem dX8_become_48 : decode cX8_become 48 = .ok (.iconst 0, 1) := by decide +kernel
theorem dX8_become_49 : decode cX8_become 49 = .ok (.aload_n 0, 1) := by decide +kernel
theorem dX8_become_50 : decode cX8_become 50 = .ok (.getfield 18, 3) := by decide +kernel
theorem dX8_become_53 : decode cX8_become 53 = .ok (.iconst 0, 1) := by decide +kernel
theorem dX8_become_54 : decode cX8_become 54 = .ok (.iconst 4, 1) := by decide +kernel
theorem dX8_become_55 : decode cX8_become 55 = .ok (.invokestatic 31, 3) := by decide +kernel
theorem dX8_become_58 : decode cX8_become 58 = .ok (.aload_n 1, 1) := by decide +kernel
theorem dX8_become_59 : decode cX8_become 59 = .ok (.getfield 21, 3) := by decide +kernel
theorem dX8_become_62 : decode cX8_become 62 = .ok (.iconst 0, 1) := by decide +kernel
theorem dX8_become_63 : decode cX8_become 63 = .ok (.aload_n 0, 1) := by decide +kernel
theorem dX8_become_64 : decode cX8_become 64 = .ok (.getfield 21, 3) := by decide +kernel
theorem dX8_become_67 : decode cX8_become 67 = .ok (.iconst 0, 1) := by decide +kernel
theorem dX8_become_68 : decode cX8_become 68 = .ok (.bipush 8, 2) := by decide +kernel
theorem dX8_become_70 : decode cX8_become 70 = .ok (.invokestatic 31, 3) := by decide +kernel
theorem dX8_become_73 : decode cX8_become 73 = .ok (.return_, 1) := by decide +kernel
theorem dX8_open_0 : decode cX8_open 0 = .ok (.aload_n 0, 1) := by decide +kernel
theorem dX8_open_1 : decode cX8_open 1 = .ok (.iconst 0, 1) := by decide +kernel
theorem dX8_open_2 : decode cX8_open 2 = .ok (.putfield 24, 3) := by decide +kernel
theorem dX8_open_5 : decode cX8_open 5 = .ok (.aload_n 0, 1) := by decide +kernel
theorem dX8_open_6 : decode cX8_open 6 = .ok (.iconst 0, 1) := by decide +kernel
theorem dX8_open_7 : decode cX8_open 7 = .ok (.putfield 28, 3) := by decide +kernel
theorem dX8_open_10 : decode cX8_open 10 = .ok (.iconst 0, 1) := by decide +kernel
theorem dX8_open_11 : decode cX8_open 11 = .ok (.istore_n 2, 1) := by decide +kernel
theorem dX8_open_12 : decode cX8_open 12 = .ok (.iload_n 2, 1) := by decide +kernel
theorem dX8_open_13 : decode cX8_open 13 = .ok (.iconst 4, 1) := by decide +kernel
theorem dX8_open_14 : decode cX8_open 14 = .ok (.if_icmp .ge 35, 3) := by decide +kernel
theorem dX8_open_17 : decode cX8_open 17 = .ok (.aload_n 0, 1) := by decide +kernel
theorem dX8_open_18 : decode cX8_open 18 = .ok (.getfield 9, 3) := by decide +kernel
theorem dX8_open_21 : decode cX8_open 21 = .ok (.iload_n 2, 1) := by decide +kernel
theorem dX8_open_22 : decode cX8_open 22 = .ok (.aload_n 1, 1) := by decide +kernel
theorem dX8_open_23 : decode cX8_open 23 = .ok (.getfield 37, 3) := by decide +kernel
theorem dX8_open_26 : decode cX8_open 26 = .ok (.iload_n 2, 1) := by decide +kernel
theorem dX8_open_27 : decode cX8_open 27 = .ok (.iaload, 1) := by decide +kernel
theorem dX8_open_28 : decode cX8_open 28 = .ok (.iastore, 1) := by decide +kernel
theorem dX8_open_29 : decode cX8_open 29 = .ok (.aload_n 0, 1) := by decide +kernel
theorem dX8_open_30 : decode cX8_open 30 = .ok (.getfield 15, 3) := by decide +kernel
theorem dX8_open_33 : decode cX8_open 33 = .ok (.iload_n 2, 1) := by decide +kernel
theorem dX8_open_34 : decode cX8_open 34 = .ok (.iconst 0, 1) := by decide +kernel
theorem dX8_open_35 : decode cX8_open 35 = .ok (.iastore, 1) := by decide +kernel
theorem dX8_open_36 : decode cX8_open 36 = .ok (.aload_n 0, 1) := by decide +kernel
theorem dX8_open_37 : decode cX8_open 37 = .ok (.getfield 18, 3) := by decide +kernel
theorem dX8_open_40 : decode cX8_open 40 = .ok (.iload_n 2, 1) := by decide +kernel
theorem dX8_open_41 : decode cX8_open 41 = .ok (.iconst 0, 1) := by decide +kernel
theorem dX8_open_42 : decode cX8_open 42 = .ok (.iastore, 1) := by decide +kernel
theorem dX8_open_43 : decode cX8_open 43 = .ok (.iinc 2 1, 3) := by decide +kernel
theorem dX8_open_46 : decode cX8_open 46 = .ok (.goto (-34), 3) := by decide +kernel
theorem dX8_open_49 : decode cX8_open 49 = .ok (.iconst 0, 1) := by decide +kernel
theorem dX8_open_50 : decode cX8_open 50 = .ok (.istore_n 2, 1) := by decide +kernel
theorem dX8_open_51 : decode cX8_open 51 = .ok (.iload_n 2, 1) := by decide +kernel
theorem dX8_open_52 : decode cX8_open 52 = .ok (.bipush 8, 2) := by decide +kernel
theorem dX8_open_54 : decode cX8_open 54 = .ok (.if_icmp .ge 29, 3) := by decide +kernel
theorem dX8_open_57 : decode cX8_open 57 = .ok (.aload_n 0, 1) := by decide +kernel
theorem dX8_open_58 : decode cX8_open 58 = .ok (.getfield 21, 3) := by decide +kernel
theorem dX8_open_61 : decode cX8_open 61 = .ok (.iload_n 2, 1) := by decide +kernel
theorem dX8_open_62 : decode cX8_open 62 = .ok (.iload_n 2, 1) := by decide +kernel
theorem dX8_open_63 : decode cX8_open 63 = .ok (.aload_n 1, 1) := by decide +kernel
theorem dX8_open_64 : decode cX8_open 64 = .ok (.getfield 42, 3) := by decide +kernel
theorem dX8_open_67 : decode cX8_open 67 = .ok (.if_icmp .ge 7, 3) := by decide +kernel
theorem dX8_open_70 : decode cX8_open 70 = .ok (.iconst (-1), 1) := by decide +kernel
theorem dX8_open_71 : decode cX8_open 71 = .ok (.goto 5, 3) := by decide +kernel
theorem dX8_open_74 : decode cX8_open 74 = .ok (.bipush (-3), 2) := by decide +kernel
theorem dX8_open_76 : decode cX8_open 76 = .ok (.iastore, 1) := by decide +kernel
theorem dX8_open_77 : decode cX8_open 77 = .ok (.iinc 2 1, 3) := by decide +kernel
theorem dX8_open_80 : decode cX8_open 80 = .ok (.goto (-29), 3) := by decide +kernel
theorem dX8_open_83 : decode cX8_open 83 = .ok (.return_, 1) := by decide +kernel
theorem dX8_isSeat_0 : decode cX8_isSeat 0 = .ok (.iload_n 0, 1) := by decide +kernel
theorem dX8_isSeat_1 : decode cX8_isSeat 1 = .ok (.ifCond .lt 12, 3) := by decide +kernel
theorem dX8_isSeat_4 : decode cX8_isSeat 4 = .ok (.iload_n 0, 1) := by decide +kernel
theorem dX8_isSeat_5 : decode cX8_isSeat 5 = .ok (.iconst 4, 1) := by decide +kernel
theorem dX8_isSeat_6 : decode cX8_isSeat 6 = .ok (.if_icmp .ge 7, 3) := by decide +kernel
theorem dX8_isSeat_9 : decode cX8_isSeat 9 = .ok (.iconst 1, 1) := by decide +kernel
theorem dX8_isSeat_10 : decode cX8_isSeat 10 = .ok (.goto 4, 3) := by decide +kernel
theorem dX8_isSeat_13 : decode cX8_isSeat 13 = .ok (.iconst 0, 1) := by decide +kernel
theorem dX8_isSeat_14 : decode cX8_isSeat 14 = .ok (.ireturn, 1) := by decide +kernel
theorem dX8_roomOf_0 : decode cX8_roomOf 0 = .ok (.iload_n 1, 1) := by decide +kernel
theorem dX8_roomOf_1 : decode cX8_roomOf 1 = .ok (.invokestatic 45, 3) := by decide +kernel
theorem dX8_roomOf_4 : decode cX8_roomOf 4 = .ok (.ifCond .eq 12, 3) := by decide +kernel
theorem dX8_roomOf_7 : decode cX8_roomOf 7 = .ok (.aload_n 0, 1) := by decide +kernel
theorem dX8_roomOf_8 : decode cX8_roomOf 8 = .ok (.getfield 9, 3) := by decide +kernel
theorem dX8_roomOf_11 : decode cX8_roomOf 11 = .ok (.iload_n 1, 1) := by decide +kernel
theorem dX8_roomOf_12 : decode cX8_roomOf 12 = .ok (.iaload, 1) := by decide +kernel
theorem dX8_roomOf_13 : decode cX8_roomOf 13 = .ok (.goto 4, 3) := by decide +kernel
theorem dX8_roomOf_16 : decode cX8_roomOf 16 = .ok (.iconst (-1), 1) := by decide +kernel
theorem dX8_roomOf_17 : decode cX8_roomOf 17 = .ok (.ireturn, 1) := by decide +kernel
theorem dX8_routeOf_0 : decode cX8_routeOf 0 = .ok (.iload_n 1, 1) := by decide +kernel
theorem dX8_routeOf_1 : decode cX8_routeOf 1 = .ok (.invokestatic 45, 3) := by decide +kernel
theorem dX8_routeOf_4 : decode cX8_routeOf 4 = .ok (.ifCond .eq 12, 3) := by decide +kernel
theorem dX8_routeOf_7 : decode cX8_routeOf 7 = .ok (.aload_n 0, 1) := by decide +kernel
theorem dX8_routeOf_8 : decode cX8_routeOf 8 = .ok (.getfield 15, 3) := by decide +kernel
theorem dX8_routeOf_11 : decode cX8_routeOf 11 = .ok (.iload_n 1, 1) := by decide +kernel
theorem dX8_routeOf_12 : decode cX8_routeOf 12 = .ok (.iaload, 1) := by decide +kernel
theorem dX8_routeOf_13 : decode cX8_routeOf 13 = .ok (.goto 4, 3) := by decide +kernel
theorem dX8_routeOf_16 : decode cX8_routeOf 16 = .ok (.iconst 0, 1) := by decide +kernel
theorem dX8_routeOf_17 : decode cX8_routeOf 17 = .ok (.ireturn, 1) := by decide +kernel
theorem dX8_treatiesOf_0 : decode cX8_treatiesOf 0 = .ok (.iload_n 1, 1) := by decide +kernel
theorem dX8_treatiesOf_1 : decode cX8_treatiesOf 1 = .ok (.invokestatic 45, 3) := by decide +kernel
theorem dX8_treatiesOf_4 : decode cX8_treatiesOf 4 = .ok (.ifCond .eq 12, 3) := by decide +kernel
theorem dX8_treatiesOf_7 : decode cX8_treatiesOf 7 = .ok (.aload_n 0, 1) := by decide +kernel
theorem dX8_treatiesOf_8 : decode cX8_treatiesOf 8 = .ok (.getfield 18, 3) := by decide +kernel
theorem dX8_treatiesOf_11 : decode cX8_treatiesOf 11 = .ok (.iload_n 1, 1) := by decide +kernel
theorem dX8_treatiesOf_12 : decode cX8_treatiesOf 12 = .ok (.iaload, 1) := by decide +kernel
theorem dX8_treatiesOf_13 : decode cX8_treatiesOf 13 = .ok (.goto 4, 3) := by decide +kernel
theorem dX8_treatiesOf_16 : decode cX8_treatiesOf 16 = .ok (.iconst 0, 1) := by decide +kernel
theorem dX8_treatiesOf_17 : decode cX8_treatiesOf 17 = .ok (.ireturn, 1) := by decide +kernel
theorem dX8_placeOf_0 : decode cX8_placeOf 0 = .ok (.iload_n 1, 1) := by decide +kernel
theorem dX8_placeOf_1 : decode cX8_placeOf 1 = .ok (.ifCond .lt 18, 3) := by decide +kernel
theorem dX8_placeOf_4 : decode cX8_placeOf 4 = .ok (.iload_n 1, 1) := by decide +kernel
theorem dX8_placeOf_5 : decode cX8_placeOf 5 = .ok (.bipush 8, 2) := by decide +kernel
theorem dX8_placeOf_7 : decode cX8_placeOf 7 = .ok (.if_icmp .ge 12, 3) := by decide +kernel
theorem dX8_placeOf_10 : decode cX8_placeOf 10 = .ok (.aload_n 0, 1) := by decide +kernel
theorem dX8_placeOf_11 : decode cX8_placeOf 11 = .ok (.getfield 21, 3) := by decide +kernel
theorem dX8_placeOf_14 : decode cX8_placeOf 14 = .ok (.iload_n 1, 1) := by decide +kernel
theorem dX8_placeOf_15 : decode cX8_placeOf 15 = .ok (.iaload, 1) := by decide +kernel
theorem dX8_placeOf_16 : decode cX8_placeOf 16 = .ok (.goto 5, 3) := by decide +kernel
theorem dX8_placeOf_19 : decode cX8_placeOf 19 = .ok (.bipush (-3), 2) := by decide +kernel
theorem dX8_placeOf_21 : decode cX8_placeOf 21 = .ok (.ireturn, 1) := by decide +kernel
theorem dX8_bearerOf_0 : decode cX8_bearerOf 0 = .ok (.aload_n 0, 1) := by decide +kernel
theorem dX8_bearerOf_1 : decode cX8_bearerOf 1 = .ok (.iload_n 1, 1) := by decide +kernel
theorem dX8_bearerOf_2 : decode cX8_bearerOf 2 = .ok (.invokevirtual 49, 3) := by decide +kernel
theorem dX8_bearerOf_5 : decode cX8_bearerOf 5 = .ok (.istore_n 2, 1) := by decide +kernel
theorem dX8_bearerOf_6 : decode cX8_bearerOf 6 = .ok (.iload_n 2, 1) := by decide +kernel
theorem dX8_bearerOf_7 : decode cX8_bearerOf 7 = .ok (.ifCond .ge 7, 3) := by decide +kernel
theorem dX8_bearerOf_10 : decode cX8_bearerOf 10 = .ok (.iconst (-1), 1) := by decide +kernel
theorem dX8_bearerOf_11 : decode cX8_bearerOf 11 = .ok (.goto 6, 3) := by decide +kernel
theorem dX8_bearerOf_14 : decode cX8_bearerOf 14 = .ok (.iload_n 2, 1) := by decide +kernel
theorem dX8_bearerOf_15 : decode cX8_bearerOf 15 = .ok (.iconst 2, 1) := by decide +kernel
theorem dX8_bearerOf_16 : decode cX8_bearerOf 16 = .ok (.idiv, 1) := by decide +kernel
theorem dX8_bearerOf_17 : decode cX8_bearerOf 17 = .ok (.ireturn, 1) := by decide +kernel
theorem dX8_thingsAt_0 : decode cX8_thingsAt 0 = .ok (.iconst 0, 1) := by decide +kernel
theorem dX8_thingsAt_1 : decode cX8_thingsAt 1 = .ok (.istore_n 2, 1) := by decide +kernel
theorem dX8_thingsAt_2 : decode cX8_thingsAt 2 = .ok (.iconst 0, 1) := by decide +kernel
theorem dX8_thingsAt_3 : decode cX8_thingsAt 3 = .ok (.istore_n 3, 1) := by decide +kernel
theorem dX8_thingsAt_4 : decode cX8_thingsAt 4 = .ok (.iload_n 3, 1) := by decide +kernel
theorem dX8_thingsAt_5 : decode cX8_thingsAt 5 = .ok (.bipush 8, 2) := by decide +kernel
theorem dX8_thingsAt_7 : decode cX8_thingsAt 7 = .ok (.if_icmp .ge 25, 3) := by decide +kernel
theorem dX8_thingsAt_10 : decode cX8_thingsAt 10 = .ok (.aload_n 0, 1) := by decide +kernel
theorem dX8_thingsAt_11 : decode cX8_thingsAt 11 = .ok (.getfield 21, 3) := by decide +kernel
theorem dX8_thingsAt_14 : decode cX8_thingsAt 14 = .ok (.iload_n 3, 1) := by decide +kernel
theorem dX8_thingsAt_15 : decode cX8_thingsAt 15 = .ok (.iaload, 1) := by decide +kernel
theorem dX8_thingsAt_16 : decode cX8_thingsAt 16 = .ok (.iload_n 1, 1) := by decide +kernel
theorem dX8_thingsAt_17 : decode cX8_thingsAt 17 = .ok (.if_icmp .ne 9, 3) := by decide +kernel
theorem dX8_thingsAt_20 : decode cX8_thingsAt 20 = .ok (.iload_n 2, 1) := by decide +kernel
theorem dX8_thingsAt_21 : decode cX8_thingsAt 21 = .ok (.iconst 1, 1) := by decide +kernel
theorem dX8_thingsAt_22 : decode cX8_thingsAt 22 = .ok (.iload_n 3, 1) := by decide +kernel
theorem dX8_thingsAt_23 : decode cX8_thingsAt 23 = .ok (.ishl, 1) := by decide +kernel
theorem dX8_thingsAt_24 : decode cX8_thingsAt 24 = .ok (.ior, 1) := by decide +kernel
theorem dX8_thingsAt_25 : decode cX8_thingsAt 25 = .ok (.istore_n 2, 1) := by decide +kernel
theorem dX8_thingsAt_26 : decode cX8_thingsAt 26 = .ok (.iinc 3 1, 3) := by decide +kernel
theorem dX8_thingsAt_29 : decode cX8_thingsAt 29 = .ok (.goto (-25), 3) := by decide +kernel
theorem dX8_thingsAt_32 : decode cX8_thingsAt 32 = .ok (.iload_n 2, 1) := by decide +kernel
theorem dX8_thingsAt_33 : decode cX8_thingsAt 33 = .ok (.ireturn, 1) := by decide +kernel
theorem dX8_thingsOf_0 : decode cX8_thingsOf 0 = .ok (.aload_n 0, 1) := by decide +kernel
theorem dX8_thingsOf_1 : decode cX8_thingsOf 1 = .ok (.iload_n 1, 1) := by decide +kernel
theorem dX8_thingsOf_2 : decode cX8_thingsOf 2 = .ok (.iconst 0, 1) := by decide +kernel
theorem dX8_thingsOf_3 : decode cX8_thingsOf 3 = .ok (.invokestatic 53, 3) := by decide +kernel
theorem dX8_thingsOf_6 : decode cX8_thingsOf 6 = .ok (.invokevirtual 57, 3) := by decide +kernel
theorem dX8_thingsOf_9 : decode cX8_thingsOf 9 = .ok (.aload_n 0, 1) := by decide +kernel
theorem dX8_thingsOf_10 : decode cX8_thingsOf 10 = .ok (.iload_n 1, 1) := by decide +kernel
theorem dX8_thingsOf_11 : decode cX8_thingsOf 11 = .ok (.iconst 1, 1) := by decide +kernel
theorem dX8_thingsOf_12 : decode cX8_thingsOf 12 = .ok (.invokestatic 53, 3) := by decide +kernel
theorem dX8_thingsOf_15 : decode cX8_thingsOf 15 = .ok (.invokevirtual 57, 3) := by decide +kernel
theorem dX8_thingsOf_18 : decode cX8_thingsOf 18 = .ok (.ior, 1) := by decide +kernel
theorem dX8_thingsOf_19 : decode cX8_thingsOf 19 = .ok (.ireturn, 1) := by decide +kernel
theorem dX8_isAtHand_0 : decode cX8_isAtHand 0 = .ok (.aload_n 0, 1) := by decide +kernel
theorem dX8_isAtHand_1 : decode cX8_isAtHand 1 = .ok (.iload_n 1, 1) := by decide +kernel
theorem dX8_isAtHand_2 : decode cX8_isAtHand 2 = .ok (.invokevirtual 60, 3) := by decide +kernel
theorem dX8_isAtHand_5 : decode cX8_isAtHand 5 = .ok (.istore_n 3, 1) := by decide +kernel
theorem dX8_isAtHand_6 : decode cX8_isAtHand 6 = .ok (.iload_n 3, 1) := by decide +kernel
theorem dX8_isAtHand_7 : decode cX8_isAtHand 7 = .ok (.iconst (-1), 1) := by decide +kernel
theorem dX8_isAtHand_8 : decode cX8_isAtHand 8 = .ok (.if_icmp .ne 18, 3) := by decide +kernel
theorem dX8_isAtHand_11 : decode cX8_isAtHand 11 = .ok (.aload_n 0, 1) := by decide +kernel
theorem dX8_isAtHand_12 : decode cX8_isAtHand 12 = .ok (.iload_n 1, 1) := by decide +kernel
theorem dX8_isAtHand_13 : decode cX8_isAtHand 13 = .ok (.invokevirtual 49, 3) := by decide +kernel
theorem dX8_isAtHand_16 : decode cX8_isAtHand 16 = .ok (.iconst (-1), 1) := by decide +kernel
theorem dX8_isAtHand_17 : decode cX8_isAtHand 17 = .ok (.if_icmp .ne 7, 3) := by decide +kernel
theorem dX8_isAtHand_20 : decode cX8_isAtHand 20 = .ok (.iconst 1, 1) := by decide +kernel
theorem dX8_isAtHand_21 : decode cX8_isAtHand 21 = .ok (.goto 4, 3) := by decide +kernel
theorem dX8_isAtHand_24 : decode cX8_isAtHand 24 = .ok (.iconst 0, 1) := by decide +kernel
theorem dX8_isAtHand_25 : decode cX8_isAtHand 25 = .ok (.ireturn, 1) := by decide +kernel
theorem dX8_isAtHand_26 : decode cX8_isAtHand 26 = .ok (.iload_n 3, 1) := by decide +kernel
theorem dX8_isAtHand_27 : decode cX8_isAtHand 27 = .ok (.iload_n 2, 1) := by decide +kernel
theorem dX8_isAtHand_28 : decode cX8_isAtHand 28 = .ok (.if_icmp .eq 20, 3) := by decide +kernel
theorem dX8_isAtHand_31 : decode cX8_isAtHand 31 = .ok (.aload_n 0, 1) := by decide +kernel
theorem dX8_isAtHand_32 : decode cX8_isAtHand 32 = .ok (.iload_n 3, 1) := by decide +kernel
theorem dX8_isAtHand_33 : decode cX8_isAtHand 33 = .ok (.invokevirtual 63, 3) := by decide +kernel
theorem dX8_isAtHand_36 : decode cX8_isAtHand 36 = .ok (.aload_n 0, 1) := by decide +kernel
theorem dX8_isAtHand_37 : decode cX8_isAtHand 37 = .ok (.iload_n 2, 1) := by decide +kernel
theorem dX8_isAtHand_38 : decode cX8_isAtHand 38 = .ok (.invokevirtual 63, 3) := by decide +kernel
theorem dX8_isAtHand_41 : decode cX8_isAtHand 41 = .ok (.if_icmp .ne 7, 3) := by decide +kernel
theorem dX8_isAtHand_44 : decode cX8_isAtHand 44 = .ok (.iconst 1, 1) := by decide +kernel
theorem dX8_isAtHand_45 : decode cX8_isAtHand 45 = .ok (.goto 4, 3) := by decide +kernel
theorem dX8_isAtHand_48 : decode cX8_isAtHand 48 = .ok (.iconst 0, 1) := by decide +kernel
theorem dX8_isAtHand_49 : decode cX8_isAtHand 49 = .ok (.ireturn, 1) := by decide +kernel
theorem dX8_put_0 : decode cX8_put 0 = .ok (.iload_n 1, 1) := by decide +kernel
theorem dX8_put_1 : decode cX8_put 1 = .ok (.ifCond .lt 16, 3) := by decide +kernel
theorem dX8_put_4 : decode cX8_put 4 = .ok (.iload_n 1, 1) := by decide +kernel
theorem dX8_put_5 : decode cX8_put 5 = .ok (.bipush 8, 2) := by decide +kernel
theorem dX8_put_7 : decode cX8_put 7 = .ok (.if_icmp .ge 10, 3) := by decide +kernel
theorem dX8_put_10 : decode cX8_put 10 = .ok (.aload_n 0, 1) := by decide +kernel
theorem dX8_put_11 : decode cX8_put 11 = .ok (.getfield 21, 3) := by decide +kernel
theorem dX8_put_14 : decode cX8_put 14 = .ok (.iload_n 1, 1) := by decide +kernel
theorem dX8_put_15 : decode cX8_put 15 = .ok (.iload_n 2, 1) := by decide +kernel
theorem dX8_put_16 : decode cX8_put 16 = .ok (.iastore, 1) := by decide +kernel
theorem dX8_put_17 : decode cX8_put 17 = .ok (.return_, 1) := by decide +kernel
theorem dX8_setRoute_0 : decode cX8_setRoute 0 = .ok (.iload_n 1, 1) := by decide +kernel
theorem dX8_setRoute_1 : decode cX8_setRoute 1 = .ok (.invokestatic 45, 3) := by decide +kernel
theorem dX8_setRoute_4 : decode cX8_setRoute 4 = .ok (.ifCond .eq 10, 3) := by decide +kernel
theorem dX8_setRoute_7 : decode cX8_setRoute 7 = .ok (.aload_n 0, 1) := by decide +kernel
theorem dX8_setRoute_8 : decode cX8_setRoute 8 = .ok (.getfield 15, 3) := by decide +kernel
theorem dX8_setRoute_11 : decode cX8_setRoute 11 = .ok (.iload_n 1, 1) := by decide +kernel
theorem dX8_setRoute_12 : decode cX8_setRoute 12 = .ok (.iload_n 2, 1) := by decide +kernel
theorem dX8_setRoute_13 : decode cX8_setRoute 13 = .ok (.iastore, 1) := by decide +kernel
theorem dX8_setRoute_14 : decode cX8_setRoute 14 = .ok (.return_, 1) := by decide +kernel
theorem dX8_setTreaty_0 : decode cX8_setTreaty 0 = .ok (.iload_n 1, 1) := by decide +kernel
theorem dX8_setTreaty_1 : decode cX8_setTreaty 1 = .ok (.invokestatic 45, 3) := by decide +kernel
theorem dX8_setTreaty_4 : decode cX8_setTreaty 4 = .ok (.ifCond .eq 45, 3) := by decide +kernel
theorem dX8_setTreaty_7 : decode cX8_setTreaty 7 = .ok (.iload_n 2, 1) := by decide +kernel
theorem dX8_setTreaty_8 : decode cX8_setTreaty 8 = .ok (.invokestatic 45, 3) := by decide +kernel
theorem dX8_setTreaty_11 : decode cX8_setTreaty 11 = .ok (.ifCond .eq 38, 3) := by decide +kernel
theorem dX8_setTreaty_14 : decode cX8_setTreaty 14 = .ok (.aload_n 0, 1) := by decide +kernel
theorem dX8_setTreaty_15 : decode cX8_setTreaty 15 = .ok (.getfield 18, 3) := by decide +kernel
theorem dX8_setTreaty_18 : decode cX8_setTreaty 18 = .ok (.iload_n 1, 1) := by decide +kernel
theorem dX8_setTreaty_19 : decode cX8_setTreaty 19 = .ok (.iload_n 3, 1) := by decide +kernel
theorem dX8_setTreaty_20 : decode cX8_setTreaty 20 = .ok (.ifCond .eq 16, 3) := by decide +kernel
theorem dX8_setTreaty_23 : decode cX8_setTreaty 23 = .ok (.aload_n 0, 1) := by decide +kernel
theorem dX8_setTreaty_24 : decode cX8_setTreaty 24 = .ok (.getfield 18, 3) := by decide +kernel
theorem dX8_setTreaty_27 : decode cX8_setTreaty 27 = .ok (.iload_n 1, 1) := by decide +kernel
theorem dX8_setTreaty_28 : decode cX8_setTreaty 28 = .ok (.iaload, 1) := by decide +kernel
theorem dX8_setTreaty_29 : decode cX8_setTreaty 29 = .ok (.iconst 1, 1) := by decide +kernel
theorem dX8_setTreaty_30 : decode cX8_setTreaty 30 = .ok (.iload_n 2, 1) := by decide +kernel
theorem dX8_setTreaty_31 : decode cX8_setTreaty 31 = .ok (.ishl, 1) := by decide +kernel
theorem dX8_setTreaty_32 : decode cX8_setTreaty 32 = .ok (.ior, 1) := by decide +kernel
theorem dX8_setTreaty_33 : decode cX8_setTreaty 33 = .ok (.goto 15, 3) := by decide +kernel
theorem dX8_setTreaty_36 : decode cX8_setTreaty 36 = .ok (.aload_n 0, 1) := by decide +kernel
theorem dX8_setTreaty_37 : decode cX8_setTreaty 37 = .ok (.getfield 18, 3) := by decide +kernel
theorem dX8_setTreaty_40 : decode cX8_setTreaty 40 = .ok (.iload_n 1, 1) := by decide +kernel
theorem dX8_setTreaty_41 : decode cX8_setTreaty 41 = .ok (.iaload, 1) := by decide +kernel
theorem dX8_setTreaty_42 : decode cX8_setTreaty 42 = .ok (.iconst 1, 1) := by decide +kernel
theorem dX8_setTreaty_43 : decode cX8_setTreaty 43 = .ok (.iload_n 2, 1) := by decide +kernel
theorem dX8_setTreaty_44 : decode cX8_setTreaty 44 = .ok (.ishl, 1) := by decide +kernel
theorem dX8_setTreaty_45 : decode cX8_setTreaty 45 = .ok (.iconst (-1), 1) := by decide +kernel
theorem dX8_setTreaty_46 : decode cX8_setTreaty 46 = .ok (.ixor, 1) := by decide +kernel
theorem dX8_setTreaty_47 : decode cX8_setTreaty 47 = .ok (.iand, 1) := by decide +kernel
theorem dX8_setTreaty_48 : decode cX8_setTreaty 48 = .ok (.iastore, 1) := by decide +kernel
theorem dX8_setTreaty_49 : decode cX8_setTreaty 49 = .ok (.return_, 1) := by decide +kernel
theorem dX8_step_0 : decode cX8_step 0 = .ok (.iload_n 1, 1) := by decide +kernel
theorem dX8_step_1 : decode cX8_step 1 = .ok (.invokestatic 45, 3) := by decide +kernel
theorem dX8_step_4 : decode cX8_step 4 = .ok (.ifCond .eq 40, 3) := by decide +kernel
theorem dX8_step_7 : decode cX8_step 7 = .ok (.aload_n 0, 1) := by decide +kernel
theorem dX8_step_8 : decode cX8_step 8 = .ok (.getfield 15, 3) := by decide +kernel
theorem dX8_step_11 : decode cX8_step 11 = .ok (.iload_n 1, 1) := by decide +kernel
theorem dX8_step_12 : decode cX8_step 12 = .ok (.iaload, 1) := by decide +kernel
theorem dX8_step_13 : decode cX8_step 13 = .ok (.ifCond .le 31, 3) := by decide +kernel
theorem dX8_step_16 : decode cX8_step 16 = .ok (.aload_n 0, 1) := by decide +kernel
theorem dX8_step_17 : decode cX8_step 17 = .ok (.getfield 9, 3) := by decide +kernel
theorem dX8_step_20 : decode cX8_step 20 = .ok (.iload_n 1, 1) := by decide +kernel
theorem dX8_step_21 : decode cX8_step 21 = .ok (.aload_n 0, 1) := by decide +kernel
theorem dX8_step_22 : decode cX8_step 22 = .ok (.getfield 15, 3) := by decide +kernel
theorem dX8_step_25 : decode cX8_step 25 = .ok (.iload_n 1, 1) := by decide +kernel
theorem dX8_step_26 : decode cX8_step 26 = .ok (.iaload, 1) := by decide +kernel
theorem dX8_step_27 : decode cX8_step 27 = .ok (.bipush 10, 2) := by decide +kernel
theorem dX8_step_29 : decode cX8_step 29 = .ok (.irem, 1) := by decide +kernel
theorem dX8_step_30 : decode cX8_step 30 = .ok (.iconst 1, 1) := by decide +kernel
theorem dX8_step_31 : decode cX8_step 31 = .ok (.isub, 1) := by decide +kernel
theorem dX8_step_32 : decode cX8_step 32 = .ok (.iastore, 1) := by decide +kernel
theorem dX8_step_33 : decode cX8_step 33 = .ok (.aload_n 0, 1) := by decide +kernel
theorem dX8_step_34 : decode cX8_step 34 = .ok (.getfield 15, 3) := by decide +kernel
theorem dX8_step_37 : decode cX8_step 37 = .ok (.iload_n 1, 1) := by decide +kernel
theorem dX8_step_38 : decode cX8_step 38 = .ok (.dup2, 1) := by decide +kernel
theorem dX8_step_39 : decode cX8_step 39 = .ok (.iaload, 1) := by decide +kernel
theorem dX8_step_40 : decode cX8_step 40 = .ok (.bipush 10, 2) := by decide +kernel
theorem dX8_step_42 : decode cX8_step 42 = .ok (.idiv, 1) := by decide +kernel
theorem dX8_step_43 : decode cX8_step 43 = .ok (.iastore, 1) := by decide +kernel
theorem dX8_step_44 : decode cX8_step 44 = .ok (.return_, 1) := by decide +kernel
theorem dX8_roomAfter_0 : decode cX8_roomAfter 0 = .ok (.aload_n 0, 1) := by decide +kernel
theorem dX8_roomAfter_1 : decode cX8_roomAfter 1 = .ok (.iload_n 1, 1) := by decide +kernel
theorem dX8_roomAfter_2 : decode cX8_roomAfter 2 = .ok (.invokevirtual 63, 3) := by decide +kernel
theorem dX8_roomAfter_5 : decode cX8_roomAfter 5 = .ok (.istore_n 3, 1) := by decide +kernel
theorem dX8_roomAfter_6 : decode cX8_roomAfter 6 = .ok (.aload_n 0, 1) := by decide +kernel
theorem dX8_roomAfter_7 : decode cX8_roomAfter 7 = .ok (.iload_n 1, 1) := by decide +kernel
theorem dX8_roomAfter_8 : decode cX8_roomAfter 8 = .ok (.invokevirtual 66, 3) := by decide +kernel
theorem dX8_roomAfter_11 : decode cX8_roomAfter 11 = .ok (.istore 4, 2) := by decide +kernel
theorem dX8_roomAfter_13 : decode cX8_roomAfter 13 = .ok (.iconst 0, 1) := by decide +kernel
theorem dX8_roomAfter_14 : decode cX8_roomAfter 14 = .ok (.istore 5, 2) := by decide +kernel
theorem dX8_roomAfter_16 : decode cX8_roomAfter 16 = .ok (.iload 5, 2) := by decide +kernel
theorem dX8_roomAfter_18 : decode cX8_roomAfter 18 = .ok (.iload_n 2, 1) := by decide +kernel
theorem dX8_roomAfter_19 : decode cX8_roomAfter 19 = .ok (.if_icmp .ge 29, 3) := by decide +kernel
theorem dX8_roomAfter_22 : decode cX8_roomAfter 22 = .ok (.iload 4, 2) := by decide +kernel
theorem dX8_roomAfter_24 : decode cX8_roomAfter 24 = .ok (.ifCond .le 24, 3) := by decide +kernel
theorem dX8_roomAfter_27 : decode cX8_roomAfter 27 = .ok (.iload 4, 2) := by decide +kernel
theorem dX8_roomAfter_29 : decode cX8_roomAfter 29 = .ok (.bipush 10, 2) := by decide +kernel
theorem dX8_roomAfter_31 : decode cX8_roomAfter 31 = .ok (.irem, 1) := by decide +kernel
theorem dX8_roomAfter_32 : decode cX8_roomAfter 32 = .ok (.iconst 1, 1) := by decide +kernel
theorem dX8_roomAfter_33 : decode cX8_roomAfter 33 = .ok (.isub, 1) := by decide +kernel
theorem dX8_roomAfter_34 : decode cX8_roomAfter 34 = .ok (.istore_n 3, 1) := by decide +kernel
theorem dX8_roomAfter_35 : decode cX8_roomAfter 35 = .ok (.iload 4, 2) := by decide +kernel
theorem dX8_roomAfter_37 : decode cX8_roomAfter 37 = .ok (.bipush 10, 2) := by decide +kernel
theorem dX8_roomAfter_39 : decode cX8_roomAfter 39 = .ok (.idiv, 1) := by decide +kernel
theorem dX8_roomAfter_40 : decode cX8_roomAfter 40 = .ok (.istore 4, 2) := by decide +kernel
theorem dX8_roomAfter_42 : decode cX8_roomAfter 42 = .ok (.iinc 5 1, 3) := by decide +kernel
theorem dX8_roomAfter_45 : decode cX8_roomAfter 45 = .ok (.goto (-29), 3) := by decide +kernel
theorem dX8_roomAfter_48 : decode cX8_roomAfter 48 = .ok (.iload_n 3, 1) := by decide +kernel
theorem dX8_roomAfter_49 : decode cX8_roomAfter 49 = .ok (.ireturn, 1) := by decide +kernel
theorem dX8_roomsCameTo_0 : decode cX8_roomsCameTo 0 = .ok (.iconst 0, 1) := by decide +kernel
theorem dX8_roomsCameTo_1 : decode cX8_roomsCameTo 1 = .ok (.istore_n 3, 1) := by decide +kernel
theorem dX8_roomsCameTo_2 : decode cX8_roomsCameTo 2 = .ok (.aload_n 0, 1) := by decide +kernel
theorem dX8_roomsCameTo_3 : decode cX8_roomsCameTo 3 = .ok (.iload_n 1, 1) := by decide +kernel
theorem dX8_roomsCameTo_4 : decode cX8_roomsCameTo 4 = .ok (.invokevirtual 66, 3) := by decide +kernel
theorem dX8_roomsCameTo_7 : decode cX8_roomsCameTo 7 = .ok (.istore 4, 2) := by decide +kernel
theorem dX8_roomsCameTo_9 : decode cX8_roomsCameTo 9 = .ok (.iconst 0, 1) := by decide +kernel
theorem dX8_roomsCameTo_10 : decode cX8_roomsCameTo 10 = .ok (.istore 5, 2) := by decide +kernel
theorem dX8_roomsCameTo_12 : decode cX8_roomsCameTo 12 = .ok (.iload 5, 2) := by decide +kernel
theorem dX8_roomsCameTo_14 : decode cX8_roomsCameTo 14 = .ok (.iload_n 2, 1) := by decide +kernel
theorem dX8_roomsCameTo_15 : decode cX8_roomsCameTo 15 = .ok (.if_icmp .ge 33, 3) := by decide +kernel
theorem dX8_roomsCameTo_18 : decode cX8_roomsCameTo 18 = .ok (.iload 4, 2) := by decide +kernel
theorem dX8_roomsCameTo_20 : decode cX8_roomsCameTo 20 = .ok (.ifCond .le 28, 3) := by decide +kernel
theorem dX8_roomsCameTo_23 : decode cX8_roomsCameTo 23 = .ok (.iload_n 3, 1) := by decide +kernel
theorem dX8_roomsCameTo_24 : decode cX8_roomsCameTo 24 = .ok (.iconst 1, 1) := by decide +kernel
theorem dX8_roomsCameTo_25 : decode cX8_roomsCameTo 25 = .ok (.iload 4, 2) := by decide +kernel
theorem dX8_roomsCameTo_27 : decode cX8_roomsCameTo 27 = .ok (.bipush 10, 2) := by decide +kernel
theorem dX8_roomsCameTo_29 : decode cX8_roomsCameTo 29 = .ok (.irem, 1) := by decide +kernel
theorem dX8_roomsCameTo_30 : decode cX8_roomsCameTo 30 = .ok (.iconst 1, 1) := by decide +kernel
theorem dX8_roomsCameTo_31 : decode cX8_roomsCameTo 31 = .ok (.isub, 1) := by decide +kernel
theorem dX8_roomsCameTo_32 : decode cX8_roomsCameTo 32 = .ok (.ishl, 1) := by decide +kernel
theorem dX8_roomsCameTo_33 : decode cX8_roomsCameTo 33 = .ok (.ior, 1) := by decide +kernel
theorem dX8_roomsCameTo_34 : decode cX8_roomsCameTo 34 = .ok (.istore_n 3, 1) := by decide +kernel
theorem dX8_roomsCameTo_35 : decode cX8_roomsCameTo 35 = .ok (.iload 4, 2) := by decide +kernel
theorem dX8_roomsCameTo_37 : decode cX8_roomsCameTo 37 = .ok (.bipush 10, 2) := by decide +kernel
theorem dX8_roomsCameTo_39 : decode cX8_roomsCameTo 39 = .ok (.idiv, 1) := by decide +kernel
theorem dX8_roomsCameTo_40 : decode cX8_roomsCameTo 40 = .ok (.istore 4, 2) := by decide +kernel
theorem dX8_roomsCameTo_42 : decode cX8_roomsCameTo 42 = .ok (.iinc 5 1, 3) := by decide +kernel
theorem dX8_roomsCameTo_45 : decode cX8_roomsCameTo 45 = .ok (.goto (-33), 3) := by decide +kernel
theorem dX8_roomsCameTo_48 : decode cX8_roomsCameTo 48 = .ok (.iload_n 3, 1) := by decide +kernel
theorem dX8_roomsCameTo_49 : decode cX8_roomsCameTo 49 = .ok (.ireturn, 1) := by decide +kernel
theorem dX9_init_0 : decode cX9_init 0 = .ok (.aload_n 0, 1) := by decide +kernel
theorem dX9_init_1 : decode cX9_init 1 = .ok (.invokespecial 1, 3) := by decide +kernel
theorem dX9_init_4 : decode cX9_init 4 = .ok (.new 7, 3) := by decide +kernel
theorem dX9_init_7 : decode cX9_init 7 = .ok (.dup, 1) := by decide +kernel
theorem dX9_init_8 : decode cX9_init 8 = .ok (.invokespecial 9, 3) := by decide +kernel
theorem dX9_init_11 : decode cX9_init 11 = .ok (.astore_n 1, 1) := by decide +kernel
theorem dX9_init_12 : decode cX9_init 12 = .ok (.new 10, 3) := by decide +kernel
theorem dX9_init_15 : decode cX9_init 15 = .ok (.dup, 1) := by decide +kernel
theorem dX9_init_16 : decode cX9_init 16 = .ok (.invokespecial 12, 3) := by decide +kernel
theorem dX9_init_19 : decode cX9_init 19 = .ok (.astore_n 2, 1) := by decide +kernel
theorem dX9_init_20 : decode cX9_init 20 = .ok (.iconst 2, 1) := by decide +kernel
theorem dX9_init_21 : decode cX9_init 21 = .ok (.anewarray 15, 3) := by decide +kernel
theorem dX9_init_24 : decode cX9_init 24 = .ok (.astore_n 3, 1) := by decide +kernel
theorem dX9_init_25 : decode cX9_init 25 = .ok (.iconst 0, 1) := by decide +kernel
theorem dX9_init_26 : decode cX9_init 26 = .ok (.istore 4, 2) := by decide +kernel
theorem dX9_init_28 : decode cX9_init 28 = .ok (.iload 4, 2) := by decide +kernel
theorem dX9_init_30 : decode cX9_init 30 = .ok (.iconst 2, 1) := by decide +kernel
theorem dX9_init_31 : decode cX9_init 31 = .ok (.if_icmp .ge 20, 3) := by decide +kernel
theorem dX9_init_34 : decode cX9_init 34 = .ok (.aload_n 3, 1) := by decide +kernel
theorem dX9_init_35 : decode cX9_init 35 = .ok (.iload 4, 2) := by decide +kernel
theorem dX9_init_37 : decode cX9_init 37 = .ok (.new 15, 3) := by decide +kernel
theorem dX9_init_40 : decode cX9_init 40 = .ok (.dup, 1) := by decide +kernel
theorem dX9_init_41 : decode cX9_init 41 = .ok (.invokespecial 17, 3) := by decide +kernel
theorem dX9_init_44 : decode cX9_init 44 = .ok (.aastore, 1) := by decide +kernel
theorem dX9_init_45 : decode cX9_init 45 = .ok (.iinc 4 1, 3) := by decide +kernel
theorem dX9_init_48 : decode cX9_init 48 = .ok (.goto (-20), 3) := by decide +kernel
theorem dX9_init_51 : decode cX9_init 51 = .ok (.aload_n 0, 1) := by decide +kernel
theorem dX9_init_52 : decode cX9_init 52 = .ok (.new 18, 3) := by decide +kernel
theorem dX9_init_55 : decode cX9_init 55 = .ok (.dup, 1) := by decide +kernel
theorem dX9_init_56 : decode cX9_init 56 = .ok (.invokespecial 20, 3) := by decide +kernel
theorem dX9_init_59 : decode cX9_init 59 = .ok (.putfield 21, 3) := by decide +kernel
theorem dX9_init_62 : decode cX9_init 62 = .ok (.aload_n 0, 1) := by decide +kernel
theorem dX9_init_63 : decode cX9_init 63 = .ok (.aload_n 1, 1) := by decide +kernel
theorem dX9_init_64 : decode cX9_init 64 = .ok (.putfield 25, 3) := by decide +kernel
theorem dX9_init_67 : decode cX9_init 67 = .ok (.aload_n 0, 1) := by decide +kernel
theorem dX9_init_68 : decode cX9_init 68 = .ok (.aload_n 2, 1) := by decide +kernel
theorem dX9_init_69 : decode cX9_init 69 = .ok (.putfield 29, 3) := by decide +kernel
theorem dX9_init_72 : decode cX9_init 72 = .ok (.aload_n 0, 1) := by decide +kernel
theorem dX9_init_73 : decode cX9_init 73 = .ok (.new 33, 3) := by decide +kernel
theorem dX9_init_76 : decode cX9_init 76 = .ok (.dup, 1) := by decide +kernel
theorem dX9_init_77 : decode cX9_init 77 = .ok (.invokespecial 35, 3) := by decide +kernel
theorem dX9_init_80 : decode cX9_init 80 = .ok (.putfield 36, 3) := by decide +kernel
theorem dX9_init_83 : decode cX9_init 83 = .ok (.aload_n 0, 1) := by decide +kernel
theorem dX9_init_84 : decode cX9_init 84 = .ok (.new 40, 3) := by decide +kernel
theorem dX9_init_87 : decode cX9_init 87 = .ok (.dup, 1) := by decide +kernel
theorem dX9_init_88 : decode cX9_init 88 = .ok (.aload_n 1, 1) := by decide +kernel
theorem dX9_init_89 : decode cX9_init 89 = .ok (.aload_n 2, 1) := by decide +kernel
theorem dX9_init_90 : decode cX9_init 90 = .ok (.invokespecial 42, 3) := by decide +kernel
theorem dX9_init_93 : decode cX9_init 93 = .ok (.putfield 45, 3) := by decide +kernel
theorem dX9_init_96 : decode cX9_init 96 = .ok (.aload_n 0, 1) := by decide +kernel
theorem dX9_init_97 : decode cX9_init 97 = .ok (.new 49, 3) := by decide +kernel
theorem dX9_init_100 : decode cX9_init 100 = .ok (.dup, 1) := by decide +kernel
theorem dX9_init_101 : decode cX9_init 101 = .ok (.aload_n 1, 1) := by decide +kernel
theorem dX9_init_102 : decode cX9_init 102 = .ok (.aload_n 2, 1) := by decide +kernel
theorem dX9_init_103 : decode cX9_init 103 = .ok (.invokespecial 51, 3) := by decide +kernel
theorem dX9_init_106 : decode cX9_init 106 = .ok (.putfield 52, 3) := by decide +kernel
theorem dX9_init_109 : decode cX9_init 109 = .ok (.aload_n 0, 1) := by decide +kernel
theorem dX9_init_110 : decode cX9_init 110 = .ok (.new 56, 3) := by decide +kernel
theorem dX9_init_113 : decode cX9_init 113 = .ok (.dup, 1) := by decide +kernel
theorem dX9_init_114 : decode cX9_init 114 = .ok (.aload_n 1, 1) := by decide +kernel
theorem dX9_init_115 : decode cX9_init 115 = .ok (.aload_n 2, 1) := by decide +kernel
theorem dX9_init_116 : decode cX9_init 116 = .ok (.invokespecial 58, 3) := by decide +kernel
theorem dX9_init_119 : decode cX9_init 119 = .ok (.putfield 59, 3) := by decide +kernel
theorem dX9_init_122 : decode cX9_init 122 = .ok (.aload_n 0, 1) := by decide +kernel
theorem dX9_init_123 : decode cX9_init 123 = .ok (.new 63, 3) := by decide +kernel
theorem dX9_init_126 : decode cX9_init 126 = .ok (.dup, 1) := by decide +kernel
theorem dX9_init_127 : decode cX9_init 127 = .ok (.aload_n 1, 1) := by decide +kernel
theorem dX9_init_128 : decode cX9_init 128 = .ok (.aload_n 2, 1) := by decide +kernel
theorem dX9_init_129 : decode cX9_init 129 = .ok (.invokespecial 65, 3) := by decide +kernel
theorem dX9_init_132 : decode cX9_init 132 = .ok (.putfield 66, 3) := by decide +kernel
theorem dX9_init_135 : decode cX9_init 135 = .ok (.aload_n 0, 1) := by decide +kernel
theorem dX9_init_136 : decode cX9_init 136 = .ok (.aload_n 3, 1) := by decide +kernel
theorem dX9_init_137 : decode cX9_init 137 = .ok (.putfield 70, 3) := by decide +kernel
theorem dX9_init_140 : decode cX9_init 140 = .ok (.return_, 1) := by decide +kernel
theorem dX9_feed_0 : decode cX9_feed 0 = .ok (.iload_n 1, 1) := by decide +kernel
theorem dX9_feed_1 : decode cX9_feed 1 = .ok (.ifCond .lt 10, 3) := by decide +kernel
theorem dX9_feed_4 : decode cX9_feed 4 = .ok (.iload_n 1, 1) := by decide +kernel
theorem dX9_feed_5 : decode cX9_feed 5 = .ok (.sipush 255, 3) := by decide +kernel
theorem dX9_feed_8 : decode cX9_feed 8 = .ok (.if_icmp .le 6, 3) := by decide +kernel
theorem dX9_feed_11 : decode cX9_feed 11 = .ok (.ldc 74, 2) := by decide +kernel
theorem dX9_feed_13 : decode cX9_feed 13 = .ok (.ireturn, 1) := by decide +kernel
theorem dX9_feed_14 : decode cX9_feed 14 = .ok (.aload_n 0, 1) := by decide +kernel
theorem dX9_feed_15 : decode cX9_feed 15 = .ok (.getfield 21, 3) := by decide +kernel
theorem dX9_feed_18 : decode cX9_feed 18 = .ok (.iload_n 1, 1) := by decide +kernel
theorem dX9_feed_19 : decode cX9_feed 19 = .ok (.invokevirtual 75, 3) := by decide +kernel
theorem dX9_feed_22 : decode cX9_feed 22 = .ok (.ifCond .eq 13, 3) := by decide +kernel
theorem dX9_feed_25 : decode cX9_feed 25 = .ok (.aload_n 0, 1) := by decide +kernel
theorem dX9_feed_26 : decode cX9_feed 26 = .ok (.getfield 21, 3) := by decide +kernel
theorem dX9_feed_29 : decode cX9_feed 29 = .ok (.getfield 79, 3) := by decide +kernel
theorem dX9_feed_32 : decode cX9_feed 32 = .ok (.goto 5, 3) := by decide +kernel
theorem dX9_feed_35 : decode cX9_feed 35 = .ok (.ldc 83, 2) := by decide +kernel
theorem dX9_feed_37 : decode cX9_feed 37 = .ok (.ireturn, 1) := by decide +kernel
theorem dX9_hotel_0 : decode cX9_hotel 0 = .ok (.aload_n 0, 1) := by decide +kernel
theorem dX9_hotel_1 : decode cX9_hotel 1 = .ok (.getfield 21, 3) := by decide +kernel
theorem dX9_hotel_4 : decode cX9_hotel 4 = .ok (.invokevirtual 84, 3) := by decide +kernel
theorem dX9_hotel_7 : decode cX9_hotel 7 = .ok (.istore_n 1, 1) := by decide +kernel
theorem dX9_hotel_8 : decode cX9_hotel 8 = .ok (.iload_n 1, 1) := by decide +kernel
theorem dX9_hotel_9 : decode cX9_hotel 9 = .ok (.ifCond .eq 8, 3) := by decide +kernel
theorem dX9_hotel_12 : decode cX9_hotel 12 = .ok (.bipush (-10), 2) := by decide +kernel
theorem dX9_hotel_14 : decode cX9_hotel 14 = .ok (.iload_n 1, 1) := by decide +kernel
theorem dX9_hotel_15 : decode cX9_hotel 15 = .ok (.isub, 1) := by decide +kernel
theorem dX9_hotel_16 : decode cX9_hotel 16 = .ok (.ireturn, 1) := by decide +kernel
theorem dX9_hotel_17 : decode cX9_hotel 17 = .ok (.aload_n 0, 1) := by decide +kernel
theorem dX9_hotel_18 : decode cX9_hotel 18 = .ok (.getfield 25, 3) := by decide +kernel
theorem dX9_hotel_21 : decode cX9_hotel 21 = .ok (.aload_n 0, 1) := by decide +kernel
theorem dX9_hotel_22 : decode cX9_hotel 22 = .ok (.getfield 21, 3) := by decide +kernel
theorem dX9_hotel_25 : decode cX9_hotel 25 = .ok (.getfield 88, 3) := by decide +kernel
theorem dX9_hotel_28 : decode cX9_hotel 28 = .ok (.invokevirtual 91, 3) := by decide +kernel
theorem dX9_hotel_31 : decode cX9_hotel 31 = .ok (.aload_n 0, 1) := by decide +kernel
theorem dX9_hotel_32 : decode cX9_hotel 32 = .ok (.getfield 29, 3) := by decide +kernel
theorem dX9_hotel_35 : decode cX9_hotel 35 = .ok (.aload_n 0, 1) := by decide +kernel
theorem dX9_hotel_36 : decode cX9_hotel 36 = .ok (.getfield 25, 3) := by decide +kernel
theorem dX9_hotel_39 : decode cX9_hotel 39 = .ok (.invokevirtual 95, 3) := by decide +kernel
theorem dX9_hotel_42 : decode cX9_hotel 42 = .ok (.aload_n 0, 1) := by decide +kernel
theorem dX9_hotel_43 : decode cX9_hotel 43 = .ok (.getfield 36, 3) := by decide +kernel
theorem dX9_hotel_46 : decode cX9_hotel 46 = .ok (.invokevirtual 98, 3) := by decide +kernel
theorem dX9_hotel_49 : decode cX9_hotel 49 = .ok (.aload_n 0, 1) := by decide +kernel
theorem dX9_hotel_50 : decode cX9_hotel 50 = .ok (.getfield 66, 3) := by decide +kernel
theorem dX9_hotel_53 : decode cX9_hotel 53 = .ok (.invokevirtual 101, 3) := by decide +kernel
theorem dX9_hotel_56 : decode cX9_hotel 56 = .ok (.iconst 0, 1) := by decide +kernel
theorem dX9_hotel_57 : decode cX9_hotel 57 = .ok (.istore_n 2, 1) := by decide +kernel
theorem dX9_hotel_58 : decode cX9_hotel 58 = .ok (.iload_n 2, 1) := by decide +kernel
theorem dX9_hotel_59 : decode cX9_hotel 59 = .ok (.aload_n 0, 1) := by decide +kernel
theorem dX9_hotel_60 : decode cX9_hotel 60 = .ok (.getfield 70, 3) := by decide +kernel
theorem dX9_hotel_63 : decode cX9_hotel 63 = .ok (.arraylength, 1) := by decide +kernel
theorem dX9_hotel_64 : decode cX9_hotel 64 = .ok (.if_icmp .ge 19, 3) := by decide +kernel
theorem dX9_hotel_67 : decode cX9_hotel 67 = .ok (.aload_n 0, 1) := by decide +kernel
theorem dX9_hotel_68 : decode cX9_hotel 68 = .ok (.getfield 70, 3) := by decide +kernel
theorem dX9_hotel_71 : decode cX9_hotel 71 = .ok (.iload_n 2, 1) := by decide +kernel
theorem dX9_hotel_72 : decode cX9_hotel 72 = .ok (.aaload, 1) := by decide +kernel
theorem dX9_hotel_73 : decode cX9_hotel 73 = .ok (.iconst 0, 1) := by decide +kernel
theorem dX9_hotel_74 : decode cX9_hotel 74 = .ok (.putfield 104, 3) := by decide +kernel
theorem dX9_hotel_77 : decode cX9_hotel 77 = .ok (.iinc 2 1, 3) := by decide +kernel
theorem dX9_hotel_80 : decode cX9_hotel 80 = .ok (.goto (-22), 3) := by decide +kernel
theorem dX9_hotel_83 : decode cX9_hotel 83 = .ok (.aload_n 0, 1) := by decide +kernel
theorem dX9_hotel_84 : decode cX9_hotel 84 = .ok (.getfield 25, 3) := by decide +kernel
theorem dX9_hotel_87 : decode cX9_hotel 87 = .ok (.getfield 108, 3) := by decide +kernel
theorem dX9_hotel_90 : decode cX9_hotel 90 = .ok (.ireturn, 1) := by decide +kernel
theorem dX9_fault_0 : decode cX9_fault 0 = .ok (.aload_n 0, 1) := by decide +kernel
theorem dX9_fault_1 : decode cX9_fault 1 = .ok (.getfield 21, 3) := by decide +kernel
theorem dX9_fault_4 : decode cX9_fault 4 = .ok (.getfield 111, 3) := by decide +kernel
theorem dX9_fault_7 : decode cX9_fault 7 = .ok (.ireturn, 1) := by decide +kernel
theorem dX9_told_0 : decode cX9_told 0 = .ok (.iload_n 1, 1) := by decide +kernel
theorem dX9_told_1 : decode cX9_told 1 = .ok (.tableswitch 195 0 13 #[71, 79, 87, 95, 103, 111, 119, 127, 135, 145, 154, 171, 179, 187], 71) := by decide +kernel
theorem dX9_told_72 : decode cX9_told 72 = .ok (.aload_n 0, 1) := by decide +kernel
theorem dX9_told_73 : decode cX9_told 73 = .ok (.getfield 25, 3) := by decide +kernel
theorem dX9_told_76 : decode cX9_told 76 = .ok (.getfield 114, 3) := by decide +kernel
theorem dX9_told_79 : decode cX9_told 79 = .ok (.ireturn, 1) := by decide +kernel
theorem dX9_told_80 : decode cX9_told 80 = .ok (.aload_n 0, 1) := by decide +kernel
theorem dX9_told_81 : decode cX9_told 81 = .ok (.getfield 25, 3) := by decide +kernel
theorem dX9_told_84 : decode cX9_told 84 = .ok (.getfield 117, 3) := by decide +kernel
theorem dX9_told_87 : decode cX9_told 87 = .ok (.ireturn, 1) := by decide +kernel
theorem dX9_told_88 : decode cX9_told 88 = .ok (.aload_n 0, 1) := by decide +kernel
theorem dX9_told_89 : decode cX9_told 89 = .ok (.getfield 25, 3) := by decide +kernel
theorem dX9_told_92 : decode cX9_told 92 = .ok (.getfield 108, 3) := by decide +kernel
theorem dX9_told_95 : decode cX9_told 95 = .ok (.ireturn, 1) := by decide +kernel
theorem dX9_told_96 : decode cX9_told 96 = .ok (.aload_n 0, 1) := by decide +kernel
theorem dX9_told_97 : decode cX9_told 97 = .ok (.getfield 25, 3) := by decide +kernel
theorem dX9_told_100 : decode cX9_told 100 = .ok (.getfield 120, 3) := by decide +kernel
theorem dX9_told_103 : decode cX9_told 103 = .ok (.ireturn, 1) := by decide +kernel
theorem dX9_told_104 : decode cX9_told 104 = .ok (.aload_n 0, 1) := by decide +kernel
theorem dX9_told_105 : decode cX9_told 105 = .ok (.getfield 25, 3) := by decide +kernel
theorem dX9_told_108 : decode cX9_told 108 = .ok (.getfield 123, 3) := by decide +kernel
theorem dX9_told_111 : decode cX9_told 111 = .ok (.ireturn, 1) := by decide +kernel
theorem dX9_told_112 : decode cX9_told 112 = .ok (.aload_n 0, 1) := by decide +kernel
theorem dX9_told_113 : decode cX9_told 113 = .ok (.getfield 21, 3) := by decide +kernel
theorem dX9_told_116 : decode cX9_told 116 = .ok (.getfield 79, 3) := by decide +kernel
theorem dX9_told_119 : decode cX9_told 119 = .ok (.ireturn, 1) := by decide +kernel
theorem dX9_told_120 : decode cX9_told 120 = .ok (.aload_n 0, 1) := by decide +kernel
theorem dX9_told_121 : decode cX9_told 121 = .ok (.getfield 29, 3) := by decide +kernel
theorem dX9_told_124 : decode cX9_told 124 = .ok (.getfield 126, 3) := by decide +kernel
theorem dX9_told_127 : decode cX9_told 127 = .ok (.ireturn, 1) := by decide +kernel
theorem dX9_told_128 : decode cX9_told 128 = .ok (.aload_n 0, 1) := by decide +kernel
theorem dX9_told_129 : decode cX9_told 129 = .ok (.getfield 29, 3) := by decide +kernel
theorem dX9_told_132 : decode cX9_told 132 = .ok (.getfield 129, 3) := by decide +kernel
theorem dX9_told_135 : decode cX9_told 135 = .ok (.ireturn, 1) := by decide +kernel
theorem dX9_told_136 : decode cX9_told 136 = .ok (.aload_n 0, 1) := by decide +kernel
theorem dX9_told_137 : decode cX9_told 137 = .ok (.getfield 29, 3) := by decide +kernel
theorem dX9_told_140 : decode cX9_told 140 = .ok (.bipush (-2), 2) := by decide +kernel
theorem dX9_told_142 : decode cX9_told 142 = .ok (.invokevirtual 132, 3) := by decide +kernel
theorem dX9_told_145 : decode cX9_told 145 = .ok (.ireturn, 1) := by decide +kernel
theorem dX9_told_146 : decode cX9_told 146 = .ok (.aload_n 0, 1) := by decide +kernel
theorem dX9_told_147 : decode cX9_told 147 = .ok (.getfield 29, 3) := by decide +kernel
theorem dX9_told_150 : decode cX9_told 150 = .ok (.iconst (-1), 1) := by decide +kernel
theorem dX9_told_151 : decode cX9_told 151 = .ok (.invokevirtual 132, 3) := by decide +kernel
theorem dX9_told_154 : decode cX9_told 154 = .ok (.ireturn, 1) := by decide +kernel
theorem dX9_told_155 : decode cX9_told 155 = .ok (.aload_n 0, 1) := by decide +kernel
theorem dX9_told_156 : decode cX9_told 156 = .ok (.getfield 25, 3) := by decide +kernel
theorem dX9_told_159 : decode cX9_told 159 = .ok (.aload_n 0, 1) := by decide +kernel
theorem dX9_told_160 : decode cX9_told 160 = .ok (.getfield 29, 3) := by decide +kernel
theorem dX9_told_163 : decode cX9_told 163 = .ok (.bipush (-2), 2) := by decide +kernel
theorem dX9_told_165 : decode cX9_told 165 = .ok (.invokevirtual 132, 3) := by decide +kernel
theorem dX9_told_168 : decode cX9_told 168 = .ok (.invokevirtual 136, 3) := by decide +kernel
theorem dX9_told_171 : decode cX9_told 171 = .ok (.ireturn, 1) := by decide +kernel
theorem dX9_told_172 : decode cX9_told 172 = .ok (.aload_n 0, 1) := by decide +kernel
theorem dX9_told_173 : decode cX9_told 173 = .ok (.getfield 66, 3) := by decide +kernel
theorem dX9_told_176 : decode cX9_told 176 = .ok (.getfield 139, 3) := by decide +kernel
theorem dX9_told_179 : decode cX9_told 179 = .ok (.ireturn, 1) := by decide +kernel
theorem dX9_told_180 : decode cX9_told 180 = .ok (.aload_n 0, 1) := by decide +kernel
theorem dX9_told_181 : decode cX9_told 181 = .ok (.getfield 66, 3) := by decide +kernel
theorem dX9_told_184 : decode cX9_told 184 = .ok (.getfield 142, 3) := by decide +kernel
theorem dX9_told_187 : decode cX9_told 187 = .ok (.ireturn, 1) := by decide +kernel
theorem dX9_told_188 : decode cX9_told 188 = .ok (.aload_n 0, 1) := by decide +kernel
theorem dX9_told_189 : decode cX9_told 189 = .ok (.getfield 36, 3) := by decide +kernel
theorem dX9_told_192 : decode cX9_told 192 = .ok (.getfield 145, 3) := by decide +kernel
theorem dX9_told_195 : decode cX9_told 195 = .ok (.ireturn, 1) := by decide +kernel
theorem dX9_told_196 : decode cX9_told 196 = .ok (.ldc 74, 2) := by decide +kernel
theorem dX9_told_198 : decode cX9_told 198 = .ok (.ireturn, 1) := by decide +kernel
theorem dX9_room_0 : decode cX9_room 0 = .ok (.aload_n 0, 1) := by decide +kernel
theorem dX9_room_1 : decode cX9_room 1 = .ok (.getfield 25, 3) := by decide +kernel
theorem dX9_room_4 : decode cX9_room 4 = .ok (.iload_n 1, 1) := by decide +kernel
theorem dX9_room_5 : decode cX9_room 5 = .ok (.invokevirtual 147, 3) := by decide +kernel
theorem dX9_room_8 : decode cX9_room 8 = .ok (.ifCond .eq 14, 3) := by decide +kernel
theorem dX9_room_11 : decode cX9_room 11 = .ok (.aload_n 0, 1) := by decide +kernel
theorem dX9_room_12 : decode cX9_room 12 = .ok (.getfield 25, 3) := by decide +kernel
theorem dX9_room_15 : decode cX9_room 15 = .ok (.iload_n 1, 1) := by decide +kernel
theorem dX9_room_16 : decode cX9_room 16 = .ok (.invokevirtual 150, 3) := by decide +kernel
theorem dX9_room_19 : decode cX9_room 19 = .ok (.goto 5, 3) := by decide +kernel
theorem dX9_room_22 : decode cX9_room 22 = .ok (.ldc 153, 2) := by decide +kernel
theorem dX9_room_24 : decode cX9_room 24 = .ok (.ireturn, 1) := by decide +kernel
theorem dX9_waiter_0 : decode cX9_waiter 0 = .ok (.aload_n 0, 1) := by decide +kernel
theorem dX9_waiter_1 : decode cX9_waiter 1 = .ok (.getfield 25, 3) := by decide +kernel
theorem dX9_waiter_4 : decode cX9_waiter 4 = .ok (.iload_n 1, 1) := by decide +kernel
theorem dX9_waiter_5 : decode cX9_waiter 5 = .ok (.invokevirtual 154, 3) := by decide +kernel
theorem dX9_waiter_8 : decode cX9_waiter 8 = .ok (.ifCond .ne 6, 3) := by decide +kernel
theorem dX9_waiter_11 : decode cX9_waiter 11 = .ok (.ldc 153, 2) := by decide +kernel
theorem dX9_waiter_13 : decode cX9_waiter 13 = .ok (.ireturn, 1) := by decide +kernel
theorem dX9_waiter_14 : decode cX9_waiter 14 = .ok (.iload_n 2, 1) := by decide +kernel
theorem dX9_waiter_15 : decode cX9_waiter 15 = .ok (.tableswitch 136 0 7 #[45, 54, 64, 77, 90, 106, 115, 127], 45) := by decide +kernel
theorem dX9_waiter_60 : decode cX9_waiter 60 = .ok (.aload_n 0, 1) := by decide +kernel
theorem dX9_waiter_61 : decode cX9_waiter 61 = .ok (.getfield 29, 3) := by decide +kernel
theorem dX9_waiter_64 : decode cX9_waiter 64 = .ok (.iload_n 1, 1) := by decide +kernel
theorem dX9_waiter_65 : decode cX9_waiter 65 = .ok (.invokevirtual 157, 3) := by decide +kernel
theorem dX9_waiter_68 : decode cX9_waiter 68 = .ok (.ireturn, 1) := by decide +kernel
theorem dX9_waiter_69 : decode cX9_waiter 69 = .ok (.aload_n 0, 1) := by decide +kernel
theorem dX9_waiter_70 : decode cX9_waiter 70 = .ok (.getfield 25, 3) := by decide +kernel
theorem dX9_waiter_73 : decode cX9_waiter 73 = .ok (.getfield 160, 3) := by decide +kernel
theorem dX9_waiter_76 : decode cX9_waiter 76 = .ok (.iload_n 1, 1) := by decide +kernel
theorem dX9_waiter_77 : decode cX9_waiter 77 = .ok (.iaload, 1) := by decide +kernel
theorem dX9_waiter_78 : decode cX9_waiter 78 = .ok (.ireturn, 1) := by decide +kernel
theorem dX9_waiter_79 : decode cX9_waiter 79 = .ok (.aload_n 0, 1) := by decide +kernel
theorem dX9_waiter_80 : decode cX9_waiter 80 = .ok (.getfield 29, 3) := by decide +kernel
theorem dX9_waiter_83 : decode cX9_waiter 83 = .ok (.iload_n 1, 1) := by decide +kernel
theorem dX9_waiter_84 : decode cX9_waiter 84 = .ok (.iconst 0, 1) := by decide +kernel
theorem dX9_waiter_85 : decode cX9_waiter 85 = .ok (.invokestatic 164, 3) := by decide +kernel
theorem dX9_waiter_88 : decode cX9_waiter 88 = .ok (.invokevirtual 132, 3) := by decide +kernel
theorem dX9_waiter_91 : decode cX9_waiter 91 = .ok (.ireturn, 1) := by decide +kernel
theorem dX9_waiter_92 : decode cX9_waiter 92 = .ok (.aload_n 0, 1) := by decide +kernel
theorem dX9_waiter_93 : decode cX9_waiter 93 = .ok (.getfield 29, 3) := by decide +kernel
theorem dX9_waiter_96 : decode cX9_waiter 96 = .ok (.iload_n 1, 1) := by decide +kernel
theorem dX9_waiter_97 : decode cX9_waiter 97 = .ok (.iconst 1, 1) := by decide +kernel
theorem dX9_waiter_98 : decode cX9_waiter 98 = .ok (.invokestatic 164, 3) := by decide +kernel
theorem dX9_waiter_101 : decode cX9_waiter 101 = .ok (.invokevirtual 132, 3) := by decide +kernel
theorem dX9_waiter_104 : decode cX9_waiter 104 = .ok (.ireturn, 1) := by decide +kernel
theorem dX9_waiter_105 : decode cX9_waiter 105 = .ok (.aload_n 0, 1) := by decide +kernel
theorem dX9_waiter_106 : decode cX9_waiter 106 = .ok (.getfield 25, 3) := by decide +kernel
theorem dX9_waiter_109 : decode cX9_waiter 109 = .ok (.aload_n 0, 1) := by decide +kernel
theorem dX9_waiter_110 : decode cX9_waiter 110 = .ok (.getfield 29, 3) := by decide +kernel
theorem dX9_waiter_113 : decode cX9_waiter 113 = .ok (.iload_n 1, 1) := by decide +kernel
theorem dX9_waiter_114 : decode cX9_waiter 114 = .ok (.invokevirtual 168, 3) := by decide +kernel
theorem dX9_waiter_117 : decode cX9_waiter 117 = .ok (.invokevirtual 171, 3) := by decide +kernel
theorem dX9_waiter_120 : decode cX9_waiter 120 = .ok (.ireturn, 1) := by decide +kernel
theorem dX9_waiter_121 : decode cX9_waiter 121 = .ok (.aload_n 0, 1) := by decide +kernel
theorem dX9_waiter_122 : decode cX9_waiter 122 = .ok (.getfield 45, 3) := by decide +kernel
theorem dX9_waiter_125 : decode cX9_waiter 125 = .ok (.iload_n 1, 1) := by decide +kernel
theorem dX9_waiter_126 : decode cX9_waiter 126 = .ok (.invokevirtual 174, 3) := by decide +kernel
theorem dX9_waiter_129 : decode cX9_waiter 129 = .ok (.ireturn, 1) := by decide +kernel
theorem dX9_waiter_130 : decode cX9_waiter 130 = .ok (.aload_n 0, 1) := by decide +kernel
theorem dX9_waiter_131 : decode cX9_waiter 131 = .ok (.getfield 29, 3) := by decide +kernel
theorem dX9_waiter_134 : decode cX9_waiter 134 = .ok (.iload_n 1, 1) := by decide +kernel
theorem dX9_waiter_135 : decode cX9_waiter 135 = .ok (.invokevirtual 177, 3) := by decide +kernel
theorem dX9_waiter_138 : decode cX9_waiter 138 = .ok (.invokestatic 180, 3) := by decide +kernel
theorem dX9_waiter_141 : decode cX9_waiter 141 = .ok (.ireturn, 1) := by decide +kernel
theorem dX9_waiter_142 : decode cX9_waiter 142 = .ok (.aload_n 0, 1) := by decide +kernel
theorem dX9_waiter_143 : decode cX9_waiter 143 = .ok (.getfield 29, 3) := by decide +kernel
theorem dX9_waiter_146 : decode cX9_waiter 146 = .ok (.iload_n 1, 1) := by decide +kernel
theorem dX9_waiter_147 : decode cX9_waiter 147 = .ok (.invokevirtual 183, 3) := by decide +kernel
theorem dX9_waiter_150 : decode cX9_waiter 150 = .ok (.ireturn, 1) := by decide +kernel
theorem dX9_waiter_151 : decode cX9_waiter 151 = .ok (.ldc 74, 2) := by decide +kernel
theorem dX9_waiter_153 : decode cX9_waiter 153 = .ok (.ireturn, 1) := by decide +kernel
theorem dX9_thing_0 : decode cX9_thing 0 = .ok (.aload_n 0, 1) := by decide +kernel
theorem dX9_thing_1 : decode cX9_thing 1 = .ok (.getfield 25, 3) := by decide +kernel
theorem dX9_thing_4 : decode cX9_thing 4 = .ok (.iload_n 1, 1) := by decide +kernel
theorem dX9_thing_5 : decode cX9_thing 5 = .ok (.invokevirtual 186, 3) := by decide +kernel
theorem dX9_thing_8 : decode cX9_thing 8 = .ok (.ifCond .ne 6, 3) := by decide +kernel
theorem dX9_thing_11 : decode cX9_thing 11 = .ok (.ldc 153, 2) := by decide +kernel
theorem dX9_thing_13 : decode cX9_thing 13 = .ok (.ireturn, 1) := by decide +kernel
theorem dX9_thing_14 : decode cX9_thing 14 = .ok (.iload_n 2, 1) := by decide +kernel
theorem dX9_thing_15 : decode cX9_thing 15 = .ok (.tableswitch 54 0 2 #[25, 35, 45], 25) := by decide +kernel
theorem dX9_thing_40 : decode cX9_thing 40 = .ok (.aload_n 0, 1) := by decide +kernel
theorem dX9_thing_41 : decode cX9_thing 41 = .ok (.getfield 25, 3) := by decide +kernel
theorem dX9_thing_44 : decode cX9_thing 44 = .ok (.getfield 189, 3) := by decide +kernel
theorem dX9_thing_47 : decode cX9_thing 47 = .ok (.iload_n 1, 1) := by decide +kernel
theorem dX9_thing_48 : decode cX9_thing 48 = .ok (.iaload, 1) := by decide +kernel
theorem dX9_thing_49 : decode cX9_thing 49 = .ok (.ireturn, 1) := by decide +kernel
theorem dX9_thing_50 : decode cX9_thing 50 = .ok (.aload_n 0, 1) := by decide +kernel
theorem dX9_thing_51 : decode cX9_thing 51 = .ok (.getfield 25, 3) := by decide +kernel
theorem dX9_thing_54 : decode cX9_thing 54 = .ok (.getfield 192, 3) := by decide +kernel
theorem dX9_thing_57 : decode cX9_thing 57 = .ok (.iload_n 1, 1) := by decide +kernel
theorem dX9_thing_58 : decode cX9_thing 58 = .ok (.iaload, 1) := by decide +kernel
theorem dX9_thing_59 : decode cX9_thing 59 = .ok (.ireturn, 1) := by decide +kernel
theorem dX9_thing_60 : decode cX9_thing 60 = .ok (.aload_n 0, 1) := by decide +kernel
theorem dX9_thing_61 : decode cX9_thing 61 = .ok (.getfield 29, 3) := by decide +kernel
theorem dX9_thing_64 : decode cX9_thing 64 = .ok (.iload_n 1, 1) := by decide +kernel
theorem dX9_thing_65 : decode cX9_thing 65 = .ok (.invokevirtual 195, 3) := by decide +kernel
theorem dX9_thing_68 : decode cX9_thing 68 = .ok (.ireturn, 1) := by decide +kernel
theorem dX9_thing_69 : decode cX9_thing 69 = .ok (.ldc 74, 2) := by decide +kernel
theorem dX9_thing_71 : decode cX9_thing 71 = .ok (.ireturn, 1) := by decide +kernel
theorem dX9_minute_0 : decode cX9_minute 0 = .ok (.aload_n 0, 1) := by decide +kernel
theorem dX9_minute_1 : decode cX9_minute 1 = .ok (.iload_n 1, 1) := by decide +kernel
theorem dX9_minute_2 : decode cX9_minute 2 = .ok (.invokevirtual 198, 3) := by decide +kernel
theorem dX9_minute_5 : decode cX9_minute 5 = .ok (.istore_n 2, 1) := by decide +kernel
theorem dX9_minute_6 : decode cX9_minute 6 = .ok (.iload_n 2, 1) := by decide +kernel
theorem dX9_minute_7 : decode cX9_minute 7 = .ok (.ifCond .eq 5, 3) := by decide +kernel
theorem dX9_minute_10 : decode cX9_minute 10 = .ok (.iload_n 2, 1) := by decide +kernel
theorem dX9_minute_11 : decode cX9_minute 11 = .ok (.ireturn, 1) := by decide +kernel
theorem dX9_minute_12 : decode cX9_minute 12 = .ok (.aload_n 0, 1) := by decide +kernel
theorem dX9_minute_13 : decode cX9_minute 13 = .ok (.getfield 36, 3) := by decide +kernel
theorem dX9_minute_16 : decode cX9_minute 16 = .ok (.aload_n 0, 1) := by decide +kernel
theorem dX9_minute_17 : decode cX9_minute 17 = .ok (.getfield 29, 3) := by decide +kernel
theorem dX9_minute_20 : decode cX9_minute 20 = .ok (.invokevirtual 201, 3) := by decide +kernel
theorem dX9_minute_23 : decode cX9_minute 23 = .ok (.iconst 0, 1) := by decide +kernel
theorem dX9_minute_24 : decode cX9_minute 24 = .ok (.istore_n 3, 1) := by decide +kernel
theorem dX9_minute_25 : decode cX9_minute 25 = .ok (.iload_n 3, 1) := by decide +kernel
theorem dX9_minute_26 : decode cX9_minute 26 = .ok (.iload_n 1, 1) := by decide +kernel
theorem dX9_minute_27 : decode cX9_minute 27 = .ok (.if_icmp .ge 16, 3) := by decide +kernel
theorem dX9_minute_30 : decode cX9_minute 30 = .ok (.aload_n 0, 1) := by decide +kernel
theorem dX9_minute_31 : decode cX9_minute 31 = .ok (.getfield 45, 3) := by decide +kernel
theorem dX9_minute_34 : decode cX9_minute 34 = .ok (.invokevirtual 205, 3) := by decide +kernel
theorem dX9_minute_37 : decode cX9_minute 37 = .ok (.iinc 3 1, 3) := by decide +kernel
theorem dX9_minute_40 : decode cX9_minute 40 = .ok (.goto (-15), 3) := by decide +kernel
theorem dX9_minute_43 : decode cX9_minute 43 = .ok (.aload_n 0, 1) := by decide +kernel
theorem dX9_minute_44 : decode cX9_minute 44 = .ok (.getfield 29, 3) := by decide +kernel
theorem dX9_minute_47 : decode cX9_minute 47 = .ok (.getfield 126, 3) := by decide +kernel
theorem dX9_minute_50 : decode cX9_minute 50 = .ok (.ireturn, 1) := by decide +kernel
theorem dX9_route_0 : decode cX9_route 0 = .ok (.aload_n 0, 1) := by decide +kernel
theorem dX9_route_1 : decode cX9_route 1 = .ok (.getfield 25, 3) := by decide +kernel
theorem dX9_route_4 : decode cX9_route 4 = .ok (.iload_n 1, 1) := by decide +kernel
theorem dX9_route_5 : decode cX9_route 5 = .ok (.invokevirtual 154, 3) := by decide +kernel
theorem dX9_route_8 : decode cX9_route 8 = .ok (.ifCond .ne 6, 3) := by decide +kernel
theorem dX9_route_11 : decode cX9_route 11 = .ok (.ldc 153, 2) := by decide +kernel
theorem dX9_route_13 : decode cX9_route 13 = .ok (.ireturn, 1) := by decide +kernel
theorem dX9_route_14 : decode cX9_route 14 = .ok (.iload_n 2, 1) := by decide +kernel
theorem dX9_route_15 : decode cX9_route 15 = .ok (.ifCond .lt 20, 3) := by decide +kernel
theorem dX9_route_18 : decode cX9_route 18 = .ok (.iload_n 2, 1) := by decide +kernel
theorem dX9_route_19 : decode cX9_route 19 = .ok (.ldc 208, 2) := by decide +kernel
theorem dX9_route_21 : decode cX9_route 21 = .ok (.if_icmp .gt 14, 3) := by decide +kernel
theorem dX9_route_24 : decode cX9_route 24 = .ok (.aload_n 0, 1) := by decide +kernel
theorem dX9_route_25 : decode cX9_route 25 = .ok (.getfield 25, 3) := by decide +kernel
theorem dX9_route_28 : decode cX9_route 28 = .ok (.iload_n 2, 1) := by decide +kernel
theorem dX9_route_29 : decode cX9_route 29 = .ok (.invokevirtual 209, 3) := by decide +kernel
theorem dX9_route_32 : decode cX9_route 32 = .ok (.ifCond .ne 6, 3) := by decide +kernel
theorem dX9_route_35 : decode cX9_route 35 = .ok (.ldc 74, 2) := by decide +kernel
theorem dX9_route_37 : decode cX9_route 37 = .ok (.ireturn, 1) := by decide +kernel
theorem dX9_route_38 : decode cX9_route 38 = .ok (.iload_n 2, 1) := by decide +kernel
theorem dX9_route_39 : decode cX9_route 39 = .ok (.invokestatic 212, 3) := by decide +kernel
theorem dX9_route_42 : decode cX9_route 42 = .ok (.istore_n 3, 1) := by decide +kernel
theorem dX9_route_43 : decode cX9_route 43 = .ok (.aload_n 0, 1) := by decide +kernel
theorem dX9_route_44 : decode cX9_route 44 = .ok (.getfield 25, 3) := by decide +kernel
theorem dX9_route_47 : decode cX9_route 47 = .ok (.aload_n 0, 1) := by decide +kernel
theorem dX9_route_48 : decode cX9_route 48 = .ok (.getfield 29, 3) := by decide +kernel
theorem dX9_route_51 : decode cX9_route 51 = .ok (.iload_n 1, 1) := by decide +kernel
theorem dX9_route_52 : decode cX9_route 52 = .ok (.invokevirtual 157, 3) := by decide +kernel
theorem dX9_route_55 : decode cX9_route 55 = .ok (.iload_n 3, 1) := by decide +kernel
theorem dX9_route_56 : decode cX9_route 56 = .ok (.invokevirtual 215, 3) := by decide +kernel
theorem dX9_route_59 : decode cX9_route 59 = .ok (.ifCond .ne 6, 3) := by decide +kernel
theorem dX9_route_62 : decode cX9_route 62 = .ok (.ldc 219, 2) := by decide +kernel
theorem dX9_route_64 : decode cX9_route 64 = .ok (.ireturn, 1) := by decide +kernel
theorem dX9_route_65 : decode cX9_route 65 = .ok (.aload_n 0, 1) := by decide +kernel
theorem dX9_route_66 : decode cX9_route 66 = .ok (.getfield 36, 3) := by decide +kernel
theorem dX9_route_69 : decode cX9_route 69 = .ok (.aload_n 0, 1) := by decide +kernel
theorem dX9_route_70 : decode cX9_route 70 = .ok (.getfield 29, 3) := by decide +kernel
theorem dX9_route_73 : decode cX9_route 73 = .ok (.invokevirtual 201, 3) := by decide +kernel
theorem dX9_route_76 : decode cX9_route 76 = .ok (.aload_n 0, 1) := by decide +kernel
theorem dX9_route_77 : decode cX9_route 77 = .ok (.getfield 29, 3) := by decide +kernel
theorem dX9_route_80 : decode cX9_route 80 = .ok (.iload_n 1, 1) := by decide +kernel
theorem dX9_route_81 : decode cX9_route 81 = .ok (.iload_n 3, 1) := by decide +kernel
theorem dX9_route_82 : decode cX9_route 82 = .ok (.invokevirtual 220, 3) := by decide +kernel
theorem dX9_route_85 : decode cX9_route 85 = .ok (.iload_n 3, 1) := by decide +kernel
theorem dX9_route_86 : decode cX9_route 86 = .ok (.invokestatic 180, 3) := by decide +kernel
theorem dX9_route_89 : decode cX9_route 89 = .ok (.ireturn, 1) := by decide +kernel
theorem dX9_lay_0 : decode cX9_lay 0 = .ok (.aload_n 0, 1) := by decide +kernel
theorem dX9_lay_1 : decode cX9_lay 1 = .ok (.getfield 25, 3) := by decide +kernel
theorem dX9_lay_4 : decode cX9_lay 4 = .ok (.iload_n 1, 1) := by decide +kernel
theorem dX9_lay_5 : decode cX9_lay 5 = .ok (.invokevirtual 186, 3) := by decide +kernel
theorem dX9_lay_8 : decode cX9_lay 8 = .ok (.ifCond .eq 14, 3) := by decide +kernel
theorem dX9_lay_11 : decode cX9_lay 11 = .ok (.aload_n 0, 1) := by decide +kernel
theorem dX9_lay_12 : decode cX9_lay 12 = .ok (.getfield 25, 3) := by decide +kernel
theorem dX9_lay_15 : decode cX9_lay 15 = .ok (.iload_n 2, 1) := by decide +kernel
theorem dX9_lay_16 : decode cX9_lay 16 = .ok (.invokevirtual 154, 3) := by decide +kernel
theorem dX9_lay_19 : decode cX9_lay 19 = .ok (.ifCond .ne 6, 3) := by decide +kernel
theorem dX9_lay_22 : decode cX9_lay 22 = .ok (.ldc 153, 2) := by decide +kernel
theorem dX9_lay_24 : decode cX9_lay 24 = .ok (.ireturn, 1) := by decide +kernel
theorem dX9_lay_25 : decode cX9_lay 25 = .ok (.iload_n 3, 1) := by decide +kernel
theorem dX9_lay_26 : decode cX9_lay 26 = .ok (.ifCond .lt 8, 3) := by decide +kernel
theorem dX9_lay_29 : decode cX9_lay 29 = .ok (.iload_n 3, 1) := by decide +kernel
theorem dX9_lay_30 : decode cX9_lay 30 = .ok (.iconst 1, 1) := by decide +kernel
theorem dX9_lay_31 : decode cX9_lay 31 = .ok (.if_icmp .le 6, 3) := by decide +kernel
theorem dX9_lay_34 : decode cX9_lay 34 = .ok (.ldc 74, 2) := by decide +kernel
theorem dX9_lay_36 : decode cX9_lay 36 = .ok (.ireturn, 1) := by decide +kernel
theorem dX9_lay_37 : decode cX9_lay 37 = .ok (.aload_n 0, 1) := by decide +kernel
theorem dX9_lay_38 : decode cX9_lay 38 = .ok (.getfield 25, 3) := by decide +kernel
theorem dX9_lay_41 : decode cX9_lay 41 = .ok (.aload_n 0, 1) := by decide +kernel
theorem dX9_lay_42 : decode cX9_lay 42 = .ok (.getfield 29, 3) := by decide +kernel
theorem dX9_lay_45 : decode cX9_lay 45 = .ok (.iload_n 2, 1) := by decide +kernel
theorem dX9_lay_46 : decode cX9_lay 46 = .ok (.invokevirtual 168, 3) := by decide +kernel
theorem dX9_lay_49 : decode cX9_lay 49 = .ok (.invokevirtual 171, 3) := by decide +kernel
theorem dX9_lay_52 : decode cX9_lay 52 = .ok (.aload_n 0, 1) := by decide +kernel
theorem dX9_lay_53 : decode cX9_lay 53 = .ok (.getfield 25, 3) := by decide +kernel
theorem dX9_lay_56 : decode cX9_lay 56 = .ok (.getfield 189, 3) := by decide +kernel
theorem dX9_lay_59 : decode cX9_lay 59 = .ok (.iload_n 1, 1) := by decide +kernel
theorem dX9_lay_60 : decode cX9_lay 60 = .ok (.iaload, 1) := by decide +kernel
theorem dX9_lay_61 : decode cX9_lay 61 = .ok (.iadd, 1) := by decide +kernel
theorem dX9_lay_62 : decode cX9_lay 62 = .ok (.istore 4, 2) := by decide +kernel
theorem dX9_lay_64 : decode cX9_lay 64 = .ok (.aload_n 0, 1) := by decide +kernel
theorem dX9_lay_65 : decode cX9_lay 65 = .ok (.getfield 29, 3) := by decide +kernel
theorem dX9_lay_68 : decode cX9_lay 68 = .ok (.iload_n 1, 1) := by decide +kernel
theorem dX9_lay_69 : decode cX9_lay 69 = .ok (.iload_n 2, 1) := by decide +kernel
theorem dX9_lay_70 : decode cX9_lay 70 = .ok (.invokevirtual 224, 3) := by decide +kernel
theorem dX9_lay_73 : decode cX9_lay 73 = .ok (.ifCond .eq 17, 3) := by decide +kernel
theorem dX9_lay_76 : decode cX9_lay 76 = .ok (.iload 4, 2) := by decide +kernel
theorem dX9_lay_78 : decode cX9_lay 78 = .ok (.aload_n 0, 1) := by decide +kernel
theorem dX9_lay_79 : decode cX9_lay 79 = .ok (.getfield 25, 3) := by decide +kernel
theorem dX9_lay_82 : decode cX9_lay 82 = .ok (.getfield 160, 3) := by decide +kernel
theorem dX9_lay_85 : decode cX9_lay 85 = .ok (.iload_n 2, 1) := by decide +kernel
theorem dX9_lay_86 : decode cX9_lay 86 = .ok (.iaload, 1) := by decide +kernel
theorem dX9_lay_87 : decode cX9_lay 87 = .ok (.if_icmp .le 6, 3) := by decide +kernel
theorem dX9_lay_90 : decode cX9_lay 90 = .ok (.ldc 219, 2) := by decide +kernel
theorem dX9_lay_92 : decode cX9_lay 92 = .ok (.ireturn, 1) := by decide +kernel
theorem dX9_lay_93 : decode cX9_lay 93 = .ok (.aload_n 0, 1) := by decide +kernel
theorem dX9_lay_94 : decode cX9_lay 94 = .ok (.getfield 36, 3) := by decide +kernel
theorem dX9_lay_97 : decode cX9_lay 97 = .ok (.aload_n 0, 1) := by decide +kernel
theorem dX9_lay_98 : decode cX9_lay 98 = .ok (.getfield 29, 3) := by decide +kernel
theorem dX9_lay_101 : decode cX9_lay 101 = .ok (.invokevirtual 201, 3) := by decide +kernel
theorem dX9_lay_104 : decode cX9_lay 104 = .ok (.aload_n 0, 1) := by decide +kernel
theorem dX9_lay_105 : decode cX9_lay 105 = .ok (.getfield 29, 3) := by decide +kernel
theorem dX9_lay_108 : decode cX9_lay 108 = .ok (.iload_n 1, 1) := by decide +kernel
theorem dX9_lay_109 : decode cX9_lay 109 = .ok (.iload_n 2, 1) := by decide +kernel
theorem dX9_lay_110 : decode cX9_lay 110 = .ok (.iload_n 3, 1) := by decide +kernel
theorem dX9_lay_111 : decode cX9_lay 111 = .ok (.invokestatic 164, 3) := by decide +kernel
theorem dX9_lay_114 : decode cX9_lay 114 = .ok (.invokevirtual 227, 3) := by decide +kernel
theorem dX9_lay_117 : decode cX9_lay 117 = .ok (.iload 4, 2) := by decide +kernel
theorem dX9_lay_119 : decode cX9_lay 119 = .ok (.ireturn, 1) := by decide +kernel
theorem dX9_takeOff_0 : decode cX9_takeOff 0 = .ok (.aload_n 0, 1) := by decide +kernel
theorem dX9_takeOff_1 : decode cX9_takeOff 1 = .ok (.getfield 25, 3) := by decide +kernel
theorem dX9_takeOff_4 : decode cX9_takeOff 4 = .ok (.iload_n 1, 1) := by decide +kernel
theorem dX9_takeOff_5 : decode cX9_takeOff 5 = .ok (.invokevirtual 186, 3) := by decide +kernel
theorem dX9_takeOff_8 : decode cX9_takeOff 8 = .ok (.ifCond .ne 6, 3) := by decide +kernel
theorem dX9_takeOff_11 : decode cX9_takeOff 11 = .ok (.ldc 153, 2) := by decide +kernel
theorem dX9_takeOff_13 : decode cX9_takeOff 13 = .ok (.ireturn, 1) := by decide +kernel
theorem dX9_takeOff_14 : decode cX9_takeOff 14 = .ok (.aload_n 0, 1) := by decide +kernel
theorem dX9_takeOff_15 : decode cX9_takeOff 15 = .ok (.getfield 29, 3) := by decide +kernel
theorem dX9_takeOff_18 : decode cX9_takeOff 18 = .ok (.iload_n 1, 1) := by decide +kernel
theorem dX9_takeOff_19 : decode cX9_takeOff 19 = .ok (.invokevirtual 195, 3) := by decide +kernel
theorem dX9_takeOff_22 : decode cX9_takeOff 22 = .ok (.istore_n 2, 1) := by decide +kernel
theorem dX9_takeOff_23 : decode cX9_takeOff 23 = .ok (.iload_n 2, 1) := by decide +kernel
theorem dX9_takeOff_24 : decode cX9_takeOff 24 = .ok (.iconst (-1), 1) := by decide +kernel
theorem dX9_takeOff_25 : decode cX9_takeOff 25 = .ok (.if_icmp .ne 6, 3) := by decide +kernel
theorem dX9_takeOff_28 : decode cX9_takeOff 28 = .ok (.ldc 219, 2) := by decide +kernel
theorem dX9_takeOff_30 : decode cX9_takeOff 30 = .ok (.ireturn, 1) := by decide +kernel
theorem dX9_takeOff_31 : decode cX9_takeOff 31 = .ok (.aload_n 0, 1) := by decide +kernel
theorem dX9_takeOff_32 : decode cX9_takeOff 32 = .ok (.getfield 36, 3) := by decide +kernel
theorem dX9_takeOff_35 : decode cX9_takeOff 35 = .ok (.aload_n 0, 1) := by decide +kernel
theorem dX9_takeOff_36 : decode cX9_takeOff 36 = .ok (.getfield 29, 3) := by decide +kernel
theorem dX9_takeOff_39 : decode cX9_takeOff 39 = .ok (.invokevirtual 201, 3) := by decide +kernel
theorem dX9_takeOff_42 : decode cX9_takeOff 42 = .ok (.aload_n 0, 1) := by decide +kernel
theorem dX9_takeOff_43 : decode cX9_takeOff 43 = .ok (.getfield 29, 3) := by decide +kernel
theorem dX9_takeOff_46 : decode cX9_takeOff 46 = .ok (.iload_n 1, 1) := by decide +kernel
theorem dX9_takeOff_47 : decode cX9_takeOff 47 = .ok (.iconst (-1), 1) := by decide +kernel
theorem dX9_takeOff_48 : decode cX9_takeOff 48 = .ok (.invokevirtual 227, 3) := by decide +kernel
theorem dX9_takeOff_51 : decode cX9_takeOff 51 = .ok (.iload_n 2, 1) := by decide +kernel
theorem dX9_takeOff_52 : decode cX9_takeOff 52 = .ok (.ireturn, 1) := by decide +kernel
theorem dX9_treaty_0 : decode cX9_treaty 0 = .ok (.aload_n 0, 1) := by decide +kernel
theorem dX9_treaty_1 : decode cX9_treaty 1 = .ok (.getfield 25, 3) := by decide +kernel
theorem dX9_treaty_4 : decode cX9_treaty 4 = .ok (.iload_n 1, 1) := by decide +kernel
theorem dX9_treaty_5 : decode cX9_treaty 5 = .ok (.iload_n 2, 1) := by decide +kernel
theorem dX9_treaty_6 : decode cX9_treaty 6 = .ok (.invokevirtual 230, 3) := by decide +kernel
theorem dX9_treaty_9 : decode cX9_treaty 9 = .ok (.ifCond .ne 6, 3) := by decide +kernel
theorem dX9_treaty_12 : decode cX9_treaty 12 = .ok (.ldc 153, 2) := by decide +kernel
theorem dX9_treaty_14 : decode cX9_treaty 14 = .ok (.ireturn, 1) := by decide +kernel
theorem dX9_treaty_15 : decode cX9_treaty 15 = .ok (.aload_n 0, 1) := by decide +kernel
theorem dX9_treaty_16 : decode cX9_treaty 16 = .ok (.getfield 36, 3) := by decide +kernel
theorem dX9_treaty_19 : decode cX9_treaty 19 = .ok (.aload_n 0, 1) := by decide +kernel
theorem dX9_treaty_20 : decode cX9_treaty 20 = .ok (.getfield 29, 3) := by decide +kernel
theorem dX9_treaty_23 : decode cX9_treaty 23 = .ok (.invokevirtual 201, 3) := by decide +kernel
theorem dX9_treaty_26 : decode cX9_treaty 26 = .ok (.aload_n 0, 1) := by decide +kernel
theorem dX9_treaty_27 : decode cX9_treaty 27 = .ok (.getfield 29, 3) := by decide +kernel
theorem dX9_treaty_30 : decode cX9_treaty 30 = .ok (.iload_n 1, 1) := by decide +kernel
theorem dX9_treaty_31 : decode cX9_treaty 31 = .ok (.invokevirtual 183, 3) := by decide +kernel
theorem dX9_treaty_34 : decode cX9_treaty 34 = .ok (.iload_n 2, 1) := by decide +kernel
theorem dX9_treaty_35 : decode cX9_treaty 35 = .ok (.invokestatic 233, 3) := by decide +kernel
theorem dX9_treaty_38 : decode cX9_treaty 38 = .ok (.ifCond .eq 7, 3) := by decide +kernel
theorem dX9_treaty_41 : decode cX9_treaty 41 = .ok (.iconst 1, 1) := by decide +kernel
theorem dX9_treaty_42 : decode cX9_treaty 42 = .ok (.goto 4, 3) := by decide +kernel
theorem dX9_treaty_45 : decode cX9_treaty 45 = .ok (.iconst 0, 1) := by decide +kernel
theorem dX9_treaty_46 : decode cX9_treaty 46 = .ok (.istore 4, 2) := by decide +kernel
theorem dX9_treaty_48 : decode cX9_treaty 48 = .ok (.aload_n 0, 1) := by decide +kernel
theorem dX9_treaty_49 : decode cX9_treaty 49 = .ok (.getfield 29, 3) := by decide +kernel
theorem dX9_treaty_52 : decode cX9_treaty 52 = .ok (.iload_n 1, 1) := by decide +kernel
theorem dX9_treaty_53 : decode cX9_treaty 53 = .ok (.iload_n 2, 1) := by decide +kernel
theorem dX9_treaty_54 : decode cX9_treaty 54 = .ok (.iload_n 3, 1) := by decide +kernel
theorem dX9_treaty_55 : decode cX9_treaty 55 = .ok (.invokevirtual 236, 3) := by decide +kernel
theorem dX9_treaty_58 : decode cX9_treaty 58 = .ok (.aload_n 0, 1) := by decide +kernel
theorem dX9_treaty_59 : decode cX9_treaty 59 = .ok (.getfield 29, 3) := by decide +kernel
theorem dX9_treaty_62 : decode cX9_treaty 62 = .ok (.iload_n 2, 1) := by decide +kernel
theorem dX9_treaty_63 : decode cX9_treaty 63 = .ok (.iload_n 1, 1) := by decide +kernel
theorem dX9_treaty_64 : decode cX9_treaty 64 = .ok (.iload_n 3, 1) := by decide +kernel
theorem dX9_treaty_65 : decode cX9_treaty 65 = .ok (.invokevirtual 236, 3) := by decide +kernel
theorem dX9_treaty_68 : decode cX9_treaty 68 = .ok (.iload 4, 2) := by decide +kernel
theorem dX9_treaty_70 : decode cX9_treaty 70 = .ok (.ireturn, 1) := by decide +kernel
theorem dX9_drift_0 : decode cX9_drift 0 = .ok (.aload_n 0, 1) := by decide +kernel
theorem dX9_drift_1 : decode cX9_drift 1 = .ok (.iload_n 1, 1) := by decide +kernel
theorem dX9_drift_2 : decode cX9_drift 2 = .ok (.invokevirtual 198, 3) := by decide +kernel
theorem dX9_drift_5 : decode cX9_drift 5 = .ok (.istore_n 2, 1) := by decide +kernel
theorem dX9_drift_6 : decode cX9_drift 6 = .ok (.iload_n 2, 1) := by decide +kernel
theorem dX9_drift_7 : decode cX9_drift 7 = .ok (.ifCond .eq 5, 3) := by decide +kernel
theorem dX9_drift_10 : decode cX9_drift 10 = .ok (.iload_n 2, 1) := by decide +kernel
theorem dX9_drift_11 : decode cX9_drift 11 = .ok (.ireturn, 1) := by decide +kernel
theorem dX9_drift_12 : decode cX9_drift 12 = .ok (.aload_n 0, 1) := by decide +kernel
theorem dX9_drift_13 : decode cX9_drift 13 = .ok (.getfield 36, 3) := by decide +kernel
theorem dX9_drift_16 : decode cX9_drift 16 = .ok (.aload_n 0, 1) := by decide +kernel
theorem dX9_drift_17 : decode cX9_drift 17 = .ok (.getfield 29, 3) := by decide +kernel
theorem dX9_drift_20 : decode cX9_drift 20 = .ok (.invokevirtual 201, 3) := by decide +kernel
theorem dX9_drift_23 : decode cX9_drift 23 = .ok (.iconst 0, 1) := by decide +kernel
theorem dX9_drift_24 : decode cX9_drift 24 = .ok (.istore_n 3, 1) := by decide +kernel
theorem dX9_drift_25 : decode cX9_drift 25 = .ok (.iload_n 3, 1) := by decide +kernel
theorem dX9_drift_26 : decode cX9_drift 26 = .ok (.iload_n 1, 1) := by decide +kernel
theorem dX9_drift_27 : decode cX9_drift 27 = .ok (.if_icmp .ge 23, 3) := by decide +kernel
theorem dX9_drift_30 : decode cX9_drift 30 = .ok (.aload_n 0, 1) := by decide +kernel
theorem dX9_drift_31 : decode cX9_drift 31 = .ok (.getfield 45, 3) := by decide +kernel
theorem dX9_drift_34 : decode cX9_drift 34 = .ok (.invokevirtual 240, 3) := by decide +kernel
theorem dX9_drift_37 : decode cX9_drift 37 = .ok (.aload_n 0, 1) := by decide +kernel
theorem dX9_drift_38 : decode cX9_drift 38 = .ok (.getfield 45, 3) := by decide +kernel
theorem dX9_drift_41 : decode cX9_drift 41 = .ok (.invokevirtual 205, 3) := by decide +kernel
theorem dX9_drift_44 : decode cX9_drift 44 = .ok (.iinc 3 1, 3) := by decide +kernel
theorem dX9_drift_47 : decode cX9_drift 47 = .ok (.goto (-22), 3) := by decide +kernel
theorem dX9_drift_50 : decode cX9_drift 50 = .ok (.aload_n 0, 1) := by decide +kernel
theorem dX9_drift_51 : decode cX9_drift 51 = .ok (.getfield 29, 3) := by decide +kernel
theorem dX9_drift_54 : decode cX9_drift 54 = .ok (.getfield 129, 3) := by decide +kernel
theorem dX9_drift_57 : decode cX9_drift 57 = .ok (.ireturn, 1) := by decide +kernel
theorem dX9_undo_0 : decode cX9_undo 0 = .ok (.aload_n 0, 1) := by decide +kernel
theorem dX9_undo_1 : decode cX9_undo 1 = .ok (.getfield 36, 3) := by decide +kernel
theorem dX9_undo_4 : decode cX9_undo 4 = .ok (.aload_n 0, 1) := by decide +kernel
theorem dX9_undo_5 : decode cX9_undo 5 = .ok (.getfield 29, 3) := by decide +kernel
theorem dX9_undo_8 : decode cX9_undo 8 = .ok (.invokevirtual 243, 3) := by decide +kernel
theorem dX9_undo_11 : decode cX9_undo 11 = .ok (.ifCond .eq 13, 3) := by decide +kernel
theorem dX9_undo_14 : decode cX9_undo 14 = .ok (.aload_n 0, 1) := by decide +kernel
theorem dX9_undo_15 : decode cX9_undo 15 = .ok (.getfield 36, 3) := by decide +kernel
theorem dX9_undo_18 : decode cX9_undo 18 = .ok (.getfield 145, 3) := by decide +kernel
theorem dX9_undo_21 : decode cX9_undo 21 = .ok (.goto 5, 3) := by decide +kernel
theorem dX9_undo_24 : decode cX9_undo 24 = .ok (.ldc 219, 2) := by decide +kernel
theorem dX9_undo_26 : decode cX9_undo 26 = .ok (.ireturn, 1) := by decide +kernel
theorem dX9_where_0 : decode cX9_where 0 = .ok (.aload_n 0, 1) := by decide +kernel
theorem dX9_where_1 : decode cX9_where 1 = .ok (.getfield 25, 3) := by decide +kernel
theorem dX9_where_4 : decode cX9_where 4 = .ok (.iload_n 1, 1) := by decide +kernel
theorem dX9_where_5 : decode cX9_where 5 = .ok (.invokevirtual 154, 3) := by decide +kernel
theorem dX9_where_8 : decode cX9_where 8 = .ok (.ifCond .ne 6, 3) := by decide +kernel
theorem dX9_where_11 : decode cX9_where 11 = .ok (.ldc 153, 2) := by decide +kernel
theorem dX9_where_13 : decode cX9_where 13 = .ok (.ireturn, 1) := by decide +kernel
theorem dX9_where_14 : decode cX9_where 14 = .ok (.iload_n 2, 1) := by decide +kernel
theorem dX9_where_15 : decode cX9_where 15 = .ok (.iconst 0, 1) := by decide +kernel
theorem dX9_where_16 : decode cX9_where 16 = .ok (.invokestatic 247, 3) := by decide +kernel
theorem dX9_where_19 : decode cX9_where 19 = .ok (.ifCond .eq 15, 3) := by decide +kernel
theorem dX9_where_22 : decode cX9_where 22 = .ok (.aload_n 0, 1) := by decide +kernel
theorem dX9_where_23 : decode cX9_where 23 = .ok (.getfield 29, 3) := by decide +kernel
theorem dX9_where_26 : decode cX9_where 26 = .ok (.iload_n 1, 1) := by decide +kernel
theorem dX9_where_27 : decode cX9_where 27 = .ok (.iload_n 2, 1) := by decide +kernel
theorem dX9_where_28 : decode cX9_where 28 = .ok (.invokevirtual 250, 3) := by decide +kernel
theorem dX9_where_31 : decode cX9_where 31 = .ok (.goto 5, 3) := by decide +kernel
theorem dX9_where_34 : decode cX9_where 34 = .ok (.ldc 74, 2) := by decide +kernel
theorem dX9_where_36 : decode cX9_where 36 = .ok (.ireturn, 1) := by decide +kernel
theorem dX9_meets_0 : decode cX9_meets 0 = .ok (.aload_n 0, 1) := by decide +kernel
theorem dX9_meets_1 : decode cX9_meets 1 = .ok (.getfield 25, 3) := by decide +kernel
theorem dX9_meets_4 : decode cX9_meets 4 = .ok (.iload_n 1, 1) := by decide +kernel
theorem dX9_meets_5 : decode cX9_meets 5 = .ok (.iload_n 2, 1) := by decide +kernel
theorem dX9_meets_6 : decode cX9_meets 6 = .ok (.invokevirtual 230, 3) := by decide +kernel
theorem dX9_meets_9 : decode cX9_meets 9 = .ok (.ifCond .eq 15, 3) := by decide +kernel
theorem dX9_meets_12 : decode cX9_meets 12 = .ok (.aload_n 0, 1) := by decide +kernel
theorem dX9_meets_13 : decode cX9_meets 13 = .ok (.getfield 52, 3) := by decide +kernel
theorem dX9_meets_16 : decode cX9_meets 16 = .ok (.iload_n 1, 1) := by decide +kernel
theorem dX9_meets_17 : decode cX9_meets 17 = .ok (.iload_n 2, 1) := by decide +kernel
theorem dX9_meets_18 : decode cX9_meets 18 = .ok (.invokevirtual 253, 3) := by decide +kernel
theorem dX9_meets_21 : decode cX9_meets 21 = .ok (.goto 5, 3) := by decide +kernel
theorem dX9_meets_24 : decode cX9_meets 24 = .ok (.ldc 153, 2) := by decide +kernel
theorem dX9_meets_26 : decode cX9_meets 26 = .ok (.ireturn, 1) := by decide +kernel
theorem dX9_way_0 : decode cX9_way 0 = .ok (.aload_n 0, 1) := by decide +kernel
theorem dX9_way_1 : decode cX9_way 1 = .ok (.getfield 25, 3) := by decide +kernel
theorem dX9_way_4 : decode cX9_way 4 = .ok (.iload_n 1, 1) := by decide +kernel
theorem dX9_way_5 : decode cX9_way 5 = .ok (.invokevirtual 147, 3) := by decide +kernel
theorem dX9_way_8 : decode cX9_way 8 = .ok (.ifCond .eq 14, 3) := by decide +kernel
theorem dX9_way_11 : decode cX9_way 11 = .ok (.aload_n 0, 1) := by decide +kernel
theorem dX9_way_12 : decode cX9_way 12 = .ok (.getfield 25, 3) := by decide +kernel
theorem dX9_way_15 : decode cX9_way 15 = .ok (.iload_n 2, 1) := by decide +kernel
theorem dX9_way_16 : decode cX9_way 16 = .ok (.invokevirtual 147, 3) := by decide +kernel
theorem dX9_way_19 : decode cX9_way 19 = .ok (.ifCond .ne 6, 3) := by decide +kernel
theorem dX9_way_22 : decode cX9_way 22 = .ok (.ldc 153, 2) := by decide +kernel
theorem dX9_way_24 : decode cX9_way 24 = .ok (.ireturn, 1) := by decide +kernel
theorem dX9_way_25 : decode cX9_way 25 = .ok (.iload_n 3, 1) := by decide +kernel
theorem dX9_way_26 : decode cX9_way 26 = .ok (.lookupswitch 46 #[(0, 26), (1, 36)], 26) := by decide +kernel
theorem dX9_way_52 : decode cX9_way 52 = .ok (.aload_n 0, 1) := by decide +kernel
theorem dX9_way_53 : decode cX9_way 53 = .ok (.getfield 25, 3) := by decide +kernel
theorem dX9_way_56 : decode cX9_way 56 = .ok (.iload_n 1, 1) := by decide +kernel
theorem dX9_way_57 : decode cX9_way 57 = .ok (.iload_n 2, 1) := by decide +kernel
theorem dX9_way_58 : decode cX9_way 58 = .ok (.invokevirtual 256, 3) := by decide +kernel
theorem dX9_way_61 : decode cX9_way 61 = .ok (.ireturn, 1) := by decide +kernel
theorem dX9_way_62 : decode cX9_way 62 = .ok (.aload_n 0, 1) := by decide +kernel
theorem dX9_way_63 : decode cX9_way 63 = .ok (.getfield 25, 3) := by decide +kernel
theorem dX9_way_66 : decode cX9_way 66 = .ok (.iload_n 1, 1) := by decide +kernel
theorem dX9_way_67 : decode cX9_way 67 = .ok (.iload_n 2, 1) := by decide +kernel
theorem dX9_way_68 : decode cX9_way 68 = .ok (.invokevirtual 259, 3) := by decide +kernel
theorem dX9_way_71 : decode cX9_way 71 = .ok (.ireturn, 1) := by decide +kernel
theorem dX9_way_72 : decode cX9_way 72 = .ok (.ldc 74, 2) := by decide +kernel
theorem dX9_way_74 : decode cX9_way 74 = .ok (.ireturn, 1) := by decide +kernel
theorem dX9_delays_0 : decode cX9_delays 0 = .ok (.iload_n 1, 1) := by decide +kernel
theorem dX9_delays_1 : decode cX9_delays 1 = .ok (.iconst (-1), 1) := by decide +kernel
theorem dX9_delays_2 : decode cX9_delays 2 = .ok (.if_icmp .eq 17, 3) := by decide +kernel
theorem dX9_delays_5 : decode cX9_delays 5 = .ok (.aload_n 0, 1) := by decide +kernel
theorem dX9_delays_6 : decode cX9_delays 6 = .ok (.getfield 25, 3) := by decide +kernel
theorem dX9_delays_9 : decode cX9_delays 9 = .ok (.iload_n 1, 1) := by decide +kernel
theorem dX9_delays_10 : decode cX9_delays 10 = .ok (.invokevirtual 154, 3) := by decide +kernel
theorem dX9_delays_13 : decode cX9_delays 13 = .ok (.ifCond .ne 6, 3) := by decide +kernel
theorem dX9_delays_16 : decode cX9_delays 16 = .ok (.ldc 153, 2) := by decide +kernel
theorem dX9_delays_18 : decode cX9_delays 18 = .ok (.ireturn, 1) := by decide +kernel
theorem dX9_delays_19 : decode cX9_delays 19 = .ok (.aload_n 0, 1) := by decide +kernel
theorem dX9_delays_20 : decode cX9_delays 20 = .ok (.getfield 52, 3) := by decide +kernel
theorem dX9_delays_23 : decode cX9_delays 23 = .ok (.invokevirtual 262, 3) := by decide +kernel
theorem dX9_delays_26 : decode cX9_delays 26 = .ok (.aload_n 0, 1) := by decide +kernel
theorem dX9_delays_27 : decode cX9_delays 27 = .ok (.getfield 52, 3) := by decide +kernel
theorem dX9_delays_30 : decode cX9_delays 30 = .ok (.iload_n 1, 1) := by decide +kernel
theorem dX9_delays_31 : decode cX9_delays 31 = .ok (.invokevirtual 265, 3) := by decide +kernel
theorem dX9_delays_34 : decode cX9_delays 34 = .ok (.ireturn, 1) := by decide +kernel
theorem dX9_served_0 : decode cX9_served 0 = .ok (.iload_n 1, 1) := by decide +kernel
theorem dX9_served_1 : decode cX9_served 1 = .ok (.iconst (-1), 1) := by decide +kernel
theorem dX9_served_2 : decode cX9_served 2 = .ok (.if_icmp .eq 17, 3) := by decide +kernel
theorem dX9_served_5 : decode cX9_served 5 = .ok (.aload_n 0, 1) := by decide +kernel
theorem dX9_served_6 : decode cX9_served 6 = .ok (.getfield 25, 3) := by decide +kernel
theorem dX9_served_9 : decode cX9_served 9 = .ok (.iload_n 1, 1) := by decide +kernel
theorem dX9_served_10 : decode cX9_served 10 = .ok (.invokevirtual 268, 3) := by decide +kernel
theorem dX9_served_13 : decode cX9_served 13 = .ok (.ifCond .ne 6, 3) := by decide +kernel
theorem dX9_served_16 : decode cX9_served 16 = .ok (.ldc 153, 2) := by decide +kernel
theorem dX9_served_18 : decode cX9_served 18 = .ok (.ireturn, 1) := by decide +kernel
theorem dX9_served_19 : decode cX9_served 19 = .ok (.aload_n 0, 1) := by decide +kernel
theorem dX9_served_20 : decode cX9_served 20 = .ok (.getfield 59, 3) := by decide +kernel
theorem dX9_served_23 : decode cX9_served 23 = .ok (.invokevirtual 271, 3) := by decide +kernel
theorem dX9_served_26 : decode cX9_served 26 = .ok (.aload_n 0, 1) := by decide +kernel
theorem dX9_served_27 : decode cX9_served 27 = .ok (.getfield 59, 3) := by decide +kernel
theorem dX9_served_30 : decode cX9_served 30 = .ok (.iload_n 1, 1) := by decide +kernel
theorem dX9_served_31 : decode cX9_served 31 = .ok (.invokevirtual 272, 3) := by decide +kernel
theorem dX9_served_34 : decode cX9_served 34 = .ok (.ireturn, 1) := by decide +kernel
theorem dX9_evened_0 : decode cX9_evened 0 = .ok (.aload_n 0, 1) := by decide +kernel
theorem dX9_evened_1 : decode cX9_evened 1 = .ok (.getfield 25, 3) := by decide +kernel
theorem dX9_evened_4 : decode cX9_evened 4 = .ok (.iload_n 1, 1) := by decide +kernel
theorem dX9_evened_5 : decode cX9_evened 5 = .ok (.invokevirtual 154, 3) := by decide +kernel
theorem dX9_evened_8 : decode cX9_evened 8 = .ok (.ifCond .ne 6, 3) := by decide +kernel
theorem dX9_evened_11 : decode cX9_evened 11 = .ok (.ldc 153, 2) := by decide +kernel
theorem dX9_evened_13 : decode cX9_evened 13 = .ok (.ireturn, 1) := by decide +kernel
theorem dX9_evened_14 : decode cX9_evened 14 = .ok (.aload_n 0, 1) := by decide +kernel
theorem dX9_evened_15 : decode cX9_evened 15 = .ok (.getfield 29, 3) := by decide +kernel
theorem dX9_evened_18 : decode cX9_evened 18 = .ok (.iload_n 1, 1) := by decide +kernel
theorem dX9_evened_19 : decode cX9_evened 19 = .ok (.invokevirtual 168, 3) := by decide +kernel
theorem dX9_evened_22 : decode cX9_evened 22 = .ok (.istore_n 3, 1) := by decide +kernel
theorem dX9_evened_23 : decode cX9_evened 23 = .ok (.iload_n 2, 1) := by decide +kernel
theorem dX9_evened_24 : decode cX9_evened 24 = .ok (.lookupswitch 54 #[(0, 28), (1, 37)], 28) := by decide +kernel
theorem dX9_evened_52 : decode cX9_evened 52 = .ok (.aload_n 0, 1) := by decide +kernel
theorem dX9_evened_53 : decode cX9_evened 53 = .ok (.getfield 25, 3) := by decide +kernel
theorem dX9_evened_56 : decode cX9_evened 56 = .ok (.iload_n 3, 1) := by decide +kernel
theorem dX9_evened_57 : decode cX9_evened 57 = .ok (.invokevirtual 273, 3) := by decide +kernel
theorem dX9_evened_60 : decode cX9_evened 60 = .ok (.ireturn, 1) := by decide +kernel
theorem dX9_evened_61 : decode cX9_evened 61 = .ok (.aload_n 0, 1) := by decide +kernel
theorem dX9_evened_62 : decode cX9_evened 62 = .ok (.getfield 25, 3) := by decide +kernel
theorem dX9_evened_65 : decode cX9_evened 65 = .ok (.iload_n 3, 1) := by decide +kernel
theorem dX9_evened_66 : decode cX9_evened 66 = .ok (.aload_n 0, 1) := by decide +kernel
theorem dX9_evened_67 : decode cX9_evened 67 = .ok (.getfield 25, 3) := by decide +kernel
theorem dX9_evened_70 : decode cX9_evened 70 = .ok (.iload_n 3, 1) := by decide +kernel
theorem dX9_evened_71 : decode cX9_evened 71 = .ok (.invokevirtual 273, 3) := by decide +kernel
theorem dX9_evened_74 : decode cX9_evened 74 = .ok (.invokevirtual 276, 3) := by decide +kernel
theorem dX9_evened_77 : decode cX9_evened 77 = .ok (.ireturn, 1) := by decide +kernel
theorem dX9_evened_78 : decode cX9_evened 78 = .ok (.ldc 74, 2) := by decide +kernel
theorem dX9_evened_80 : decode cX9_evened 80 = .ok (.ireturn, 1) := by decide +kernel
theorem dX9_packed_0 : decode cX9_packed 0 = .ok (.aload_n 0, 1) := by decide +kernel
theorem dX9_packed_1 : decode cX9_packed 1 = .ok (.getfield 25, 3) := by decide +kernel
theorem dX9_packed_4 : decode cX9_packed 4 = .ok (.iload_n 1, 1) := by decide +kernel
theorem dX9_packed_5 : decode cX9_packed 5 = .ok (.invokevirtual 154, 3) := by decide +kernel
theorem dX9_packed_8 : decode cX9_packed 8 = .ok (.ifCond .ne 6, 3) := by decide +kernel
theorem dX9_packed_11 : decode cX9_packed 11 = .ok (.ldc 153, 2) := by decide +kernel
theorem dX9_packed_13 : decode cX9_packed 13 = .ok (.ireturn, 1) := by decide +kernel
theorem dX9_packed_14 : decode cX9_packed 14 = .ok (.aload_n 0, 1) := by decide +kernel
theorem dX9_packed_15 : decode cX9_packed 15 = .ok (.getfield 25, 3) := by decide +kernel
theorem dX9_packed_18 : decode cX9_packed 18 = .ok (.getfield 160, 3) := by decide +kernel
theorem dX9_packed_21 : decode cX9_packed 21 = .ok (.iload_n 1, 1) := by decide +kernel
theorem dX9_packed_22 : decode cX9_packed 22 = .ok (.iaload, 1) := by decide +kernel
theorem dX9_packed_23 : decode cX9_packed 23 = .ok (.aload_n 0, 1) := by decide +kernel
theorem dX9_packed_24 : decode cX9_packed 24 = .ok (.getfield 25, 3) := by decide +kernel
theorem dX9_packed_27 : decode cX9_packed 27 = .ok (.aload_n 0, 1) := by decide +kernel
theorem dX9_packed_28 : decode cX9_packed 28 = .ok (.getfield 29, 3) := by decide +kernel
theorem dX9_packed_31 : decode cX9_packed 31 = .ok (.iload_n 1, 1) := by decide +kernel
theorem dX9_packed_32 : decode cX9_packed 32 = .ok (.invokevirtual 168, 3) := by decide +kernel
theorem dX9_packed_35 : decode cX9_packed 35 = .ok (.invokevirtual 171, 3) := by decide +kernel
theorem dX9_packed_38 : decode cX9_packed 38 = .ok (.isub, 1) := by decide +kernel
theorem dX9_packed_39 : decode cX9_packed 39 = .ok (.istore_n 3, 1) := by decide +kernel
theorem dX9_packed_40 : decode cX9_packed 40 = .ok (.aload_n 0, 1) := by decide +kernel
theorem dX9_packed_41 : decode cX9_packed 41 = .ok (.getfield 29, 3) := by decide +kernel
theorem dX9_packed_44 : decode cX9_packed 44 = .ok (.iconst (-1), 1) := by decide +kernel
theorem dX9_packed_45 : decode cX9_packed 45 = .ok (.invokevirtual 132, 3) := by decide +kernel
theorem dX9_packed_48 : decode cX9_packed 48 = .ok (.istore 4, 2) := by decide +kernel
theorem dX9_packed_50 : decode cX9_packed 50 = .ok (.iload_n 2, 1) := by decide +kernel
theorem dX9_packed_51 : decode cX9_packed 51 = .ok (.lookupswitch 54 #[(0, 25), (1, 36)], 25) := by decide +kernel
theorem dX9_packed_76 : decode cX9_packed 76 = .ok (.aload_n 0, 1) := by decide +kernel
theorem dX9_packed_77 : decode cX9_packed 77 = .ok (.getfield 25, 3) := by decide +kernel
theorem dX9_packed_80 : decode cX9_packed 80 = .ok (.iload 4, 2) := by decide +kernel
theorem dX9_packed_82 : decode cX9_packed 82 = .ok (.iload_n 3, 1) := by decide +kernel
theorem dX9_packed_83 : decode cX9_packed 83 = .ok (.invokevirtual 279, 3) := by decide +kernel
theorem dX9_packed_86 : decode cX9_packed 86 = .ok (.ireturn, 1) := by decide +kernel
theorem dX9_packed_87 : decode cX9_packed 87 = .ok (.aload_n 0, 1) := by decide +kernel
theorem dX9_packed_88 : decode cX9_packed 88 = .ok (.getfield 25, 3) := by decide +kernel
theorem dX9_packed_91 : decode cX9_packed 91 = .ok (.aload_n 0, 1) := by decide +kernel
theorem dX9_packed_92 : decode cX9_packed 92 = .ok (.getfield 25, 3) := by decide +kernel
theorem dX9_packed_95 : decode cX9_packed 95 = .ok (.iload 4, 2) := by decide +kernel
theorem dX9_packed_97 : decode cX9_packed 97 = .ok (.iload_n 3, 1) := by decide +kernel
theorem dX9_packed_98 : decode cX9_packed 98 = .ok (.invokevirtual 279, 3) := by decide +kernel
theorem dX9_packed_101 : decode cX9_packed 101 = .ok (.invokevirtual 136, 3) := by decide +kernel
theorem dX9_packed_104 : decode cX9_packed 104 = .ok (.ireturn, 1) := by decide +kernel
theorem dX9_packed_105 : decode cX9_packed 105 = .ok (.ldc 74, 2) := by decide +kernel
theorem dX9_packed_107 : decode cX9_packed 107 = .ok (.ireturn, 1) := by decide +kernel
theorem dX9_covered_0 : decode cX9_covered 0 = .ok (.aload_n 0, 1) := by decide +kernel
theorem dX9_covered_1 : decode cX9_covered 1 = .ok (.getfield 25, 3) := by decide +kernel
theorem dX9_covered_4 : decode cX9_covered 4 = .ok (.iload_n 1, 1) := by decide +kernel
theorem dX9_covered_5 : decode cX9_covered 5 = .ok (.invokevirtual 147, 3) := by decide +kernel
theorem dX9_covered_8 : decode cX9_covered 8 = .ok (.ifCond .ne 6, 3) := by decide +kernel
theorem dX9_covered_11 : decode cX9_covered 11 = .ok (.ldc 153, 2) := by decide +kernel
theorem dX9_covered_13 : decode cX9_covered 13 = .ok (.ireturn, 1) := by decide +kernel
theorem dX9_covered_14 : decode cX9_covered 14 = .ok (.iload_n 2, 1) := by decide +kernel
theorem dX9_covered_15 : decode cX9_covered 15 = .ok (.iconst 0, 1) := by decide +kernel
theorem dX9_covered_16 : decode cX9_covered 16 = .ok (.invokestatic 247, 3) := by decide +kernel
theorem dX9_covered_19 : decode cX9_covered 19 = .ok (.ifCond .ne 6, 3) := by decide +kernel
theorem dX9_covered_22 : decode cX9_covered 22 = .ok (.ldc 74, 2) := by decide +kernel
theorem dX9_covered_24 : decode cX9_covered 24 = .ok (.ireturn, 1) := by decide +kernel
theorem dX9_covered_25 : decode cX9_covered 25 = .ok (.iconst 1, 1) := by decide +kernel
theorem dX9_covered_26 : decode cX9_covered 26 = .ok (.iload_n 1, 1) := by decide +kernel
theorem dX9_covered_27 : decode cX9_covered 27 = .ok (.ishl, 1) := by decide +kernel
theorem dX9_covered_28 : decode cX9_covered 28 = .ok (.istore_n 3, 1) := by decide +kernel
theorem dX9_covered_29 : decode cX9_covered 29 = .ok (.iconst 0, 1) := by decide +kernel
theorem dX9_covered_30 : decode cX9_covered 30 = .ok (.istore 4, 2) := by decide +kernel
theorem dX9_covered_32 : decode cX9_covered 32 = .ok (.iload 4, 2) := by decide +kernel
theorem dX9_covered_34 : decode cX9_covered 34 = .ok (.iload_n 2, 1) := by decide +kernel
theorem dX9_covered_35 : decode cX9_covered 35 = .ok (.if_icmp .ge 18, 3) := by decide +kernel
theorem dX9_covered_38 : decode cX9_covered 38 = .ok (.aload_n 0, 1) := by decide +kernel
theorem dX9_covered_39 : decode cX9_covered 39 = .ok (.getfield 25, 3) := by decide +kernel
theorem dX9_covered_42 : decode cX9_covered 42 = .ok (.iload_n 3, 1) := by decide +kernel
theorem dX9_covered_43 : decode cX9_covered 43 = .ok (.invokevirtual 282, 3) := by decide +kernel
theorem dX9_covered_46 : decode cX9_covered 46 = .ok (.istore_n 3, 1) := by decide +kernel
theorem dX9_covered_47 : decode cX9_covered 47 = .ok (.iinc 4 1, 3) := by decide +kernel
theorem dX9_covered_50 : decode cX9_covered 50 = .ok (.goto (-18), 3) := by decide +kernel
theorem dX9_covered_53 : decode cX9_covered 53 = .ok (.iload_n 3, 1) := by decide +kernel
theorem dX9_covered_54 : decode cX9_covered 54 = .ok (.ireturn, 1) := by decide +kernel
theorem dX9_calm_0 : decode cX9_calm 0 = .ok (.iload_n 1, 1) := by decide +kernel
theorem dX9_calm_1 : decode cX9_calm 1 = .ok (.ifCond .lt 19, 3) := by decide +kernel
theorem dX9_calm_4 : decode cX9_calm 4 = .ok (.iload_n 1, 1) := by decide +kernel
theorem dX9_calm_5 : decode cX9_calm 5 = .ok (.bipush 60, 2) := by decide +kernel
theorem dX9_calm_7 : decode cX9_calm 7 = .ok (.if_icmp .gt 13, 3) := by decide +kernel
theorem dX9_calm_10 : decode cX9_calm 10 = .ok (.iload_n 2, 1) := by decide +kernel
theorem dX9_calm_11 : decode cX9_calm 11 = .ok (.ifCond .lt 9, 3) := by decide +kernel
theorem dX9_calm_14 : decode cX9_calm 14 = .ok (.iload_n 2, 1) := by decide +kernel
theorem dX9_calm_15 : decode cX9_calm 15 = .ok (.bipush 100, 2) := by decide +kernel
theorem dX9_calm_17 : decode cX9_calm 17 = .ok (.if_icmp .le 6, 3) := by decide +kernel
theorem dX9_calm_20 : decode cX9_calm 20 = .ok (.ldc 74, 2) := by decide +kernel
theorem dX9_calm_22 : decode cX9_calm 22 = .ok (.ireturn, 1) := by decide +kernel
theorem dX9_calm_23 : decode cX9_calm 23 = .ok (.ldc2_w 285, 3) := by decide +kernel
theorem dX9_calm_26 : decode cX9_calm 26 = .ok (.lstore_n 3, 1) := by decide +kernel
theorem dX9_calm_27 : decode cX9_calm 27 = .ok (.iconst 0, 1) := by decide +kernel
theorem dX9_calm_28 : decode cX9_calm 28 = .ok (.istore 5, 2) := by decide +kernel
theorem dX9_calm_30 : decode cX9_calm 30 = .ok (.iload 5, 2) := by decide +kernel
theorem dX9_calm_32 : decode cX9_calm 32 = .ok (.iload_n 1, 1) := by decide +kernel
theorem dX9_calm_33 : decode cX9_calm 33 = .ok (.if_icmp .ge 21, 3) := by decide +kernel
theorem dX9_calm_36 : decode cX9_calm 36 = .ok (.lload_n 3, 1) := by decide +kernel
theorem dX9_calm_37 : decode cX9_calm 37 = .ok (.bipush 100, 2) := by decide +kernel
theorem dX9_calm_39 : decode cX9_calm 39 = .ok (.iload_n 2, 1) := by decide +kernel
theorem dX9_calm_40 : decode cX9_calm 40 = .ok (.isub, 1) := by decide +kernel
theorem dX9_calm_41 : decode cX9_calm 41 = .ok (.i2l, 1) := by decide +kernel
theorem dX9_calm_42 : decode cX9_calm 42 = .ok (.lmul, 1) := by decide +kernel
theorem dX9_calm_43 : decode cX9_calm 43 = .ok (.ldc2_w 287, 3) := by decide +kernel
theorem dX9_calm_46 : decode cX9_calm 46 = .ok (.ldiv, 1) := by decide +kernel
theorem dX9_calm_47 : decode cX9_calm 47 = .ok (.lstore_n 3, 1) := by decide +kernel
theorem dX9_calm_48 : decode cX9_calm 48 = .ok (.iinc 5 1, 3) := by decide +kernel
theorem dX9_calm_51 : decode cX9_calm 51 = .ok (.goto (-21), 3) := by decide +kernel
theorem dX9_calm_54 : decode cX9_calm 54 = .ok (.lload_n 3, 1) := by decide +kernel
theorem dX9_calm_55 : decode cX9_calm 55 = .ok (.l2i, 1) := by decide +kernel
theorem dX9_calm_56 : decode cX9_calm 56 = .ok (.ireturn, 1) := by decide +kernel
theorem dX9_see_0 : decode cX9_see 0 = .ok (.aload_n 0, 1) := by decide +kernel
theorem dX9_see_1 : decode cX9_see 1 = .ok (.getfield 25, 3) := by decide +kernel
theorem dX9_see_4 : decode cX9_see 4 = .ok (.iload_n 1, 1) := by decide +kernel
theorem dX9_see_5 : decode cX9_see 5 = .ok (.invokevirtual 147, 3) := by decide +kernel
theorem dX9_see_8 : decode cX9_see 8 = .ok (.ifCond .ne 6, 3) := by decide +kernel
theorem dX9_see_11 : decode cX9_see 11 = .ok (.ldc 153, 2) := by decide +kernel
theorem dX9_see_13 : decode cX9_see 13 = .ok (.ireturn, 1) := by decide +kernel
theorem dX9_see_14 : decode cX9_see 14 = .ok (.iload_n 2, 1) := by decide +kernel
theorem dX9_see_15 : decode cX9_see 15 = .ok (.iconst 1, 1) := by decide +kernel
theorem dX9_see_16 : decode cX9_see 16 = .ok (.invokestatic 247, 3) := by decide +kernel
theorem dX9_see_19 : decode cX9_see 19 = .ok (.ifCond .ne 6, 3) := by decide +kernel
theorem dX9_see_22 : decode cX9_see 22 = .ok (.ldc 74, 2) := by decide +kernel
theorem dX9_see_24 : decode cX9_see 24 = .ok (.ireturn, 1) := by decide +kernel
theorem dX9_see_25 : decode cX9_see 25 = .ok (.aload_n 0, 1) := by decide +kernel
theorem dX9_see_26 : decode cX9_see 26 = .ok (.getfield 66, 3) := by decide +kernel
theorem dX9_see_29 : decode cX9_see 29 = .ok (.iload_n 1, 1) := by decide +kernel
theorem dX9_see_30 : decode cX9_see 30 = .ok (.iload_n 2, 1) := by decide +kernel
theorem dX9_see_31 : decode cX9_see 31 = .ok (.iload_n 3, 1) := by decide +kernel
theorem dX9_see_32 : decode cX9_see 32 = .ok (.invokevirtual 289, 3) := by decide +kernel
theorem dX9_see_35 : decode cX9_see 35 = .ok (.ifCond .eq 13, 3) := by decide +kernel
theorem dX9_see_38 : decode cX9_see 38 = .ok (.aload_n 0, 1) := by decide +kernel
theorem dX9_see_39 : decode cX9_see 39 = .ok (.getfield 66, 3) := by decide +kernel
theorem dX9_see_42 : decode cX9_see 42 = .ok (.getfield 139, 3) := by decide +kernel
theorem dX9_see_45 : decode cX9_see 45 = .ok (.goto 5, 3) := by decide +kernel
theorem dX9_see_48 : decode cX9_see 48 = .ok (.ldc 83, 2) := by decide +kernel
theorem dX9_see_50 : decode cX9_see 50 = .ok (.ireturn, 1) := by decide +kernel
theorem dX9_spiller_0 : decode cX9_spiller 0 = .ok (.aload_n 0, 1) := by decide +kernel
theorem dX9_spiller_1 : decode cX9_spiller 1 = .ok (.getfield 66, 3) := by decide +kernel
theorem dX9_spiller_4 : decode cX9_spiller 4 = .ok (.invokevirtual 293, 3) := by decide +kernel
theorem dX9_spiller_7 : decode cX9_spiller 7 = .ok (.ireturn, 1) := by decide +kernel
theorem dX9_look_0 : decode cX9_look 0 = .ok (.aload_n 0, 1) := by decide +kernel
theorem dX9_look_1 : decode cX9_look 1 = .ok (.getfield 66, 3) := by decide +kernel
theorem dX9_look_4 : decode cX9_look 4 = .ok (.invokevirtual 296, 3) := by decide +kernel
theorem dX9_look_7 : decode cX9_look 7 = .ok (.ireturn, 1) := by decide +kernel
theorem dX9_write_0 : decode cX9_write 0 = .ok (.aload_n 0, 1) := by decide +kernel
theorem dX9_write_1 : decode cX9_write 1 = .ok (.getfield 25, 3) := by decide +kernel
theorem dX9_write_4 : decode cX9_write 4 = .ok (.iload_n 1, 1) := by decide +kernel
theorem dX9_write_5 : decode cX9_write 5 = .ok (.invokevirtual 154, 3) := by decide +kernel
theorem dX9_write_8 : decode cX9_write 8 = .ok (.ifCond .eq 14, 3) := by decide +kernel
theorem dX9_write_11 : decode cX9_write 11 = .ok (.aload_n 0, 1) := by decide +kernel
theorem dX9_write_12 : decode cX9_write 12 = .ok (.getfield 25, 3) := by decide +kernel
theorem dX9_write_15 : decode cX9_write 15 = .ok (.iload_n 2, 1) := by decide +kernel
theorem dX9_write_16 : decode cX9_write 16 = .ok (.invokevirtual 147, 3) := by decide +kernel
theorem dX9_write_19 : decode cX9_write 19 = .ok (.ifCond .ne 6, 3) := by decide +kernel
theorem dX9_write_22 : decode cX9_write 22 = .ok (.ldc 153, 2) := by decide +kernel
theorem dX9_write_24 : decode cX9_write 24 = .ok (.ireturn, 1) := by decide +kernel
theorem dX9_write_25 : decode cX9_write 25 = .ok (.aload_n 0, 1) := by decide +kernel
theorem dX9_write_26 : decode cX9_write 26 = .ok (.getfield 66, 3) := by decide +kernel
theorem dX9_write_29 : decode cX9_write 29 = .ok (.iload_n 1, 1) := by decide +kernel
theorem dX9_write_30 : decode cX9_write 30 = .ok (.iload_n 2, 1) := by decide +kernel
theorem dX9_write_31 : decode cX9_write 31 = .ok (.invokevirtual 299, 3) := by decide +kernel
theorem dX9_write_34 : decode cX9_write 34 = .ok (.ifCond .eq 13, 3) := by decide +kernel
theorem dX9_write_37 : decode cX9_write 37 = .ok (.aload_n 0, 1) := by decide +kernel
theorem dX9_write_38 : decode cX9_write 38 = .ok (.getfield 66, 3) := by decide +kernel
theorem dX9_write_41 : decode cX9_write 41 = .ok (.getfield 142, 3) := by decide +kernel
theorem dX9_write_44 : decode cX9_write 44 = .ok (.goto 5, 3) := by decide +kernel
theorem dX9_write_47 : decode cX9_write 47 = .ok (.ldc 83, 2) := by decide +kernel
theorem dX9_write_49 : decode cX9_write 49 = .ok (.ireturn, 1) := by decide +kernel
theorem dX9_tear_0 : decode cX9_tear 0 = .ok (.aload_n 0, 1) := by decide +kernel
theorem dX9_tear_1 : decode cX9_tear 1 = .ok (.getfield 66, 3) := by decide +kernel
theorem dX9_tear_4 : decode cX9_tear 4 = .ok (.getfield 139, 3) := by decide +kernel
theorem dX9_tear_7 : decode cX9_tear 7 = .ok (.aload_n 0, 1) := by decide +kernel
theorem dX9_tear_8 : decode cX9_tear 8 = .ok (.getfield 66, 3) := by decide +kernel
theorem dX9_tear_11 : decode cX9_tear 11 = .ok (.getfield 142, 3) := by decide +kernel
theorem dX9_tear_14 : decode cX9_tear 14 = .ok (.iadd, 1) := by decide +kernel
theorem dX9_tear_15 : decode cX9_tear 15 = .ok (.istore_n 1, 1) := by decide +kernel
theorem dX9_tear_16 : decode cX9_tear 16 = .ok (.aload_n 0, 1) := by decide +kernel
theorem dX9_tear_17 : decode cX9_tear 17 = .ok (.getfield 66, 3) := by decide +kernel
theorem dX9_tear_20 : decode cX9_tear 20 = .ok (.invokevirtual 101, 3) := by decide +kernel
theorem dX9_tear_23 : decode cX9_tear 23 = .ok (.iload_n 1, 1) := by decide +kernel
theorem dX9_tear_24 : decode cX9_tear 24 = .ok (.ireturn, 1) := by decide +kernel
theorem dX9_judge_0 : decode cX9_judge 0 = .ok (.aload_n 0, 1) := by decide +kernel
theorem dX9_judge_1 : decode cX9_judge 1 = .ok (.getfield 66, 3) := by decide +kernel
theorem dX9_judge_4 : decode cX9_judge 4 = .ok (.invokevirtual 302, 3) := by decide +kernel
theorem dX9_judge_7 : decode cX9_judge 7 = .ok (.ireturn, 1) := by decide +kernel
theorem dX9_seed_0 : decode cX9_seed 0 = .ok (.iload_n 1, 1) := by decide +kernel
theorem dX9_seed_1 : decode cX9_seed 1 = .ok (.ifCond .ge 6, 3) := by decide +kernel
theorem dX9_seed_4 : decode cX9_seed 4 = .ok (.ldc 74, 2) := by decide +kernel
theorem dX9_seed_6 : decode cX9_seed 6 = .ok (.ireturn, 1) := by decide +kernel
theorem dX9_seed_7 : decode cX9_seed 7 = .ok (.aload_n 0, 1) := by decide +kernel
theorem dX9_seed_8 : decode cX9_seed 8 = .ok (.getfield 45, 3) := by decide +kernel
theorem dX9_seed_11 : decode cX9_seed 11 = .ok (.getfield 305, 3) := by decide +kernel
theorem dX9_seed_14 : decode cX9_seed 14 = .ok (.istore_n 2, 1) := by decide +kernel
theorem dX9_seed_15 : decode cX9_seed 15 = .ok (.aload_n 0, 1) := by decide +kernel
theorem dX9_seed_16 : decode cX9_seed 16 = .ok (.getfield 45, 3) := by decide +kernel
theorem dX9_seed_19 : decode cX9_seed 19 = .ok (.iload_n 1, 1) := by decide +kernel
theorem dX9_seed_20 : decode cX9_seed 20 = .ok (.putfield 305, 3) := by decide +kernel
theorem dX9_seed_23 : decode cX9_seed 23 = .ok (.iload_n 2, 1) := by decide +kernel
theorem dX9_seed_24 : decode cX9_seed 24 = .ok (.ireturn, 1) := by decide +kernel
theorem dX9_keep_0 : decode cX9_keep 0 = .ok (.iload_n 1, 1) := by decide +kernel
theorem dX9_keep_1 : decode cX9_keep 1 = .ok (.ifCond .lt 12, 3) := by decide +kernel
theorem dX9_keep_4 : decode cX9_keep 4 = .ok (.iload_n 1, 1) := by decide +kernel
theorem dX9_keep_5 : decode cX9_keep 5 = .ok (.aload_n 0, 1) := by decide +kernel
theorem dX9_keep_6 : decode cX9_keep 6 = .ok (.getfield 70, 3) := by decide +kernel
theorem dX9_keep_9 : decode cX9_keep 9 = .ok (.arraylength, 1) := by decide +kernel
theorem dX9_keep_10 : decode cX9_keep 10 = .ok (.if_icmp .lt 6, 3) := by decide +kernel
theorem dX9_keep_13 : decode cX9_keep 13 = .ok (.ldc 153, 2) := by decide +kernel
theorem dX9_keep_15 : decode cX9_keep 15 = .ok (.ireturn, 1) := by decide +kernel
theorem dX9_keep_16 : decode cX9_keep 16 = .ok (.aload_n 0, 1) := by decide +kernel
theorem dX9_keep_17 : decode cX9_keep 17 = .ok (.getfield 70, 3) := by decide +kernel
theorem dX9_keep_20 : decode cX9_keep 20 = .ok (.iload_n 1, 1) := by decide +kernel
theorem dX9_keep_21 : decode cX9_keep 21 = .ok (.aaload, 1) := by decide +kernel
theorem dX9_keep_22 : decode cX9_keep 22 = .ok (.astore_n 2, 1) := by decide +kernel
theorem dX9_keep_23 : decode cX9_keep 23 = .ok (.aload_n 2, 1) := by decide +kernel
theorem dX9_keep_24 : decode cX9_keep 24 = .ok (.getfield 308, 3) := by decide +kernel
theorem dX9_keep_27 : decode cX9_keep 27 = .ok (.aload_n 0, 1) := by decide +kernel
theorem dX9_keep_28 : decode cX9_keep 28 = .ok (.getfield 29, 3) := by decide +kernel
theorem dX9_keep_31 : decode cX9_keep 31 = .ok (.invokevirtual 311, 3) := by decide +kernel
theorem dX9_keep_34 : decode cX9_keep 34 = .ok (.aload_n 2, 1) := by decide +kernel
theorem dX9_keep_35 : decode cX9_keep 35 = .ok (.aload_n 0, 1) := by decide +kernel
theorem dX9_keep_36 : decode cX9_keep 36 = .ok (.getfield 45, 3) := by decide +kernel
theorem dX9_keep_39 : decode cX9_keep 39 = .ok (.getfield 305, 3) := by decide +kernel
theorem dX9_keep_42 : decode cX9_keep 42 = .ok (.putfield 313, 3) := by decide +kernel
theorem dX9_keep_45 : decode cX9_keep 45 = .ok (.aload_n 2, 1) := by decide +kernel
theorem dX9_keep_46 : decode cX9_keep 46 = .ok (.iconst 1, 1) := by decide +kernel
theorem dX9_keep_47 : decode cX9_keep 47 = .ok (.putfield 104, 3) := by decide +kernel
theorem dX9_keep_50 : decode cX9_keep 50 = .ok (.aload_n 0, 1) := by decide +kernel
theorem dX9_keep_51 : decode cX9_keep 51 = .ok (.getfield 36, 3) := by decide +kernel
theorem dX9_keep_54 : decode cX9_keep 54 = .ok (.invokevirtual 98, 3) := by decide +kernel
theorem dX9_keep_57 : decode cX9_keep 57 = .ok (.iconst 1, 1) := by decide +kernel
theorem dX9_keep_58 : decode cX9_keep 58 = .ok (.ireturn, 1) := by decide +kernel
theorem dX9_goBack_0 : decode cX9_goBack 0 = .ok (.iload_n 1, 1) := by decide +kernel
theorem dX9_goBack_1 : decode cX9_goBack 1 = .ok (.ifCond .lt 12, 3) := by decide +kernel
theorem dX9_goBack_4 : decode cX9_goBack 4 = .ok (.iload_n 1, 1) := by decide +kernel
theorem dX9_goBack_5 : decode cX9_goBack 5 = .ok (.aload_n 0, 1) := by decide +kernel
theorem dX9_goBack_6 : decode cX9_goBack 6 = .ok (.getfield 70, 3) := by decide +kernel
theorem dX9_goBack_9 : decode cX9_goBack 9 = .ok (.arraylength, 1) := by decide +kernel
theorem dX9_goBack_10 : decode cX9_goBack 10 = .ok (.if_icmp .lt 6, 3) := by decide +kernel
theorem dX9_goBack_13 : decode cX9_goBack 13 = .ok (.ldc 153, 2) := by decide +kernel
theorem dX9_goBack_15 : decode cX9_goBack 15 = .ok (.ireturn, 1) := by decide +kernel
theorem dX9_goBack_16 : decode cX9_goBack 16 = .ok (.aload_n 0, 1) := by decide +kernel
theorem dX9_goBack_17 : decode cX9_goBack 17 = .ok (.getfield 70, 3) := by decide +kernel
theorem dX9_goBack_20 : decode cX9_goBack 20 = .ok (.iload_n 1, 1) := by decide +kernel
theorem dX9_goBack_21 : decode cX9_goBack 21 = .ok (.aaload, 1) := by decide +kernel
theorem dX9_goBack_22 : decode cX9_goBack 22 = .ok (.astore_n 2, 1) := by decide +kernel
theorem dX9_goBack_23 : decode cX9_goBack 23 = .ok (.aload_n 2, 1) := by decide +kernel
theorem dX9_goBack_24 : decode cX9_goBack 24 = .ok (.getfield 104, 3) := by decide +kernel
theorem dX9_goBack_27 : decode cX9_goBack 27 = .ok (.ifCond .ne 6, 3) := by decide +kernel
theorem dX9_goBack_30 : decode cX9_goBack 30 = .ok (.ldc 219, 2) := by decide +kernel
theorem dX9_goBack_32 : decode cX9_goBack 32 = .ok (.ireturn, 1) := by decide +kernel
theorem dX9_goBack_33 : decode cX9_goBack 33 = .ok (.aload_n 0, 1) := by decide +kernel
theorem dX9_goBack_34 : decode cX9_goBack 34 = .ok (.getfield 29, 3) := by decide +kernel
theorem dX9_goBack_37 : decode cX9_goBack 37 = .ok (.aload_n 2, 1) := by decide +kernel
theorem dX9_goBack_38 : decode cX9_goBack 38 = .ok (.getfield 308, 3) := by decide +kernel
theorem dX9_goBack_41 : decode cX9_goBack 41 = .ok (.invokevirtual 311, 3) := by decide +kernel
theorem dX9_goBack_44 : decode cX9_goBack 44 = .ok (.aload_n 0, 1) := by decide +kernel
theorem dX9_goBack_45 : decode cX9_goBack 45 = .ok (.getfield 45, 3) := by decide +kernel
theorem dX9_goBack_48 : decode cX9_goBack 48 = .ok (.aload_n 2, 1) := by decide +kernel
theorem dX9_goBack_49 : decode cX9_goBack 49 = .ok (.getfield 313, 3) := by decide +kernel
theorem dX9_goBack_52 : decode cX9_goBack 52 = .ok (.putfield 305, 3) := by decide +kernel
theorem dX9_goBack_55 : decode cX9_goBack 55 = .ok (.aload_n 0, 1) := by decide +kernel
theorem dX9_goBack_56 : decode cX9_goBack 56 = .ok (.getfield 36, 3) := by decide +kernel
theorem dX9_goBack_59 : decode cX9_goBack 59 = .ok (.invokevirtual 98, 3) := by decide +kernel
theorem dX9_goBack_62 : decode cX9_goBack 62 = .ok (.iconst 1, 1) := by decide +kernel
theorem dX9_goBack_63 : decode cX9_goBack 63 = .ok (.ireturn, 1) := by decide +kernel
theorem dX9_refusalOfMinutes_0 : decode cX9_refusalOfMinutes 0 = .ok (.iload_n 1, 1) := by decide +kernel
theorem dX9_refusalOfMinutes_1 : decode cX9_refusalOfMinutes 1 = .ok (.iconst 1, 1) := by decide +kernel
theorem dX9_refusalOfMinutes_2 : decode cX9_refusalOfMinutes 2 = .ok (.if_icmp .lt 9, 3) := by decide +kernel
theorem dX9_refusalOfMinutes_5 : decode cX9_refusalOfMinutes 5 = .ok (.iload_n 1, 1) := by decide +kernel
theorem dX9_refusalOfMinutes_6 : decode cX9_refusalOfMinutes 6 = .ok (.bipush 60, 2) := by decide +kernel
theorem dX9_refusalOfMinutes_8 : decode cX9_refusalOfMinutes 8 = .ok (.if_icmp .le 6, 3) := by decide +kernel
theorem dX9_refusalOfMinutes_11 : decode cX9_refusalOfMinutes 11 = .ok (.ldc 74, 2) := by decide +kernel
theorem dX9_refusalOfMinutes_13 : decode cX9_refusalOfMinutes 13 = .ok (.ireturn, 1) := by decide +kernel
theorem dX9_refusalOfMinutes_14 : decode cX9_refusalOfMinutes 14 = .ok (.aload_n 0, 1) := by decide +kernel
theorem dX9_refusalOfMinutes_15 : decode cX9_refusalOfMinutes 15 = .ok (.getfield 25, 3) := by decide +kernel
theorem dX9_refusalOfMinutes_18 : decode cX9_refusalOfMinutes 18 = .ok (.getfield 114, 3) := by decide +kernel
theorem dX9_refusalOfMinutes_21 : decode cX9_refusalOfMinutes 21 = .ok (.ifCond .ne 6, 3) := by decide +kernel
theorem dX9_refusalOfMinutes_24 : decode cX9_refusalOfMinutes 24 = .ok (.ldc 219, 2) := by decide +kernel
theorem dX9_refusalOfMinutes_26 : decode cX9_refusalOfMinutes 26 = .ok (.ireturn, 1) := by decide +kernel
theorem dX9_refusalOfMinutes_27 : decode cX9_refusalOfMinutes 27 = .ok (.aload_n 0, 1) := by decide +kernel
theorem dX9_refusalOfMinutes_28 : decode cX9_refusalOfMinutes 28 = .ok (.getfield 29, 3) := by decide +kernel
theorem dX9_refusalOfMinutes_31 : decode cX9_refusalOfMinutes 31 = .ok (.getfield 126, 3) := by decide +kernel
theorem dX9_refusalOfMinutes_34 : decode cX9_refusalOfMinutes 34 = .ok (.sipush 9000, 3) := by decide +kernel
theorem dX9_refusalOfMinutes_37 : decode cX9_refusalOfMinutes 37 = .ok (.if_icmp .le 8, 3) := by decide +kernel
theorem dX9_refusalOfMinutes_40 : decode cX9_refusalOfMinutes 40 = .ok (.ldc 83, 2) := by decide +kernel
theorem dX9_refusalOfMinutes_42 : decode cX9_refusalOfMinutes 42 = .ok (.goto 4, 3) := by decide +kernel
theorem dX9_refusalOfMinutes_45 : decode cX9_refusalOfMinutes 45 = .ok (.iconst 0, 1) := by decide +kernel
theorem dX9_refusalOfMinutes_46 : decode cX9_refusalOfMinutes 46 = .ok (.ireturn, 1) := by decide +kernel
theorem dX9_isForeseen_0 : decode cX9_isForeseen 0 = .ok (.iload_n 0, 1) := by decide +kernel
theorem dX9_isForeseen_1 : decode cX9_isForeseen 1 = .ok (.iload_n 1, 1) := by decide +kernel
theorem dX9_isForeseen_2 : decode cX9_isForeseen 2 = .ok (.if_icmp .lt 13, 3) := by decide +kernel
theorem dX9_isForeseen_5 : decode cX9_isForeseen 5 = .ok (.iload_n 0, 1) := by decide +kernel
theorem dX9_isForeseen_6 : decode cX9_isForeseen 6 = .ok (.bipush 20, 2) := by decide +kernel
theorem dX9_isForeseen_8 : decode cX9_isForeseen 8 = .ok (.if_icmp .gt 7, 3) := by decide +kernel
theorem dX9_isForeseen_11 : decode cX9_isForeseen 11 = .ok (.iconst 1, 1) := by decide +kernel
theorem dX9_isForeseen_12 : decode cX9_isForeseen 12 = .ok (.goto 4, 3) := by decide +kernel
theorem dX9_isForeseen_15 : decode cX9_isForeseen 15 = .ok (.iconst 0, 1) := by decide +kernel
theorem dX9_isForeseen_16 : decode cX9_isForeseen 16 = .ok (.ireturn, 1) := by decide +kernel
theorem dX9_has_0 : decode cX9_has 0 = .ok (.iload_n 0, 1) := by decide +kernel
theorem dX9_has_1 : decode cX9_has 1 = .ok (.iload_n 1, 1) := by decide +kernel
theorem dX9_has_2 : decode cX9_has 2 = .ok (.ishr, 1) := by decide +kernel
theorem dX9_has_3 : decode cX9_has 3 = .ok (.iconst 1, 1) := by decide +kernel
theorem dX9_has_4 : decode cX9_has 4 = .ok (.iand, 1) := by decide +kernel
theorem dX9_has_5 : decode cX9_has 5 = .ok (.iconst 1, 1) := by decide +kernel
theorem dX9_has_6 : decode cX9_has 6 = .ok (.if_icmp .ne 7, 3) := by decide +kernel
theorem dX9_has_9 : decode cX9_has 9 = .ok (.iconst 1, 1) := by decide +kernel
theorem dX9_has_10 : decode cX9_has 10 = .ok (.goto 4, 3) := by decide +kernel
theorem dX9_has_13 : decode cX9_has 13 = .ok (.iconst 0, 1) := by decide +kernel
theorem dX9_has_14 : decode cX9_has 14 = .ok (.ireturn, 1) := by decide +kernel
theorem dX9_sideOf_0 : decode cX9_sideOf 0 = .ok (.iconst 2, 1) := by decide +kernel
theorem dX9_sideOf_1 : decode cX9_sideOf 1 = .ok (.iload_n 0, 1) := by decide +kernel
theorem dX9_sideOf_2 : decode cX9_sideOf 2 = .ok (.imul, 1) := by decide +kernel
theorem dX9_sideOf_3 : decode cX9_sideOf 3 = .ok (.iload_n 1, 1) := by decide +kernel
theorem dX9_sideOf_4 : decode cX9_sideOf 4 = .ok (.iadd, 1) := by decide +kernel
theorem dX9_sideOf_5 : decode cX9_sideOf 5 = .ok (.ireturn, 1) := by decide +kernel
theorem dX9_stepsOf_0 : decode cX9_stepsOf 0 = .ok (.iconst 0, 1) := by decide +kernel
theorem dX9_stepsOf_1 : decode cX9_stepsOf 1 = .ok (.istore_n 1, 1) := by decide +kernel
theorem dX9_stepsOf_2 : decode cX9_stepsOf 2 = .ok (.iload_n 0, 1) := by decide +kernel
theorem dX9_stepsOf_3 : decode cX9_stepsOf 3 = .ok (.istore_n 2, 1) := by decide +kernel
theorem dX9_stepsOf_4 : decode cX9_stepsOf 4 = .ok (.iload_n 2, 1) := by decide +kernel
theorem dX9_stepsOf_5 : decode cX9_stepsOf 5 = .ok (.ifCond .le 20, 3) := by decide +kernel
theorem dX9_stepsOf_8 : decode cX9_stepsOf 8 = .ok (.iload_n 1, 1) := by decide +kernel
theorem dX9_stepsOf_9 : decode cX9_stepsOf 9 = .ok (.bipush 9, 2) := by decide +kernel
theorem dX9_stepsOf_11 : decode cX9_stepsOf 11 = .ok (.if_icmp .ge 14, 3) := by decide +kernel
theorem dX9_stepsOf_14 : decode cX9_stepsOf 14 = .ok (.iinc 1 1, 3) := by decide +kernel
theorem dX9_stepsOf_17 : decode cX9_stepsOf 17 = .ok (.iload_n 2, 1) := by decide +kernel
theorem dX9_stepsOf_18 : decode cX9_stepsOf 18 = .ok (.bipush 10, 2) := by decide +kernel
theorem dX9_stepsOf_20 : decode cX9_stepsOf 20 = .ok (.idiv, 1) := by decide +kernel
theorem dX9_stepsOf_21 : decode cX9_stepsOf 21 = .ok (.istore_n 2, 1) := by decide +kernel
theorem dX9_stepsOf_22 : decode cX9_stepsOf 22 = .ok (.goto (-18), 3) := by decide +kernel
theorem dX9_stepsOf_25 : decode cX9_stepsOf 25 = .ok (.iload_n 1, 1) := by decide +kernel
theorem dX9_stepsOf_26 : decode cX9_stepsOf 26 = .ok (.ireturn, 1) := by decide +kernel
theorem dX9_turnedRound_0 : decode cX9_turnedRound 0 = .ok (.iconst 0, 1) := by decide +kernel
theorem dX9_turnedRound_1 : decode cX9_turnedRound 1 = .ok (.istore_n 1, 1) := by decide +kernel
theorem dX9_turnedRound_2 : decode cX9_turnedRound 2 = .ok (.iload_n 0, 1) := by decide +kernel
theorem dX9_turnedRound_3 : decode cX9_turnedRound 3 = .ok (.istore_n 2, 1) := by decide +kernel
theorem dX9_turnedRound_4 : decode cX9_turnedRound 4 = .ok (.iconst 0, 1) := by decide +kernel
theorem dX9_turnedRound_5 : decode cX9_turnedRound 5 = .ok (.istore_n 3, 1) := by decide +kernel
theorem dX9_turnedRound_6 : decode cX9_turnedRound 6 = .ok (.iload_n 3, 1) := by decide +kernel
theorem dX9_turnedRound_7 : decode cX9_turnedRound 7 = .ok (.bipush 9, 2) := by decide +kernel
theorem dX9_turnedRound_9 : decode cX9_turnedRound 9 = .ok (.if_icmp .ge 28, 3) := by decide +kernel
theorem dX9_turnedRound_12 : decode cX9_turnedRound 12 = .ok (.iload_n 2, 1) := by decide +kernel
theorem dX9_turnedRound_13 : decode cX9_turnedRound 13 = .ok (.ifCond .le 24, 3) := by decide +kernel
theorem dX9_turnedRound_16 : decode cX9_turnedRound 16 = .ok (.iload_n 1, 1) := by decide +kernel
theorem dX9_turnedRound_17 : decode cX9_turnedRound 17 = .ok (.bipush 10, 2) := by decide +kernel
theorem dX9_turnedRound_19 : decode cX9_turnedRound 19 = .ok (.imul, 1) := by decide +kernel
theorem dX9_turnedRound_20 : decode cX9_turnedRound 20 = .ok (.iload_n 2, 1) := by decide +kernel
theorem dX9_turnedRound_21 : decode cX9_turnedRound 21 = .ok (.bipush 10, 2) := by decide +kernel
theorem dX9_turnedRound_23 : decode cX9_turnedRound 23 = .ok (.irem, 1) := by decide +kernel
theorem dX9_turnedRound_24 : decode cX9_turnedRound 24 = .ok (.iadd, 1) := by decide +kernel
theorem dX9_turnedRound_25 : decode cX9_turnedRound 25 = .ok (.istore_n 1, 1) := by decide +kernel
theorem dX9_turnedRound_26 : decode cX9_turnedRound 26 = .ok (.iload_n 2, 1) := by decide +kernel
theorem dX9_turnedRound_27 : decode cX9_turnedRound 27 = .ok (.bipush 10, 2) := by decide +kernel
theorem dX9_turnedRound_29 : decode cX9_turnedRound 29 = .ok (.idiv, 1) := by decide +kernel
theorem dX9_turnedRound_30 : decode cX9_turnedRound 30 = .ok (.istore_n 2, 1) := by decide +kernel
theorem dX9_turnedRound_31 : decode cX9_turnedRound 31 = .ok (.iinc 3 1, 3) := by decide +kernel
theorem dX9_turnedRound_34 : decode cX9_turnedRound 34 = .ok (.goto (-28), 3) := by decide +kernel
theorem dX9_turnedRound_37 : decode cX9_turnedRound 37 = .ok (.iload_n 1, 1) := by decide +kernel
theorem dX9_turnedRound_38 : decode cX9_turnedRound 38 = .ok (.ireturn, 1) := by decide +kernel
theorem dX9_spell_0 : decode cX9_spell 0 = .ok (.iload_n 0, 1) := by decide +kernel
theorem dX9_spell_1 : decode cX9_spell 1 = .ok (.istore 4, 2) := by decide +kernel
theorem dX9_spell_3 : decode cX9_spell 3 = .ok (.iload_n 3, 1) := by decide +kernel
theorem dX9_spell_4 : decode cX9_spell 4 = .ok (.aload_n 2, 1) := by decide +kernel
theorem dX9_spell_5 : decode cX9_spell 5 = .ok (.arraylength, 1) := by decide +kernel
theorem dX9_spell_6 : decode cX9_spell 6 = .ok (.invokestatic 316, 3) := by decide +kernel
theorem dX9_spell_9 : decode cX9_spell 9 = .ok (.iconst 1, 1) := by decide +kernel
theorem dX9_spell_10 : decode cX9_spell 10 = .ok (.isub, 1) := by decide +kernel
theorem dX9_spell_11 : decode cX9_spell 11 = .ok (.istore 5, 2) := by decide +kernel
theorem dX9_spell_13 : decode cX9_spell 13 = .ok (.iload 5, 2) := by decide +kernel
theorem dX9_spell_15 : decode cX9_spell 15 = .ok (.ifCond .lt 39, 3) := by decide +kernel
theorem dX9_spell_18 : decode cX9_spell 18 = .ok (.aload_n 2, 1) := by decide +kernel
theorem dX9_spell_19 : decode cX9_spell 19 = .ok (.iload 5, 2) := by decide +kernel
theorem dX9_spell_21 : decode cX9_spell 21 = .ok (.iload_n 1, 1) := by decide +kernel
theorem dX9_spell_22 : decode cX9_spell 22 = .ok (.ifCond .le 10, 3) := by decide +kernel
theorem dX9_spell_25 : decode cX9_spell 25 = .ok (.iload 4, 2) := by decide +kernel
theorem dX9_spell_27 : decode cX9_spell 27 = .ok (.iload_n 1, 1) := by decide +kernel
theorem dX9_spell_28 : decode cX9_spell 28 = .ok (.irem, 1) := by decide +kernel
theorem dX9_spell_29 : decode cX9_spell 29 = .ok (.goto 4, 3) := by decide +kernel
theorem dX9_spell_32 : decode cX9_spell 32 = .ok (.iconst 0, 1) := by decide +kernel
theorem dX9_spell_33 : decode cX9_spell 33 = .ok (.iastore, 1) := by decide +kernel
theorem dX9_spell_34 : decode cX9_spell 34 = .ok (.iload_n 1, 1) := by decide +kernel
theorem dX9_spell_35 : decode cX9_spell 35 = .ok (.ifCond .le 10, 3) := by decide +kernel
theorem dX9_spell_38 : decode cX9_spell 38 = .ok (.iload 4, 2) := by decide +kernel
theorem dX9_spell_40 : decode cX9_spell 40 = .ok (.iload_n 1, 1) := by decide +kernel
theorem dX9_spell_41 : decode cX9_spell 41 = .ok (.idiv, 1) := by decide +kernel
theorem dX9_spell_42 : decode cX9_spell 42 = .ok (.goto 4, 3) := by decide +kernel
theorem dX9_spell_45 : decode cX9_spell 45 = .ok (.iconst 0, 1) := by decide +kernel
theorem dX9_spell_46 : decode cX9_spell 46 = .ok (.istore 4, 2) := by decide +kernel
theorem dX9_spell_48 : decode cX9_spell 48 = .ok (.iinc 5 (-1), 3) := by decide +kernel
theorem dX9_spell_51 : decode cX9_spell 51 = .ok (.goto (-38), 3) := by decide +kernel
theorem dX9_spell_54 : decode cX9_spell 54 = .ok (.return_, 1) := by decide +kernel
theorem dX9_power_0 : decode cX9_power 0 = .ok (.iconst 1, 1) := by decide +kernel
theorem dX9_power_1 : decode cX9_power 1 = .ok (.istore_n 2, 1) := by decide +kernel
theorem dX9_power_2 : decode cX9_power 2 = .ok (.iconst 0, 1) := by decide +kernel
theorem dX9_power_3 : decode cX9_power 3 = .ok (.istore_n 3, 1) := by decide +kernel
theorem dX9_power_4 : decode cX9_power 4 = .ok (.iload_n 3, 1) := by decide +kernel
theorem dX9_power_5 : decode cX9_power 5 = .ok (.iload_n 1, 1) := by decide +kernel
theorem dX9_power_6 : decode cX9_power 6 = .ok (.if_icmp .ge 13, 3) := by decide +kernel
theorem dX9_power_9 : decode cX9_power 9 = .ok (.iload_n 2, 1) := by decide +kernel
theorem dX9_power_10 : decode cX9_power 10 = .ok (.iload_n 0, 1) := by decide +kernel
theorem dX9_power_11 : decode cX9_power 11 = .ok (.imul, 1) := by decide +kernel
theorem dX9_power_12 : decode cX9_power 12 = .ok (.istore_n 2, 1) := by decide +kernel
theorem dX9_power_13 : decode cX9_power 13 = .ok (.iinc 3 1, 3) := by decide +kernel
theorem dX9_power_16 : decode cX9_power 16 = .ok (.goto (-12), 3) := by decide +kernel
theorem dX9_power_19 : decode cX9_power 19 = .ok (.iload_n 2, 1) := by decide +kernel
theorem dX9_power_20 : decode cX9_power 20 = .ok (.ireturn, 1) := by decide +kernel
theorem dJ6_bitCount_0f7a4_0 : decode cJ6_bitCount_0f7a4 0 = .ok (.iload_n 0, 1) := by decide +kernel
theorem dJ6_bitCount_0f7a4_1 : decode cJ6_bitCount_0f7a4 1 = .ok (.iload_n 0, 1) := by decide +kernel
theorem dJ6_bitCount_0f7a4_2 : decode cJ6_bitCount_0f7a4 2 = .ok (.iconst 1, 1) := by decide +kernel
theorem dJ6_bitCount_0f7a4_3 : decode cJ6_bitCount_0f7a4 3 = .ok (.iushr, 1) := by decide +kernel
theorem dJ6_bitCount_0f7a4_4 : decode cJ6_bitCount_0f7a4 4 = .ok (.ldc_w 265, 3) := by decide +kernel
theorem dJ6_bitCount_0f7a4_7 : decode cJ6_bitCount_0f7a4 7 = .ok (.iand, 1) := by decide +kernel
theorem dJ6_bitCount_0f7a4_8 : decode cJ6_bitCount_0f7a4 8 = .ok (.isub, 1) := by decide +kernel
theorem dJ6_bitCount_0f7a4_9 : decode cJ6_bitCount_0f7a4 9 = .ok (.istore_n 0, 1) := by decide +kernel
theorem dJ6_bitCount_0f7a4_10 : decode cJ6_bitCount_0f7a4 10 = .ok (.iload_n 0, 1) := by decide +kernel
theorem dJ6_bitCount_0f7a4_11 : decode cJ6_bitCount_0f7a4 11 = .ok (.ldc_w 266, 3) := by decide +kernel
theorem dJ6_bitCount_0f7a4_14 : decode cJ6_bitCount_0f7a4 14 = .ok (.iand, 1) := by decide +kernel
theorem dJ6_bitCount_0f7a4_15 : decode cJ6_bitCount_0f7a4 15 = .ok (.iload_n 0, 1) := by decide +kernel
theorem dJ6_bitCount_0f7a4_16 : decode cJ6_bitCount_0f7a4 16 = .ok (.iconst 2, 1) := by decide +kernel
theorem dJ6_bitCount_0f7a4_17 : decode cJ6_bitCount_0f7a4 17 = .ok (.iushr, 1) := by decide +kernel
theorem dJ6_bitCount_0f7a4_18 : decode cJ6_bitCount_0f7a4 18 = .ok (.ldc_w 266, 3) := by decide +kernel
theorem dJ6_bitCount_0f7a4_21 : decode cJ6_bitCount_0f7a4 21 = .ok (.iand, 1) := by decide +kernel
theorem dJ6_bitCount_0f7a4_22 : decode cJ6_bitCount_0f7a4 22 = .ok (.iadd, 1) := by decide +kernel
theorem dJ6_bitCount_0f7a4_23 : decode cJ6_bitCount_0f7a4 23 = .ok (.istore_n 0, 1) := by decide +kernel
theorem dJ6_bitCount_0f7a4_24 : decode cJ6_bitCount_0f7a4 24 = .ok (.iload_n 0, 1) := by decide +kernel
theorem dJ6_bitCount_0f7a4_25 : decode cJ6_bitCount_0f7a4 25 = .ok (.iload_n 0, 1) := by decide +kernel
theorem dJ6_bitCount_0f7a4_26 : decode cJ6_bitCount_0f7a4 26 = .ok (.iconst 4, 1) := by decide +kernel
theorem dJ6_bitCount_0f7a4_27 : decode cJ6_bitCount_0f7a4 27 = .ok (.iushr, 1) := by decide +kernel
theorem dJ6_bitCount_0f7a4_28 : decode cJ6_bitCount_0f7a4 28 = .ok (.iadd, 1) := by decide +kernel
theorem dJ6_bitCount_0f7a4_29 : decode cJ6_bitCount_0f7a4 29 = .ok (.ldc_w 267, 3) := by decide +kernel
theorem dJ6_bitCount_0f7a4_32 : decode cJ6_bitCount_0f7a4 32 = .ok (.iand, 1) := by decide +kernel
theorem dJ6_bitCount_0f7a4_33 : decode cJ6_bitCount_0f7a4 33 = .ok (.istore_n 0, 1) := by decide +kernel
theorem dJ6_bitCount_0f7a4_34 : decode cJ6_bitCount_0f7a4 34 = .ok (.iload_n 0, 1) := by decide +kernel
theorem dJ6_bitCount_0f7a4_35 : decode cJ6_bitCount_0f7a4 35 = .ok (.iload_n 0, 1) := by decide +kernel
theorem dJ6_bitCount_0f7a4_36 : decode cJ6_bitCount_0f7a4 36 = .ok (.bipush 8, 2) := by decide +kernel
theorem dJ6_bitCount_0f7a4_38 : decode cJ6_bitCount_0f7a4 38 = .ok (.iushr, 1) := by decide +kernel
theorem dJ6_bitCount_0f7a4_39 : decode cJ6_bitCount_0f7a4 39 = .ok (.iadd, 1) := by decide +kernel
theorem dJ6_bitCount_0f7a4_40 : decode cJ6_bitCount_0f7a4 40 = .ok (.istore_n 0, 1) := by decide +kernel
theorem dJ6_bitCount_0f7a4_41 : decode cJ6_bitCount_0f7a4 41 = .ok (.iload_n 0, 1) := by decide +kernel
theorem dJ6_bitCount_0f7a4_42 : decode cJ6_bitCount_0f7a4 42 = .ok (.iload_n 0, 1) := by decide +kernel
theorem dJ6_bitCount_0f7a4_43 : decode cJ6_bitCount_0f7a4 43 = .ok (.bipush 16, 2) := by decide +kernel
theorem dJ6_bitCount_0f7a4_45 : decode cJ6_bitCount_0f7a4 45 = .ok (.iushr, 1) := by decide +kernel
theorem dJ6_bitCount_0f7a4_46 : decode cJ6_bitCount_0f7a4 46 = .ok (.iadd, 1) := by decide +kernel
theorem dJ6_bitCount_0f7a4_47 : decode cJ6_bitCount_0f7a4 47 = .ok (.istore_n 0, 1) := by decide +kernel
theorem dJ6_bitCount_0f7a4_48 : decode cJ6_bitCount_0f7a4 48 = .ok (.iload_n 0, 1) := by decide +kernel
theorem dJ6_bitCount_0f7a4_49 : decode cJ6_bitCount_0f7a4 49 = .ok (.bipush 63, 2) := by decide +kernel
theorem dJ6_bitCount_0f7a4_51 : decode cJ6_bitCount_0f7a4 51 = .ok (.iand, 1) := by decide +kernel
theorem dJ6_bitCount_0f7a4_52 : decode cJ6_bitCount_0f7a4 52 = .ok (.ireturn, 1) := by decide +kernel
theorem dJ9_abs_0f7a4_0 : decode cJ9_abs_0f7a4 0 = .ok (.iload_n 0, 1) := by decide +kernel
theorem dJ9_abs_0f7a4_1 : decode cJ9_abs_0f7a4 1 = .ok (.ifCond .ge 8, 3) := by decide +kernel
theorem dJ9_abs_0f7a4_4 : decode cJ9_abs_0f7a4 4 = .ok (.iload_n 0, 1) := by decide +kernel
theorem dJ9_abs_0f7a4_5 : decode cJ9_abs_0f7a4 5 = .ok (.ineg, 1) := by decide +kernel
theorem dJ9_abs_0f7a4_6 : decode cJ9_abs_0f7a4 6 = .ok (.goto 4, 3) := by decide +kernel
theorem dJ9_abs_0f7a4_9 : decode cJ9_abs_0f7a4 9 = .ok (.iload_n 0, 1) := by decide +kernel
theorem dJ9_abs_0f7a4_10 : decode cJ9_abs_0f7a4 10 = .ok (.ireturn, 1) := by decide +kernel
theorem dJ9_max_7cf53_0 : decode cJ9_max_7cf53 0 = .ok (.iload_n 0, 1) := by decide +kernel
theorem dJ9_max_7cf53_1 : decode cJ9_max_7cf53 1 = .ok (.iload_n 1, 1) := by decide +kernel
theorem dJ9_max_7cf53_2 : decode cJ9_max_7cf53 2 = .ok (.if_icmp .lt 7, 3) := by decide +kernel
theorem dJ9_max_7cf53_5 : decode cJ9_max_7cf53 5 = .ok (.iload_n 0, 1) := by decide +kernel
theorem dJ9_max_7cf53_6 : decode cJ9_max_7cf53 6 = .ok (.goto 4, 3) := by decide +kernel
theorem dJ9_max_7cf53_9 : decode cJ9_max_7cf53 9 = .ok (.iload_n 1, 1) := by decide +kernel
theorem dJ9_max_7cf53_10 : decode cJ9_max_7cf53 10 = .ok (.ireturn, 1) := by decide +kernel
theorem dJ9_min_7cf53_0 : decode cJ9_min_7cf53 0 = .ok (.iload_n 0, 1) := by decide +kernel
theorem dJ9_min_7cf53_1 : decode cJ9_min_7cf53 1 = .ok (.iload_n 1, 1) := by decide +kernel
theorem dJ9_min_7cf53_2 : decode cJ9_min_7cf53 2 = .ok (.if_icmp .gt 7, 3) := by decide +kernel
theorem dJ9_min_7cf53_5 : decode cJ9_min_7cf53 5 = .ok (.iload_n 0, 1) := by decide +kernel
theorem dJ9_min_7cf53_6 : decode cJ9_min_7cf53 6 = .ok (.goto 4, 3) := by decide +kernel
theorem dJ9_min_7cf53_9 : decode cJ9_min_7cf53 9 = .ok (.iload_n 1, 1) := by decide +kernel
theorem dJ9_min_7cf53_10 : decode cJ9_min_7cf53 10 = .ok (.ireturn, 1) := by decide +kernel
